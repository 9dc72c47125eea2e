set_option maxHeartbeats 4000000 in
set_option maxRecDepth 100000 in
theorem s_X7_suspects (o_me : Ob) (o_me_court : Ob) (o_me_court_isles : Ob) (o_me_court_isles_now : Ob) (o_me_court_machine : Ob) (o_pool : List CR) (hI_me : IvX7 o_me) (hI_me_court : IvX1 o_me_court) (hI_me_court_isles : IvX2 o_pool o_me_court_isles) (hI_me_court_isles_now : IvX4 o_me_court_isles_now) (hI_me_court_machine : IvX3 o_me_court_machine) (hI_pool : PLok o_pool)  : wp (f_X7_suspects   o_me o_me_court o_me_court_isles o_me_court_isles_now o_me_court_machine o_pool) (fun (y : Int32 × Ob) => (0 ≤ y.1.toInt ∧ y.1.toInt ≤ 127) ∧ IvX3 y.2 ∧ Kp [] [] [] o_me_court_machine y.2) := by
  have li0 : (0 : Int32).toInt = 0 := by decide
  have li1 : (1 : Int32).toInt = 1 := by decide
  unfold f_X7_suspects
  have lp1 : ∀ (N1 : Nat) (v1_1 : Int32) (v2_1 : Int32) (o_me_court_machine_1 : Ob), IvX3 o_me_court_machine_1 → Kp [] [] [] o_me_court_machine o_me_court_machine_1 → (0 ≤ v1_1.toInt ∧ v1_1.toInt ≤ 127) → (0 ≤ v2_1.toInt ∧ v2_1.toInt ≤ 7) → (7 - v2_1.toInt).toNat < N1 → wp (lp_X7_suspects_4 o_me o_me_court o_me_court_isles o_me_court_isles_now o_pool  N1 (v1_1, v2_1, o_me_court_machine_1)) (fun (y : Int32 × Ob) => (0 ≤ y.1.toInt ∧ y.1.toInt ≤ 127) ∧ IvX3 y.2 ∧ Kp [] [] [] o_me_court_machine y.2) := by
    intro N1
    induction N1 with
    | zero =>
      intro v1_1 v2_1 o_me_court_machine_1 hI_me_court_machine_1 hkp_me_court_machine_1 hh1 hh2 hN1
      exact absurd hN1 (Nat.not_lt_zero _)
    | succ N1 ihx =>
      have ih1 := ihx
      intro v1_1 v2_1 o_me_court_machine_1 hI_me_court_machine_1 hkp_me_court_machine_1 hh1 hh2 hN1
      show wp (lb_X7_suspects_4 o_me o_me_court o_me_court_isles o_me_court_isles_now o_pool  (lp_X7_suspects_4 o_me o_me_court o_me_court_isles o_me_court_isles_now o_pool  N1) v1_1 v2_1 o_me_court_machine_1) (fun (y : Int32 × Ob) => (0 ≤ y.1.toInt ∧ y.1.toInt ≤ 127) ∧ IvX3 y.2 ∧ Kp [] [] [] o_me_court_machine y.2)
      unfold lb_X7_suspects_4
      have t3 := igX2_7 hI_me_court_isles
      refine wp_if (fun c4 => ?_) (fun c4 => ?_)
      · have c4 := cv_ge (a := v2_1.toInt) (b := (gI o_me_court_isles 7).toInt) rfl rfl c4
        refine wp_some ?_
        exact (show (0 ≤ v1_1.toInt ∧ v1_1.toInt ≤ 127) ∧ IvX3 o_me_court_machine_1 ∧ Kp [] [] [] o_me_court_machine o_me_court_machine_1 from ⟨⟨by omega, by omega⟩, hI_me_court_machine_1, hkp_me_court_machine_1⟩)
      · have c4 := cv_nge (a := v2_1.toInt) (b := (gI o_me_court_isles 7).toInt) rfl rfl c4
        refine wp_bd (s_X7_fitsAllSeen   o_me o_me_court o_me_court_isles o_me_court_isles_now o_me_court_machine_1 o_pool v2_1  hI_me hI_me_court hI_me_court_isles hI_me_court_isles_now hI_me_court_machine_1 hI_pool  ⟨by omega, by omega⟩) (fun z5 hz5 => ?_)
        obtain ⟨hz5_0, hz5_1, hz5_2⟩ := hz5
        have hkpz5_me_court_machine : Kp [] [] [] o_me_court_machine z5.2 := hkp_me_court_machine_1.trans (hz5_2.mono (by decide) (by decide) (by decide))
        refine wp_if (fun c6 => ?_) (fun c6 => ?_)
        · have c6 := cv_eq (a := z5.1.toInt) (b := 0) rfl (by decide) c6
          unfold bk_X7_suspects_29
          refine wp_lt (fun x7 ex7 => ?_)
          have tx7 : x7.toInt = v2_1.toInt + 1 := by rw [ex7]; exact i32_add rfl (by decide) (by omega) (by omega)
          exact ih1 v1_1 x7 z5.2 hz5_1 hkpz5_me_court_machine ⟨by omega, by omega⟩ ⟨by omega, by omega⟩ (by omega)
        · have c6z := c6
          have c6 := cv_ne (a := z5.1.toInt) (b := 0) rfl (by decide) c6
          have t8 : 1 ≤ ((1 : Int32) <<< (v2_1 &&& 31)).toInt ∧ ((1 : Int32) <<< (v2_1 &&& 31)).toInt ≤ 64 := i32_shl6 (p := v2_1) (by omega) (by omega)
          have t9 := i32_or7 (x := v1_1) (y := (1 : Int32) <<< (v2_1 &&& 31)) ⟨by omega, by omega⟩ ⟨by omega, by omega⟩
          refine wp_lt (fun x10 ex10 => ?_)
          have tx10 : x10.toInt = (v1_1 ||| ((1 : Int32) <<< (v2_1 &&& 31))).toInt := by rw [ex10]
          unfold bk_X7_suspects_29
          refine wp_lt (fun x11 ex11 => ?_)
          have tx11 : x11.toInt = v2_1.toInt + 1 := by rw [ex11]; exact i32_add rfl (by decide) (by omega) (by omega)
          exact ih1 x10 x11 z5.2 hz5_1 hkpz5_me_court_machine ⟨by omega, by omega⟩ ⟨by omega, by omega⟩ (by omega)
  exact lp1 zfu (0 : Int32) (0 : Int32) o_me_court_machine hI_me_court_machine Kp.rf ⟨by decide, by decide⟩ ⟨by decide, by decide⟩ (by show _ < 100000; omega)

set_option maxHeartbeats 4000000 in
set_option maxRecDepth 100000 in
theorem s_X8_canBe (o_me : Ob) (o_me_machine : Ob) (o_me_isles : Ob) (o_me_isles_now : Ob) (o_me_court : Ob) (o_me_study : Ob) (o_pool : List CR) (hI_me : IvX8 o_me) (hI_me_machine : IvX3 o_me_machine) (hI_me_isles : IvX2 o_pool o_me_isles) (hI_me_isles_now : IvX4 o_me_isles_now) (hI_me_court : IvX1 o_me_court) (hI_me_study : IvX7 o_me_study) (hI_pool : PLok o_pool)  : wp (f_X8_canBe   o_me o_me_machine o_me_isles o_me_isles_now o_me_court o_me_study o_pool) (fun (y : Int32 × Ob) => (0 ≤ y.1.toInt ∧ y.1.toInt ≤ 127) ∧ IvX3 y.2 ∧ Kp [] [] [] o_me_machine y.2) := by
  unfold f_X8_canBe
  refine wp_bd (s_X7_suspects   o_me_study o_me_court o_me_isles o_me_isles_now o_me_machine o_pool  hI_me_study hI_me_court hI_me_isles hI_me_isles_now hI_me_machine hI_pool  ) (fun z1 hz1 => ?_)
  obtain ⟨hz1_0, hz1_1, hz1_2⟩ := hz1
  have hkpz1_me_machine : Kp [] [] [] o_me_machine z1.2 := Kp.rf.trans (hz1_2.mono (by decide) (by decide) (by decide))
  refine wp_some ?_
  exact (show (0 ≤ z1.1.toInt ∧ z1.1.toInt ≤ 127) ∧ IvX3 z1.2 ∧ Kp [] [] [] o_me_machine z1.2 from ⟨⟨by omega, by omega⟩, hz1_1, hkpz1_me_machine⟩)

set_option maxHeartbeats 4000000 in
set_option maxRecDepth 100000 in
theorem s_X4_set_O (o_me : Ob) (o_a0 : Ob) (hI_me : IvX4 o_me) (hI_a0 : IvX4 o_a0)  : wp (f_X4_set_O   o_me o_a0) (fun (y : Ob) => IvX4 y ∧ Kp [] [] [] o_me y) := by
  have li0 : (0 : Int32).toInt = 0 := by decide
  have li1 : (7 : Int32).toInt = 7 := by decide
  unfold f_X4_set_O
  refine wp_gd (zcp_of (m0 := 7) (m1 := 7) rfl rfl (by omega) (by omega) (by omega) (by omega) (by omega)) ?_
  refine wp_lt (fun o1 eo1 => ?_)
  have hIo1 : IvX4 o1 := by rw [eo1]; exact icX4_0 hI_me hI_a0
  have hkpo1 : Kp [] [] [] o_me o1 := Kp.rf.trans (by rw [eo1]; exact Kp.cA (by decide) (by decide))
  refine wp_gd (zcp_of (m0 := 7) (m1 := 7) rfl rfl (by omega) (by omega) (by omega) (by omega) (by omega)) ?_
  refine wp_lt (fun o2 eo2 => ?_)
  have hIo2 : IvX4 o2 := by rw [eo2]; exact hIo1
  have hkpo2 : Kp [] [] [] o_me o2 := hkpo1.trans (by rw [eo2]; exact Kp.cA (by decide) (by decide))
  refine wp_lt (fun o3 eo3 => ?_)
  have hIo3 : IvX4 o3 := by rw [eo3]; exact hIo2
  have ko3_v : (gI o3 2).toInt = (gI o_a0 2).toInt := by rw [eo3]; rfl
  have hkpo3 : Kp [] [] [] o_me o3 := hkpo2.trans (by rw [eo3]; exact Kp.sI (by decide))
  refine wp_lt (fun o4 eo4 => ?_)
  have hIo4 : IvX4 o4 := by rw [eo4]; exact hIo3
  have ko4_k5 : (gI o4 2).toInt = (gI o3 2).toInt := by rw [eo4]; rfl
  have ko4_v : (gI o4 3).toInt = (gI o_a0 3).toInt := by rw [eo4]; rfl
  have hkpo4 : Kp [] [] [] o_me o4 := hkpo3.trans (by rw [eo4]; exact Kp.sI (by decide))
  refine wp_lt (fun o6 eo6 => ?_)
  have hIo6 : IvX4 o6 := by rw [eo6]; exact hIo4
  have ko6_k7 : (gI o6 2).toInt = (gI o4 2).toInt := by rw [eo6]; rfl
  have ko6_k8 : (gI o6 3).toInt = (gI o4 3).toInt := by rw [eo6]; rfl
  have ko6_v : (gI o6 4).toInt = (gI o_a0 4).toInt := by rw [eo6]; rfl
  have hkpo6 : Kp [] [] [] o_me o6 := hkpo4.trans (by rw [eo6]; exact Kp.sI (by decide))
  refine wp_some ?_
  exact (show IvX4 o6 ∧ Kp [] [] [] o_me o6 from ⟨hIo6, hkpo6⟩)

set_option maxHeartbeats 4000000 in
set_option maxRecDepth 100000 in
theorem s_X2_set_O (o_me : Ob) (o_me_now : Ob) (o_pool : List CR) (o_a0 : Ob) (o_a0_now : Ob) (hI_me : IvX2 o_pool o_me) (hI_me_now : IvX4 o_me_now) (hI_pool : PLok o_pool) (hI_a0 : IvX2 o_pool o_a0) (hI_a0_now : IvX4 o_a0_now)  : wp (f_X2_set_O   o_me o_me_now o_pool o_a0 o_a0_now) (fun (y : Ob × Ob) => IvX2 o_pool y.1 ∧ Kp [] [] [] o_me y.1 ∧ IvX4 y.2 ∧ Kp [] [] [] o_me_now y.2) := by
  have li0 : (0 : Int32).toInt = 0 := by decide
  have li1 : (28 : Int32).toInt = 28 := by decide
  have li2 : (6 : Int32).toInt = 6 := by decide
  have li3 : (7 : Int32).toInt = 7 := by decide
  unfold f_X2_set_O
  refine wp_bd (s_X4_set_O   o_me_now o_a0_now  hI_me_now hI_a0_now  ) (fun z1 hz1 => ?_)
  obtain ⟨hz1_0, hz1_1⟩ := hz1
  have hkpz1_me_now : Kp [] [] [] o_me_now z1 := Kp.rf.trans (hz1_1.mono (by decide) (by decide) (by decide))
  refine wp_gd (zcp_of (m0 := 7) (m1 := 7) rfl rfl (by omega) (by omega) (by omega) (by omega) (by omega)) ?_
  refine wp_lt (fun o2 eo2 => ?_)
  have hIo2 : IvX2 o_pool o2 := by rw [eo2]; exact hI_me
  have hkpo2 : Kp [] [] [] o_me o2 := Kp.rf.trans (by rw [eo2]; exact Kp.cA (by decide) (by decide))
  refine wp_gd (zcp_of (m0 := 28) (m1 := 28) rfl rfl (by omega) (by omega) (by omega) (by omega) (by omega)) ?_
  refine wp_lt (fun o3 eo3 => ?_)
  have hIo3 : IvX2 o_pool o3 := by rw [eo3]; exact hIo2
  have hkpo3 : Kp [] [] [] o_me o3 := hkpo2.trans (by rw [eo3]; exact Kp.cA (by decide) (by decide))
  refine wp_gd (zcp_of (m0 := 7) (m1 := 7) rfl rfl (by omega) (by omega) (by omega) (by omega) (by omega)) ?_
  refine wp_lt (fun o4 eo4 => ?_)
  have hIo4 : IvX2 o_pool o4 := by rw [eo4]; exact hIo3
  have hkpo4 : Kp [] [] [] o_me o4 := hkpo3.trans (by rw [eo4]; exact Kp.cA (by decide) (by decide))
  refine wp_gd (zcp_of (m0 := 6) (m1 := 6) rfl rfl (by omega) (by omega) (by omega) (by omega) (by omega)) ?_
  refine wp_lt (fun o5 eo5 => ?_)
  have hIo5 : IvX2 o_pool o5 := by rw [eo5]; exact icX2_4 hIo4 hI_a0
  have hkpo5 : Kp [] [] [] o_me o5 := hkpo4.trans (by rw [eo5]; exact Kp.cA (by decide) (by decide))
  refine wp_gd (zcp_of (m0 := 6) (m1 := 6) rfl rfl (by omega) (by omega) (by omega) (by omega) (by omega)) ?_
  refine wp_lt (fun o6 eo6 => ?_)
  have hIo6 : IvX2 o_pool o6 := by rw [eo6]; exact hIo5
  have hkpo6 : Kp [] [] [] o_me o6 := hkpo5.trans (by rw [eo6]; exact Kp.cA (by decide) (by decide))
  have lp1 : ∀ (N1 : Nat) (v2_1 : Int32) (o_me_1 : Ob) (o_me_now_1 : Ob), IvX2 o_pool o_me_1 → Kp [] [] [] o_me o_me_1 → IvX4 o_me_now_1 → Kp [] [] [] o_me_now o_me_now_1 → (0 ≤ v2_1.toInt ∧ v2_1.toInt ≤ 6) → (6 - v2_1.toInt).toNat < N1 → wp (lp_X2_set_O_88 o_pool o_a0 o_a0_now  N1 (v2_1, o_me_1, o_me_now_1)) (fun (y : Ob × Ob) => IvX2 o_pool y.1 ∧ Kp [] [] [] o_me y.1 ∧ IvX4 y.2 ∧ Kp [] [] [] o_me_now y.2) := by
    intro N1
    induction N1 with
    | zero =>
      intro v2_1 o_me_1 o_me_now_1 hI_me_1 hkp_me_1 hI_me_now_1 hkp_me_now_1 hh7 hN1
      exact absurd hN1 (Nat.not_lt_zero _)
    | succ N1 ihx =>
      have ih1 := ihx
      intro v2_1 o_me_1 o_me_now_1 hI_me_1 hkp_me_1 hI_me_now_1 hkp_me_now_1 hh7 hN1
      show wp (lb_X2_set_O_88 o_pool o_a0 o_a0_now  (lp_X2_set_O_88 o_pool o_a0 o_a0_now  N1) v2_1 o_me_1 o_me_now_1) (fun (y : Ob × Ob) => IvX2 o_pool y.1 ∧ Kp [] [] [] o_me y.1 ∧ IvX4 y.2 ∧ Kp [] [] [] o_me_now y.2)
      unfold lb_X2_set_O_88
      refine wp_if (fun c8 => ?_) (fun c8 => ?_)
      · have c8 := cv_ge (a := v2_1.toInt) (b := 6) rfl (by decide) c8
        have t9 := igX2_7 hI_a0
        refine wp_lt (fun o10 eo10 => ?_)
        have hIo10 : IvX2 o_pool o10 := by rw [eo10]; exact ipX2_7 hI_me_1 ⟨by omega, by omega⟩
        have ko10_v : (gI o10 7).toInt = (gI o_a0 7).toInt := by rw [eo10]; rfl
        have hkpo10 : Kp [] [] [] o_me o10 := hkp_me_1.trans (by rw [eo10]; exact Kp.sI (by decide))
        have t11 := igX2_8 hI_a0
        refine wp_lt (fun o12 eo12 => ?_)
        have hIo12 : IvX2 o_pool o12 := by rw [eo12]; exact ipX2_8 hIo10 ⟨by omega, by omega⟩
        have ko12_k13 : (gI o12 7).toInt = (gI o10 7).toInt := by rw [eo12]; rfl
        have ko12_v : (gI o12 8).toInt = (gI o_a0 8).toInt := by rw [eo12]; rfl
        have hkpo12 : Kp [] [] [] o_me o12 := hkpo10.trans (by rw [eo12]; exact Kp.sI (by decide))
        have t14 := igX2_9 hI_a0
        refine wp_lt (fun o15 eo15 => ?_)
        have hIo15 : IvX2 o_pool o15 := by rw [eo15]; exact ipX2_9 hIo12 ⟨by omega, by omega⟩
        have ko15_k16 : (gI o15 7).toInt = (gI o12 7).toInt := by rw [eo15]; rfl
        have ko15_k17 : (gI o15 8).toInt = (gI o12 8).toInt := by rw [eo15]; rfl
        have ko15_v : (gI o15 9).toInt = (gI o_a0 9).toInt := by rw [eo15]; rfl
        have hkpo15 : Kp [] [] [] o_me o15 := hkpo12.trans (by rw [eo15]; exact Kp.sI (by decide))
        have t18 := igX2_10 hI_a0
        refine wp_lt (fun o19 eo19 => ?_)
        have hIo19 : IvX2 o_pool o19 := by rw [eo19]; exact ipX2_10 hIo15 ⟨by omega, by omega⟩
        have ko19_k20 : (gI o19 7).toInt = (gI o15 7).toInt := by rw [eo19]; rfl
        have ko19_k21 : (gI o19 8).toInt = (gI o15 8).toInt := by rw [eo19]; rfl
        have ko19_k22 : (gI o19 9).toInt = (gI o15 9).toInt := by rw [eo19]; rfl
        have ko19_v : (gI o19 10).toInt = (gI o_a0 10).toInt := by rw [eo19]; rfl
        have hkpo19 : Kp [] [] [] o_me o19 := hkpo15.trans (by rw [eo19]; exact Kp.sI (by decide))
        refine wp_lt (fun o23 eo23 => ?_)
        have hIo23 : IvX2 o_pool o23 := by rw [eo23]; exact hIo19
        have ko23_k24 : (gI o23 10).toInt = (gI o19 10).toInt := by rw [eo23]; rfl
        have ko23_k25 : (gI o23 7).toInt = (gI o19 7).toInt := by rw [eo23]; rfl
        have ko23_k26 : (gI o23 8).toInt = (gI o19 8).toInt := by rw [eo23]; rfl
        have ko23_k27 : (gI o23 9).toInt = (gI o19 9).toInt := by rw [eo23]; rfl
        have ko23_v : (gI o23 11).toInt = (gI o_a0 11).toInt := by rw [eo23]; rfl
        have hkpo23 : Kp [] [] [] o_me o23 := hkpo19.trans (by rw [eo23]; exact Kp.sI (by decide))
        refine wp_lt (fun o28 eo28 => ?_)
        have hIo28 : IvX2 o_pool o28 := by rw [eo28]; exact hIo23
        have ko28_k29 : (gI o28 10).toInt = (gI o23 10).toInt := by rw [eo28]; rfl
        have ko28_k30 : (gI o28 11).toInt = (gI o23 11).toInt := by rw [eo28]; rfl
        have ko28_k31 : (gI o28 7).toInt = (gI o23 7).toInt := by rw [eo28]; rfl
        have ko28_k32 : (gI o28 8).toInt = (gI o23 8).toInt := by rw [eo28]; rfl
        have ko28_k33 : (gI o28 9).toInt = (gI o23 9).toInt := by rw [eo28]; rfl
        have ko28_v : (gI o28 12).toInt = (gI o_a0 12).toInt := by rw [eo28]; rfl
        have hkpo28 : Kp [] [] [] o_me o28 := hkpo23.trans (by rw [eo28]; exact Kp.sI (by decide))
        refine wp_some ?_
        exact (show IvX2 o_pool o28 ∧ Kp [] [] [] o_me o28 ∧ IvX4 o_me_now_1 ∧ Kp [] [] [] o_me_now o_me_now_1 from ⟨hIo28, hkpo28, hI_me_now_1, hkp_me_now_1⟩)
      · have c8 := cv_nge (a := v2_1.toInt) (b := 6) rfl (by decide) c8
        refine wp_gd (zin_of (m := 6) rfl (by omega) (by omega)) ?_
        have po34 := irX2 hI_a0 (j := v2_1) (by omega) (by omega)
        refine wp_gd po34 ?_
        refine wp_gd (zin_of (m := 6) rfl (by omega) (by omega)) ?_
        refine wp_lt (fun o35 eo35 => ?_)
        have hIo35 : IvX2 o_pool o35 := by rw [eo35]; exact iqX2 hI_me_1 po34
        have hkpo35 : Kp [] [] [] o_me o35 := hkp_me_1.trans (by rw [eo35]; exact Kp.tR)
        refine wp_lt (fun x36 ex36 => ?_)
        have tx36 : x36.toInt = v2_1.toInt + 1 := by rw [ex36]; exact i32_add rfl (by decide) (by omega) (by omega)
        exact ih1 x36 o35 o_me_now_1 hIo35 hkpo35 hI_me_now_1 hkp_me_now_1 ⟨by omega, by omega⟩ (by omega)
  exact lp1 zfu (0 : Int32) o6 z1 hIo6 hkpo6 hz1_0 hkpz1_me_now ⟨by decide, by decide⟩ (by show _ < 100000; omega)

set_option maxHeartbeats 4000000 in
set_option maxRecDepth 100000 in
theorem s_X8_nextDraw (p0 : Int32)   : wp (f_X8_nextDraw   p0) (fun (y : Int32) => True) := by
  have li0 : (1000003 : Int64).toInt = 1000003 := by decide
  have li1 : (1103 : Int64).toInt = 1103 := by decide
  have li2 : (12345 : Int64).toInt = 12345 := by decide
  unfold f_X8_nextDraw
  have rg1 := i32_rg p0
  have t2 : p0.toInt64.toInt = p0.toInt := Int32.toInt_toInt64 _
  refine wp_some ?_
  exact trivial

set_option maxHeartbeats 4000000 in
set_option maxRecDepth 100000 in
theorem s_X1_at (o_me : Ob) (p0 : Int32) (hI_me : IvX1 o_me)  : wp (f_X1_at   o_me p0) (fun (y : Int32) => ((-1) ≤ y.toInt ∧ y.toInt ≤ 6)) := by
  have li0 : (-1 : Int32).toInt = (-1) := by decide
  have li1 : (1 : Int32).toInt = 1 := by decide
  unfold f_X1_at
  refine wp_if (fun c1 => ?_) (fun c1 => ?_)
  · have c1 := cv_lt (a := p0.toInt) (b := 1) rfl (by decide) c1
    refine wp_some ?_
    exact (show ((-1) ≤ (-1 : Int32).toInt ∧ (-1 : Int32).toInt ≤ 6) from ⟨by decide, by decide⟩)
  · have c1 := cv_nlt (a := p0.toInt) (b := 1) rfl (by decide) c1
    have t2 := igX1_4 hI_me
    have rg4 := i32_rg p0
    refine wp_if (fun c3 => ?_) (fun c3 => ?_)
    · have c3 := cv_gt (a := p0.toInt) (b := (gI o_me 4).toInt) rfl rfl c3
      refine wp_some ?_
      exact (show ((-1) ≤ (-1 : Int32).toInt ∧ (-1 : Int32).toInt ≤ 6) from ⟨by decide, by decide⟩)
    · have c3 := cv_ngt (a := p0.toInt) (b := (gI o_me 4).toInt) rfl rfl c3
      have t5 : (p0 - (1 : Int32)).toInt = p0.toInt - 1 := i32_sub rfl (by decide) (by omega) (by omega)
      refine wp_gd (zin_of (m := 7) rfl (by omega) (by omega)) ?_
      have t6 := iaX1_2_0 hI_me (j := p0 - (1 : Int32)) (by omega) (by omega)
      refine wp_some ?_
      exact (show ((-1) ≤ (gA o_me 2 (p0 - (1 : Int32)).toNatClampNeg).toInt ∧ (gA o_me 2 (p0 - (1 : Int32)).toNatClampNeg).toInt ≤ 6) from ⟨by omega, by omega⟩)

set_option maxHeartbeats 4000000 in
set_option maxRecDepth 100000 in
theorem s_X1_wins_Q (o_me : Ob) (o_me_isles : Ob) (o_me_isles_now : Ob) (o_me_machine : Ob) (o_pool : List CR) (p0 : Option Nat) (p1 : Int32) (p2 : Int32) (p3 : Int32) (hI_me : IvX1 o_me) (hI_me_isles : IvX2 o_pool o_me_isles) (hI_me_isles_now : IvX4 o_me_isles_now) (hI_me_machine : IvX3 o_me_machine) (hI_pool : PLok o_pool) (po_p0 : zpo o_pool p0 = true) (q0 : 0 ≤ p1.toInt ∧ p1.toInt ≤ 6) (q1 : 0 ≤ p2.toInt ∧ p2.toInt ≤ 3) : wp (f_X1_wins_Q   o_me o_me_isles o_me_isles_now o_me_machine o_pool p0 p1 p2 p3) (fun (y : Int32 × Ob) => IvX3 y.2 ∧ Kp [] [] [] o_me_machine y.2) := by
  have li0 : (-9000000000000000000 : Int64).toInt = (-9000000000000000000) := by decide
  have li1 : (2 : Int32).toInt = 2 := by decide
  have li2 : (4 : Int32).toInt = 4 := by decide
  have li3 : (9 : Int32).toInt = 9 := by decide
  unfold f_X1_wins_Q
  refine wp_bd (Q := fun (z9 : Int64 × Ob) => IvX3 z9.2 ∧ Kp [] [] [] o_me_machine z9.2) (wp_zop po_p0 ⟨(_, o_me_machine), rfl, hI_me_machine, Kp.rf⟩ (fun c9 hc9 => s_X1_told_O c9.2.2.2.1 c9.2.2.2.2.1 o_me o_me_isles o_me_isles_now o_me_machine c9.2.2.2.2.2 (2 : Int32) p1 p2 p3 hI_me hI_me_isles hI_me_isles_now hI_me_machine (hI_pool c9 hc9))) (fun z1 hz1 => ?_)
  obtain ⟨hz1_0, hz1_1⟩ := hz1
  have hkpz1 : Kp [] [] [] o_me_machine z1.2 := Kp.rf.trans (hz1_1.mono (by decide) (by decide) (by decide))
  refine wp_if (fun c2 => ?_) (fun c2 => ?_)
  · have c2 := cvl_eq (a := z1.1.toInt) (b := (-9000000000000000000)) rfl (by decide) c2
    refine wp_some ?_
    exact (show IvX3 z1.2 ∧ Kp [] [] [] o_me_machine z1.2 from ⟨hz1_0, hkpz1⟩)
  · have c2 := cvl_ne (a := z1.1.toInt) (b := (-9000000000000000000)) rfl (by decide) c2
    refine wp_bd (s_X1_nearest_v1   z1.1 (9 : Int32)    ⟨by decide, by decide⟩) (fun z3 hz3 => ?_)
    have hz3_0 := hz3
    refine wp_some ?_
    exact (show IvX3 z1.2 ∧ Kp [] [] [] o_me_machine z1.2 from ⟨hz1_0, hkpz1⟩)

set_option maxHeartbeats 4000000 in
set_option maxRecDepth 100000 in
theorem s_X4_addPrizes (o_me : Ob) (p0 : Int32) (p1 : Int32) (hI_me : IvX4 o_me) (q0 : 0 ≤ p0.toInt ∧ p0.toInt ≤ 6) : wp (f_X4_addPrizes   o_me p0 p1) (fun (y : Ob) => IvX4 y ∧ Kp [] [0] [] o_me y) := by
  have li0 : (999 : Int32).toInt = 999 := by decide
  unfold f_X4_addPrizes
  refine wp_gd (zin_of (m := 7) rfl (by omega) (by omega)) ?_
  have rg2 := i32_rg ((gA o_me 1 p0.toNatClampNeg) + p1)
  have t1 : (-2147483648) ≤ (if ((gA o_me 1 p0.toNatClampNeg) + p1) < (999 : Int32) then ((gA o_me 1 p0.toNatClampNeg) + p1) else (999 : Int32)).toInt ∧ (if ((gA o_me 1 p0.toNatClampNeg) + p1) < (999 : Int32) then ((gA o_me 1 p0.toNatClampNeg) + p1) else (999 : Int32)).toInt ≤ 999 := z_min (a := 999) (b := ((gA o_me 1 p0.toNatClampNeg) + p1).toInt) (by decide) rfl (by omega) (by omega)
  have t3 := z_mng (999 : Int32) ((gA o_me 1 p0.toNatClampNeg) + p1)
  refine wp_gd (zin_of (m := 7) rfl (by omega) (by omega)) ?_
  refine wp_lt (fun o4 eo4 => ?_)
  have hIo4 : IvX4 o4 := by rw [eo4]; exact hI_me
  have ko4_v : (gA o4 1 p0.toNatClampNeg).toInt = (if ((gA o_me 1 p0.toNatClampNeg) + p1) < (999 : Int32) then ((gA o_me 1 p0.toNatClampNeg) + p1) else (999 : Int32)).toInt := by rw [eo4]; exact congrArg Int32.toInt (upd_eq (g := gA o_me 1) (i := p0) (v := (if ((gA o_me 1 p0.toNatClampNeg) + p1) < (999 : Int32) then ((gA o_me 1 p0.toNatClampNeg) + p1) else (999 : Int32))))
  have hkpo4 : Kp [] [0] [] o_me o4 := Kp.rf.trans (by rw [eo4]; exact Kp.tA (by decide) (by decide))
  refine wp_some ?_
  exact (show IvX4 o4 ∧ Kp [] [0] [] o_me o4 from ⟨hIo4, hkpo4⟩)

set_option maxHeartbeats 4000000 in
set_option maxRecDepth 100000 in
theorem s_X1_heldRace (o_me : Ob) (o_me_isles : Ob) (o_me_isles_now : Ob) (o_me_machine : Ob) (o_pool : List CR) (p0 : Int32) (hI_me : IvX1 o_me) (hI_me_isles : IvX2 o_pool o_me_isles) (hI_me_isles_now : IvX4 o_me_isles_now) (hI_me_machine : IvX3 o_me_machine) (hI_pool : PLok o_pool) (q0 : 0 ≤ p0.toInt ∧ p0.toInt ≤ 3) : wp (f_X1_heldRace   o_me o_me_isles o_me_isles_now o_me_machine o_pool p0) (fun (y : Int32 × Ob × Ob) => ((-1) ≤ y.1.toInt ∧ y.1.toInt ≤ 6) ∧ IvX4 y.2.1 ∧ Kp [] [] [] o_me_isles_now y.2.1 ∧ IvX3 y.2.2 ∧ Kp [] [] [] o_me_machine y.2.2) := by
  have li0 : (-1 : Int32).toInt = (-1) := by decide
  have li1 : (0 : Int32).toInt = 0 := by decide
  have li2 : (1 : Int32).toInt = 1 := by decide
  have li3 : (2 : Int32).toInt = 2 := by decide
  have li4 : (3 : Int32).toInt = 3 := by decide
  have li5 : (999 : Int32).toInt = 999 := by decide
  unfold f_X1_heldRace
  refine wp_bd (s_X2_lawInForce   o_me_isles  hI_me_isles  ) (fun z1 hz1 => ?_)
  have hz1_0 := hz1
  refine wp_bd (s_X1_at   o_me (1 : Int32)  hI_me  ) (fun z2 hz2 => ?_)
  have hz2_0 := hz2
  refine wp_bd (s_X1_at   o_me (2 : Int32)  hI_me  ) (fun z3 hz3 => ?_)
  have hz3_0 := hz3
  refine wp_bd (s_X1_at   o_me (3 : Int32)  hI_me  ) (fun z4 hz4 => ?_)
  have hz4_0 := hz4
  refine wp_if (fun c5 => ?_) (fun c5 => ?_)
  · have c5 := cv_eq (a := z2.toInt) (b := (-1)) rfl (by decide) c5
    obtain ⟨w6, ew6⟩ : ∃ z : Int32, z = (0 : Int32) := ⟨_, rfl⟩
    have tw6 : w6.toInt = 0 := by rw [ew6]; decide
    rw [show bk_X1_heldRace_45 o_me o_me_isles o_pool  p0 z1 z2 z3 z4 (0 : Int32) o_me_isles_now o_me_machine = bk_X1_heldRace_45 o_me o_me_isles o_pool  p0 z1 z2 z3 z4 w6 o_me_isles_now o_me_machine from by rw [ew6]]
    unfold bk_X1_heldRace_45
    refine wp_if (fun c7 => ?_) (fun c7 => ?_)
    · have c7 := cv_eq (a := z3.toInt) (b := (-1)) rfl (by decide) c7
      obtain ⟨w8, ew8⟩ : ∃ z : Int32, z = (0 : Int32) := ⟨_, rfl⟩
      have tw8 : w8.toInt = 0 := by rw [ew8]; decide
      rw [show bk_X1_heldRace_66 o_me o_me_isles o_pool  p0 z1 z2 z3 z4 w6 (0 : Int32) o_me_isles_now o_me_machine = bk_X1_heldRace_66 o_me o_me_isles o_pool  p0 z1 z2 z3 z4 w6 w8 o_me_isles_now o_me_machine from by rw [ew8]]
      unfold bk_X1_heldRace_66
      refine wp_if (fun c9 => ?_) (fun c9 => ?_)
      · have c9 := cv_eq (a := z4.toInt) (b := (-1)) rfl (by decide) c9
        obtain ⟨w10, ew10⟩ : ∃ z : Int32, z = (0 : Int32) := ⟨_, rfl⟩
        have tw10 : w10.toInt = 0 := by rw [ew10]; decide
        rw [show bk_X1_heldRace_87 o_me o_me_isles o_pool  p0 z1 z2 z3 z4 w6 w8 (0 : Int32) o_me_isles_now o_me_machine = bk_X1_heldRace_87 o_me o_me_isles o_pool  p0 z1 z2 z3 z4 w6 w8 w10 o_me_isles_now o_me_machine from by rw [ew10]]
        unfold bk_X1_heldRace_87
        refine wp_if (fun c11 => ?_) (fun c11 => ?_)
        · have c11 := cv_eq (a := z3.toInt) (b := (-1)) rfl (by decide) c11
          unfold bk_X1_heldRace_145
          refine wp_if (fun c12 => ?_) (fun c12 => ?_)
          · have c12 := cv_eq (a := z2.toInt) (b := (-1)) rfl (by decide) c12
            unfold bk_X1_heldRace_163
            refine wp_if (fun c13 => ?_) (fun c13 => ?_)
            · have c13 := cv_eq (a := z4.toInt) (b := (-1)) rfl (by decide) c13
              unfold bk_X1_heldRace_183
              have lp1 : ∀ (N1 : Nat) (v3_1 : Int32) (v9_1 : Int32) (o_me_isles_now_1 : Ob) (o_me_machine_1 : Ob), IvX4 o_me_isles_now_1 → Kp [] [] [] o_me_isles_now o_me_isles_now_1 → IvX3 o_me_machine_1 → Kp [] [] [] o_me_machine o_me_machine_1 → ((-1) ≤ v3_1.toInt ∧ v3_1.toInt ≤ (-1)) → (0 ≤ v9_1.toInt ∧ v9_1.toInt ≤ 7) → (7 - v9_1.toInt).toNat < N1 → wp (lp_X1_heldRace_186 o_me o_me_isles o_pool  N1 (v3_1, v9_1, o_me_isles_now_1, o_me_machine_1)) (fun (y : Int32 × Ob × Ob) => ((-1) ≤ y.1.toInt ∧ y.1.toInt ≤ 6) ∧ IvX4 y.2.1 ∧ Kp [] [] [] o_me_isles_now y.2.1 ∧ IvX3 y.2.2 ∧ Kp [] [] [] o_me_machine y.2.2) := by
                intro N1
                induction N1 with
                | zero =>
                  intro v3_1 v9_1 o_me_isles_now_1 o_me_machine_1 hI_me_isles_now_1 hkp_me_isles_now_1 hI_me_machine_1 hkp_me_machine_1 hh14 hh15 hN1
                  exact absurd hN1 (Nat.not_lt_zero _)
                | succ N1 ihx =>
                  have ih1 := ihx
                  intro v3_1 v9_1 o_me_isles_now_1 o_me_machine_1 hI_me_isles_now_1 hkp_me_isles_now_1 hI_me_machine_1 hkp_me_machine_1 hh14 hh15 hN1
                  show wp (lb_X1_heldRace_186 o_me o_me_isles o_pool  (lp_X1_heldRace_186 o_me o_me_isles o_pool  N1) v3_1 v9_1 o_me_isles_now_1 o_me_machine_1) (fun (y : Int32 × Ob × Ob) => ((-1) ≤ y.1.toInt ∧ y.1.toInt ≤ 6) ∧ IvX4 y.2.1 ∧ Kp [] [] [] o_me_isles_now y.2.1 ∧ IvX3 y.2.2 ∧ Kp [] [] [] o_me_machine y.2.2)
                  unfold lb_X1_heldRace_186
                  have t16 := igX1_4 hI_me
                  refine wp_if (fun c17 => ?_) (fun c17 => ?_)
                  · have c17 := cv_ge (a := v9_1.toInt) (b := (gI o_me 4).toInt) rfl rfl c17
                    refine wp_some ?_
                    exact (show ((-1) ≤ v3_1.toInt ∧ v3_1.toInt ≤ 6) ∧ IvX4 o_me_isles_now_1 ∧ Kp [] [] [] o_me_isles_now o_me_isles_now_1 ∧ IvX3 o_me_machine_1 ∧ Kp [] [] [] o_me_machine o_me_machine_1 from ⟨⟨by omega, by omega⟩, hI_me_isles_now_1, hkp_me_isles_now_1, hI_me_machine_1, hkp_me_machine_1⟩)
                  · have c17 := cv_nge (a := v9_1.toInt) (b := (gI o_me 4).toInt) rfl rfl c17
                    refine wp_gd (zin_of (m := 7) rfl (by omega) (by omega)) ?_
                    have t18 := iaX1_2_0 hI_me (j := v9_1) (by omega) (by omega)
                    have t19 : 1 ≤ ((1 : Int32) <<< ((gA o_me 2 v9_1.toNatClampNeg) &&& 31)).toInt ∧ ((1 : Int32) <<< ((gA o_me 2 v9_1.toNatClampNeg) &&& 31)).toInt ≤ 64 := i32_shl6 (p := gA o_me 2 v9_1.toNatClampNeg) (by omega) (by omega)
                    refine wp_lt (fun o20 eo20 => ?_)
                    have hIo20 : IvX4 o20 := by rw [eo20]; exact hI_me_isles_now_1
                    have ko20_v : (gI o20 2).toInt = ((gI o_me_isles_now_1 2) &&& (((1 : Int32) <<< ((gA o_me 2 v9_1.toNatClampNeg) &&& 31)) ^^^ (-1 : Int32))).toInt := by rw [eo20]; rfl
                    have hkpo20 : Kp [] [] [] o_me_isles_now o20 := hkp_me_isles_now_1.trans (by rw [eo20]; exact Kp.sI (by decide))
                    refine wp_lt (fun x21 ex21 => ?_)
                    have tx21 : x21.toInt = v9_1.toInt + 1 := by rw [ex21]; exact i32_add rfl (by decide) (by omega) (by omega)
                    exact ih1 v3_1 x21 o20 o_me_machine_1 hIo20 hkpo20 hI_me_machine_1 hkp_me_machine_1 ⟨by omega, by omega⟩ ⟨by omega, by omega⟩ (by omega)
              exact lp1 zfu z2 (0 : Int32) o_me_isles_now o_me_machine hI_me_isles_now Kp.rf hI_me_machine Kp.rf ⟨by omega, by omega⟩ ⟨by decide, by decide⟩ (by show _ < 100000; omega)
            · have c13 := cv_ne (a := z4.toInt) (b := (-1)) rfl (by decide) c13
              exfalso; omega
          · have c12 := cv_ne (a := z2.toInt) (b := (-1)) rfl (by decide) c12
            exfalso; omega
        · have c11 := cv_ne (a := z3.toInt) (b := (-1)) rfl (by decide) c11
          exfalso; omega
      · have c9 := cv_ne (a := z4.toInt) (b := (-1)) rfl (by decide) c9
        refine wp_bd (s_X1_wins_Q   o_me o_me_isles o_me_isles_now o_me_machine o_pool z1 z4 p0 (3 : Int32)  hI_me hI_me_isles hI_me_isles_now hI_me_machine hI_pool hz1_0 ⟨by omega, by omega⟩ ⟨by omega, by omega⟩) (fun z22 hz22 => ?_)
        obtain ⟨hz22_0, hz22_1⟩ := hz22
        have hkpz22_me_machine : Kp [] [] [] o_me_machine z22.2 := Kp.rf.trans (hz22_1.mono (by decide) (by decide) (by decide))
        unfold bk_X1_heldRace_87
        refine wp_if (fun c23 => ?_) (fun c23 => ?_)
        · have c23 := cv_eq (a := z3.toInt) (b := (-1)) rfl (by decide) c23
          unfold bk_X1_heldRace_145
          refine wp_if (fun c24 => ?_) (fun c24 => ?_)
          · have c24 := cv_eq (a := z2.toInt) (b := (-1)) rfl (by decide) c24
            unfold bk_X1_heldRace_163
            refine wp_if (fun c25 => ?_) (fun c25 => ?_)
            · have c25 := cv_eq (a := z4.toInt) (b := (-1)) rfl (by decide) c25
              exfalso; omega
            · have c25 := cv_ne (a := z4.toInt) (b := (-1)) rfl (by decide) c25
              refine wp_bd (s_X4_addPrizes   o_me_isles_now z4 z22.1  hI_me_isles_now  ⟨by omega, by omega⟩) (fun z26 hz26 => ?_)
              obtain ⟨hz26_0, hz26_1⟩ := hz26
              have hkpz26_me_isles_now : Kp [] [] [] o_me_isles_now z26 := Kp.rf.trans (hz26_1.mono (by decide) (by decide) (by decide))
              unfold bk_X1_heldRace_183
              have lp2 : ∀ (N2 : Nat) (v3_2 : Int32) (v9_2 : Int32) (o_me_isles_now_2 : Ob) (o_me_machine_2 : Ob), IvX4 o_me_isles_now_2 → Kp [] [] [] o_me_isles_now o_me_isles_now_2 → IvX3 o_me_machine_2 → Kp [] [] [] o_me_machine o_me_machine_2 → ((-1) ≤ v3_2.toInt ∧ v3_2.toInt ≤ (-1)) → (0 ≤ v9_2.toInt ∧ v9_2.toInt ≤ 7) → (7 - v9_2.toInt).toNat < N2 → wp (lp_X1_heldRace_186 o_me o_me_isles o_pool  N2 (v3_2, v9_2, o_me_isles_now_2, o_me_machine_2)) (fun (y : Int32 × Ob × Ob) => ((-1) ≤ y.1.toInt ∧ y.1.toInt ≤ 6) ∧ IvX4 y.2.1 ∧ Kp [] [] [] o_me_isles_now y.2.1 ∧ IvX3 y.2.2 ∧ Kp [] [] [] o_me_machine y.2.2) := by
                intro N2
                induction N2 with
                | zero =>
                  intro v3_2 v9_2 o_me_isles_now_2 o_me_machine_2 hI_me_isles_now_2 hkp_me_isles_now_2 hI_me_machine_2 hkp_me_machine_2 hh27 hh28 hN2
                  exact absurd hN2 (Nat.not_lt_zero _)
                | succ N2 ihx =>
                  have ih2 := ihx
                  intro v3_2 v9_2 o_me_isles_now_2 o_me_machine_2 hI_me_isles_now_2 hkp_me_isles_now_2 hI_me_machine_2 hkp_me_machine_2 hh27 hh28 hN2
                  show wp (lb_X1_heldRace_186 o_me o_me_isles o_pool  (lp_X1_heldRace_186 o_me o_me_isles o_pool  N2) v3_2 v9_2 o_me_isles_now_2 o_me_machine_2) (fun (y : Int32 × Ob × Ob) => ((-1) ≤ y.1.toInt ∧ y.1.toInt ≤ 6) ∧ IvX4 y.2.1 ∧ Kp [] [] [] o_me_isles_now y.2.1 ∧ IvX3 y.2.2 ∧ Kp [] [] [] o_me_machine y.2.2)
                  unfold lb_X1_heldRace_186
                  have t29 := igX1_4 hI_me
                  refine wp_if (fun c30 => ?_) (fun c30 => ?_)
                  · have c30 := cv_ge (a := v9_2.toInt) (b := (gI o_me 4).toInt) rfl rfl c30
                    refine wp_some ?_
                    exact (show ((-1) ≤ v3_2.toInt ∧ v3_2.toInt ≤ 6) ∧ IvX4 o_me_isles_now_2 ∧ Kp [] [] [] o_me_isles_now o_me_isles_now_2 ∧ IvX3 o_me_machine_2 ∧ Kp [] [] [] o_me_machine o_me_machine_2 from ⟨⟨by omega, by omega⟩, hI_me_isles_now_2, hkp_me_isles_now_2, hI_me_machine_2, hkp_me_machine_2⟩)
                  · have c30 := cv_nge (a := v9_2.toInt) (b := (gI o_me 4).toInt) rfl rfl c30
                    refine wp_gd (zin_of (m := 7) rfl (by omega) (by omega)) ?_
                    have t31 := iaX1_2_0 hI_me (j := v9_2) (by omega) (by omega)
                    have t32 : 1 ≤ ((1 : Int32) <<< ((gA o_me 2 v9_2.toNatClampNeg) &&& 31)).toInt ∧ ((1 : Int32) <<< ((gA o_me 2 v9_2.toNatClampNeg) &&& 31)).toInt ≤ 64 := i32_shl6 (p := gA o_me 2 v9_2.toNatClampNeg) (by omega) (by omega)
                    refine wp_lt (fun o33 eo33 => ?_)
                    have hIo33 : IvX4 o33 := by rw [eo33]; exact hI_me_isles_now_2
                    have ko33_v : (gI o33 2).toInt = ((gI o_me_isles_now_2 2) &&& (((1 : Int32) <<< ((gA o_me 2 v9_2.toNatClampNeg) &&& 31)) ^^^ (-1 : Int32))).toInt := by rw [eo33]; rfl
                    have hkpo33 : Kp [] [] [] o_me_isles_now o33 := hkp_me_isles_now_2.trans (by rw [eo33]; exact Kp.sI (by decide))
                    refine wp_lt (fun x34 ex34 => ?_)
                    have tx34 : x34.toInt = v9_2.toInt + 1 := by rw [ex34]; exact i32_add rfl (by decide) (by omega) (by omega)
                    exact ih2 v3_2 x34 o33 o_me_machine_2 hIo33 hkpo33 hI_me_machine_2 hkp_me_machine_2 ⟨by omega, by omega⟩ ⟨by omega, by omega⟩ (by omega)
              exact lp2 zfu z2 (0 : Int32) z26 z22.2 hz26_0 hkpz26_me_isles_now hz22_0 hkpz22_me_machine ⟨by omega, by omega⟩ ⟨by decide, by decide⟩ (by show _ < 100000; omega)
          · have c24 := cv_ne (a := z2.toInt) (b := (-1)) rfl (by decide) c24
            exfalso; omega
        · have c23 := cv_ne (a := z3.toInt) (b := (-1)) rfl (by decide) c23
          exfalso; omega
    · have c7 := cv_ne (a := z3.toInt) (b := (-1)) rfl (by decide) c7
      refine wp_bd (s_X1_wins_Q   o_me o_me_isles o_me_isles_now o_me_machine o_pool z1 z3 p0 (2 : Int32)  hI_me hI_me_isles hI_me_isles_now hI_me_machine hI_pool hz1_0 ⟨by omega, by omega⟩ ⟨by omega, by omega⟩) (fun z35 hz35 => ?_)
      obtain ⟨hz35_0, hz35_1⟩ := hz35
      have hkpz35_me_machine : Kp [] [] [] o_me_machine z35.2 := Kp.rf.trans (hz35_1.mono (by decide) (by decide) (by decide))
      unfold bk_X1_heldRace_66
      refine wp_if (fun c36 => ?_) (fun c36 => ?_)
      · have c36 := cv_eq (a := z4.toInt) (b := (-1)) rfl (by decide) c36
        obtain ⟨w37, ew37⟩ : ∃ z : Int32, z = (0 : Int32) := ⟨_, rfl⟩
        have tw37 : w37.toInt = 0 := by rw [ew37]; decide
        rw [show bk_X1_heldRace_87 o_me o_me_isles o_pool  p0 z1 z2 z3 z4 w6 z35.1 (0 : Int32) o_me_isles_now z35.2 = bk_X1_heldRace_87 o_me o_me_isles o_pool  p0 z1 z2 z3 z4 w6 z35.1 w37 o_me_isles_now z35.2 from by rw [ew37]]
        unfold bk_X1_heldRace_87
        refine wp_if (fun c38 => ?_) (fun c38 => ?_)
        · have c38 := cv_eq (a := z3.toInt) (b := (-1)) rfl (by decide) c38
          exfalso; omega
        · have c38 := cv_ne (a := z3.toInt) (b := (-1)) rfl (by decide) c38
          refine wp_bd (s_X1_turnsTo_Q   o_me o_me_isles o_me_isles_now z35.2 o_pool z1 z3 p0  hI_me hI_me_isles hI_me_isles_now hz35_0 hI_pool hz1_0 ⟨by omega, by omega⟩ ⟨by omega, by omega⟩) (fun z39 hz39 => ?_)
          obtain ⟨hz39_0, hz39_1, hz39_2⟩ := hz39
          have hkpz39_me_machine : Kp [] [] [] o_me_machine z39.2 := hkpz35_me_machine.trans (hz39_2.mono (by decide) (by decide) (by decide))
          refine wp_gd (zin_of (m := 7) rfl (by omega) (by omega)) ?_
          refine wp_lt (fun o40 eo40 => ?_)
          have hIo40 : IvX4 o40 := by rw [eo40]; exact ibX4_0 hI_me_isles_now (by omega) (Or.inr (Or.inr ⟨by omega, by omega⟩))
          have ko40_v : (gA o40 0 z3.toNatClampNeg).toInt = z39.1.toInt := by rw [eo40]; exact congrArg Int32.toInt (upd_eq (g := gA o_me_isles_now 0) (i := z3) (v := z39.1))
          have hkpo40 : Kp [] [] [] o_me_isles_now o40 := Kp.rf.trans (by rw [eo40]; exact Kp.tA (by decide) (by decide))
          have rg42 := i32_rg ((gI o40 3) + z35.1)
          have t41 : (-2147483648) ≤ (if ((gI o40 3) + z35.1) < (999 : Int32) then ((gI o40 3) + z35.1) else (999 : Int32)).toInt ∧ (if ((gI o40 3) + z35.1) < (999 : Int32) then ((gI o40 3) + z35.1) else (999 : Int32)).toInt ≤ 999 := z_min (a := 999) (b := ((gI o40 3) + z35.1).toInt) (by decide) rfl (by omega) (by omega)
          have t43 := z_mng (999 : Int32) ((gI o40 3) + z35.1)
          refine wp_lt (fun o44 eo44 => ?_)
          have hIo44 : IvX4 o44 := by rw [eo44]; exact hIo40
          have ko44_k45 : (gA o44 0 z3.toNatClampNeg).toInt = (gA o40 0 z3.toNatClampNeg).toInt := by rw [eo44]; rfl
          have ko44_v : (gI o44 3).toInt = (if ((gI o40 3) + z35.1) < (999 : Int32) then ((gI o40 3) + z35.1) else (999 : Int32)).toInt := by rw [eo44]; rfl
          have hkpo44 : Kp [] [] [] o_me_isles_now o44 := hkpo40.trans (by rw [eo44]; exact Kp.sI (by decide))
          unfold bk_X1_heldRace_145
          refine wp_if (fun c46 => ?_) (fun c46 => ?_)
          · have c46 := cv_eq (a := z2.toInt) (b := (-1)) rfl (by decide) c46
            unfold bk_X1_heldRace_163
            refine wp_if (fun c47 => ?_) (fun c47 => ?_)
            · have c47 := cv_eq (a := z4.toInt) (b := (-1)) rfl (by decide) c47
              unfold bk_X1_heldRace_183
              have lp3 : ∀ (N3 : Nat) (v3_3 : Int32) (v9_3 : Int32) (o_me_isles_now_3 : Ob) (o_me_machine_3 : Ob), IvX4 o_me_isles_now_3 → Kp [] [] [] o_me_isles_now o_me_isles_now_3 → IvX3 o_me_machine_3 → Kp [] [] [] o_me_machine o_me_machine_3 → ((-1) ≤ v3_3.toInt ∧ v3_3.toInt ≤ (-1)) → (0 ≤ v9_3.toInt ∧ v9_3.toInt ≤ 7) → ((-2147483648) ≤ (gI o_me_isles_now_3 3).toInt ∧ (gI o_me_isles_now_3 3).toInt ≤ 999) → (7 - v9_3.toInt).toNat < N3 → wp (lp_X1_heldRace_186 o_me o_me_isles o_pool  N3 (v3_3, v9_3, o_me_isles_now_3, o_me_machine_3)) (fun (y : Int32 × Ob × Ob) => ((-1) ≤ y.1.toInt ∧ y.1.toInt ≤ 6) ∧ IvX4 y.2.1 ∧ Kp [] [] [] o_me_isles_now y.2.1 ∧ IvX3 y.2.2 ∧ Kp [] [] [] o_me_machine y.2.2) := by
                intro N3
                induction N3 with
                | zero =>
                  intro v3_3 v9_3 o_me_isles_now_3 o_me_machine_3 hI_me_isles_now_3 hkp_me_isles_now_3 hI_me_machine_3 hkp_me_machine_3 hh48 hh49 hh50 hN3
                  exact absurd hN3 (Nat.not_lt_zero _)
                | succ N3 ihx =>
                  have ih3 := ihx
                  intro v3_3 v9_3 o_me_isles_now_3 o_me_machine_3 hI_me_isles_now_3 hkp_me_isles_now_3 hI_me_machine_3 hkp_me_machine_3 hh48 hh49 hh50 hN3
                  show wp (lb_X1_heldRace_186 o_me o_me_isles o_pool  (lp_X1_heldRace_186 o_me o_me_isles o_pool  N3) v3_3 v9_3 o_me_isles_now_3 o_me_machine_3) (fun (y : Int32 × Ob × Ob) => ((-1) ≤ y.1.toInt ∧ y.1.toInt ≤ 6) ∧ IvX4 y.2.1 ∧ Kp [] [] [] o_me_isles_now y.2.1 ∧ IvX3 y.2.2 ∧ Kp [] [] [] o_me_machine y.2.2)
                  unfold lb_X1_heldRace_186
                  have t51 := igX1_4 hI_me
                  refine wp_if (fun c52 => ?_) (fun c52 => ?_)
                  · have c52 := cv_ge (a := v9_3.toInt) (b := (gI o_me 4).toInt) rfl rfl c52
                    refine wp_some ?_
                    exact (show ((-1) ≤ v3_3.toInt ∧ v3_3.toInt ≤ 6) ∧ IvX4 o_me_isles_now_3 ∧ Kp [] [] [] o_me_isles_now o_me_isles_now_3 ∧ IvX3 o_me_machine_3 ∧ Kp [] [] [] o_me_machine o_me_machine_3 from ⟨⟨by omega, by omega⟩, hI_me_isles_now_3, hkp_me_isles_now_3, hI_me_machine_3, hkp_me_machine_3⟩)
                  · have c52 := cv_nge (a := v9_3.toInt) (b := (gI o_me 4).toInt) rfl rfl c52
                    refine wp_gd (zin_of (m := 7) rfl (by omega) (by omega)) ?_
                    have t53 := iaX1_2_0 hI_me (j := v9_3) (by omega) (by omega)
                    have t54 : 1 ≤ ((1 : Int32) <<< ((gA o_me 2 v9_3.toNatClampNeg) &&& 31)).toInt ∧ ((1 : Int32) <<< ((gA o_me 2 v9_3.toNatClampNeg) &&& 31)).toInt ≤ 64 := i32_shl6 (p := gA o_me 2 v9_3.toNatClampNeg) (by omega) (by omega)
                    refine wp_lt (fun o55 eo55 => ?_)
                    have hIo55 : IvX4 o55 := by rw [eo55]; exact hI_me_isles_now_3
                    have ko55_k56 : (gI o55 3).toInt = (gI o_me_isles_now_3 3).toInt := by rw [eo55]; rfl
                    have ko55_v : (gI o55 2).toInt = ((gI o_me_isles_now_3 2) &&& (((1 : Int32) <<< ((gA o_me 2 v9_3.toNatClampNeg) &&& 31)) ^^^ (-1 : Int32))).toInt := by rw [eo55]; rfl
                    have hkpo55 : Kp [] [] [] o_me_isles_now o55 := hkp_me_isles_now_3.trans (by rw [eo55]; exact Kp.sI (by decide))
                    refine wp_lt (fun x57 ex57 => ?_)
                    have tx57 : x57.toInt = v9_3.toInt + 1 := by rw [ex57]; exact i32_add rfl (by decide) (by omega) (by omega)
                    have rg58 := i32_rg (gI o55 3)
                    exact ih3 v3_3 x57 o55 o_me_machine_3 hIo55 hkpo55 hI_me_machine_3 hkp_me_machine_3 ⟨by omega, by omega⟩ ⟨by omega, by omega⟩ ⟨by omega, by omega⟩ (by omega)
              have rg59 := i32_rg (gI o44 3)
              exact lp3 zfu z2 (0 : Int32) o44 z39.2 hIo44 hkpo44 hz39_1 hkpz39_me_machine ⟨by omega, by omega⟩ ⟨by decide, by decide⟩ ⟨by omega, by omega⟩ (by show _ < 100000; omega)
            · have c47 := cv_ne (a := z4.toInt) (b := (-1)) rfl (by decide) c47
              exfalso; omega
          · have c46 := cv_ne (a := z2.toInt) (b := (-1)) rfl (by decide) c46
            exfalso; omega
      · have c36 := cv_ne (a := z4.toInt) (b := (-1)) rfl (by decide) c36
        refine wp_bd (s_X1_wins_Q   o_me o_me_isles o_me_isles_now z35.2 o_pool z1 z4 p0 (3 : Int32)  hI_me hI_me_isles hI_me_isles_now hz35_0 hI_pool hz1_0 ⟨by omega, by omega⟩ ⟨by omega, by omega⟩) (fun z60 hz60 => ?_)
        obtain ⟨hz60_0, hz60_1⟩ := hz60
        have hkpz60_me_machine : Kp [] [] [] o_me_machine z60.2 := hkpz35_me_machine.trans (hz60_1.mono (by decide) (by decide) (by decide))
        unfold bk_X1_heldRace_87
        refine wp_if (fun c61 => ?_) (fun c61 => ?_)
        · have c61 := cv_eq (a := z3.toInt) (b := (-1)) rfl (by decide) c61
          exfalso; omega
        · have c61 := cv_ne (a := z3.toInt) (b := (-1)) rfl (by decide) c61
          refine wp_bd (s_X1_turnsTo_Q   o_me o_me_isles o_me_isles_now z60.2 o_pool z1 z3 p0  hI_me hI_me_isles hI_me_isles_now hz60_0 hI_pool hz1_0 ⟨by omega, by omega⟩ ⟨by omega, by omega⟩) (fun z62 hz62 => ?_)
          obtain ⟨hz62_0, hz62_1, hz62_2⟩ := hz62
          have hkpz62_me_machine : Kp [] [] [] o_me_machine z62.2 := hkpz60_me_machine.trans (hz62_2.mono (by decide) (by decide) (by decide))
          refine wp_gd (zin_of (m := 7) rfl (by omega) (by omega)) ?_
          refine wp_lt (fun o63 eo63 => ?_)
          have hIo63 : IvX4 o63 := by rw [eo63]; exact ibX4_0 hI_me_isles_now (by omega) (Or.inr (Or.inr ⟨by omega, by omega⟩))
          have ko63_v : (gA o63 0 z3.toNatClampNeg).toInt = z62.1.toInt := by rw [eo63]; exact congrArg Int32.toInt (upd_eq (g := gA o_me_isles_now 0) (i := z3) (v := z62.1))
          have hkpo63 : Kp [] [] [] o_me_isles_now o63 := Kp.rf.trans (by rw [eo63]; exact Kp.tA (by decide) (by decide))
          have rg65 := i32_rg ((gI o63 3) + z35.1)
          have t64 : (-2147483648) ≤ (if ((gI o63 3) + z35.1) < (999 : Int32) then ((gI o63 3) + z35.1) else (999 : Int32)).toInt ∧ (if ((gI o63 3) + z35.1) < (999 : Int32) then ((gI o63 3) + z35.1) else (999 : Int32)).toInt ≤ 999 := z_min (a := 999) (b := ((gI o63 3) + z35.1).toInt) (by decide) rfl (by omega) (by omega)
          have t66 := z_mng (999 : Int32) ((gI o63 3) + z35.1)
          refine wp_lt (fun o67 eo67 => ?_)
          have hIo67 : IvX4 o67 := by rw [eo67]; exact hIo63
          have ko67_k68 : (gA o67 0 z3.toNatClampNeg).toInt = (gA o63 0 z3.toNatClampNeg).toInt := by rw [eo67]; rfl
          have ko67_v : (gI o67 3).toInt = (if ((gI o63 3) + z35.1) < (999 : Int32) then ((gI o63 3) + z35.1) else (999 : Int32)).toInt := by rw [eo67]; rfl
          have hkpo67 : Kp [] [] [] o_me_isles_now o67 := hkpo63.trans (by rw [eo67]; exact Kp.sI (by decide))
          unfold bk_X1_heldRace_145
          refine wp_if (fun c69 => ?_) (fun c69 => ?_)
          · have c69 := cv_eq (a := z2.toInt) (b := (-1)) rfl (by decide) c69
            unfold bk_X1_heldRace_163
            refine wp_if (fun c70 => ?_) (fun c70 => ?_)
            · have c70 := cv_eq (a := z4.toInt) (b := (-1)) rfl (by decide) c70
              exfalso; omega
            · have c70 := cv_ne (a := z4.toInt) (b := (-1)) rfl (by decide) c70
              refine wp_bd (s_X4_addPrizes   o67 z4 z60.1  hIo67  ⟨by omega, by omega⟩) (fun z71 hz71 => ?_)
              obtain ⟨hz71_0, hz71_1⟩ := hz71
              have hkpz71_me_isles_now : Kp [] [] [] o_me_isles_now z71 := hkpo67.trans (hz71_1.mono (by decide) (by decide) (by decide))
              have kz71_k72 : (gA z71 0 z3.toNatClampNeg).toInt = (gA o67 0 z3.toNatClampNeg).toInt := congrArg (fun g => (g z3.toNatClampNeg).toInt) (hz71_1.2.1 0 (by decide))
              unfold bk_X1_heldRace_183
              have lp4 : ∀ (N4 : Nat) (v3_4 : Int32) (v9_4 : Int32) (o_me_isles_now_4 : Ob) (o_me_machine_4 : Ob), IvX4 o_me_isles_now_4 → Kp [] [] [] o_me_isles_now o_me_isles_now_4 → IvX3 o_me_machine_4 → Kp [] [] [] o_me_machine o_me_machine_4 → ((-1) ≤ v3_4.toInt ∧ v3_4.toInt ≤ (-1)) → (0 ≤ v9_4.toInt ∧ v9_4.toInt ≤ 7) → (7 - v9_4.toInt).toNat < N4 → wp (lp_X1_heldRace_186 o_me o_me_isles o_pool  N4 (v3_4, v9_4, o_me_isles_now_4, o_me_machine_4)) (fun (y : Int32 × Ob × Ob) => ((-1) ≤ y.1.toInt ∧ y.1.toInt ≤ 6) ∧ IvX4 y.2.1 ∧ Kp [] [] [] o_me_isles_now y.2.1 ∧ IvX3 y.2.2 ∧ Kp [] [] [] o_me_machine y.2.2) := by
                intro N4
                induction N4 with
                | zero =>
                  intro v3_4 v9_4 o_me_isles_now_4 o_me_machine_4 hI_me_isles_now_4 hkp_me_isles_now_4 hI_me_machine_4 hkp_me_machine_4 hh73 hh74 hN4
                  exact absurd hN4 (Nat.not_lt_zero _)
                | succ N4 ihx =>
                  have ih4 := ihx
                  intro v3_4 v9_4 o_me_isles_now_4 o_me_machine_4 hI_me_isles_now_4 hkp_me_isles_now_4 hI_me_machine_4 hkp_me_machine_4 hh73 hh74 hN4
                  show wp (lb_X1_heldRace_186 o_me o_me_isles o_pool  (lp_X1_heldRace_186 o_me o_me_isles o_pool  N4) v3_4 v9_4 o_me_isles_now_4 o_me_machine_4) (fun (y : Int32 × Ob × Ob) => ((-1) ≤ y.1.toInt ∧ y.1.toInt ≤ 6) ∧ IvX4 y.2.1 ∧ Kp [] [] [] o_me_isles_now y.2.1 ∧ IvX3 y.2.2 ∧ Kp [] [] [] o_me_machine y.2.2)
                  unfold lb_X1_heldRace_186
                  have t75 := igX1_4 hI_me
                  refine wp_if (fun c76 => ?_) (fun c76 => ?_)
                  · have c76 := cv_ge (a := v9_4.toInt) (b := (gI o_me 4).toInt) rfl rfl c76
                    refine wp_some ?_
                    exact (show ((-1) ≤ v3_4.toInt ∧ v3_4.toInt ≤ 6) ∧ IvX4 o_me_isles_now_4 ∧ Kp [] [] [] o_me_isles_now o_me_isles_now_4 ∧ IvX3 o_me_machine_4 ∧ Kp [] [] [] o_me_machine o_me_machine_4 from ⟨⟨by omega, by omega⟩, hI_me_isles_now_4, hkp_me_isles_now_4, hI_me_machine_4, hkp_me_machine_4⟩)
                  · have c76 := cv_nge (a := v9_4.toInt) (b := (gI o_me 4).toInt) rfl rfl c76
                    refine wp_gd (zin_of (m := 7) rfl (by omega) (by omega)) ?_
                    have t77 := iaX1_2_0 hI_me (j := v9_4) (by omega) (by omega)
                    have t78 : 1 ≤ ((1 : Int32) <<< ((gA o_me 2 v9_4.toNatClampNeg) &&& 31)).toInt ∧ ((1 : Int32) <<< ((gA o_me 2 v9_4.toNatClampNeg) &&& 31)).toInt ≤ 64 := i32_shl6 (p := gA o_me 2 v9_4.toNatClampNeg) (by omega) (by omega)
                    refine wp_lt (fun o79 eo79 => ?_)
                    have hIo79 : IvX4 o79 := by rw [eo79]; exact hI_me_isles_now_4
                    have ko79_v : (gI o79 2).toInt = ((gI o_me_isles_now_4 2) &&& (((1 : Int32) <<< ((gA o_me 2 v9_4.toNatClampNeg) &&& 31)) ^^^ (-1 : Int32))).toInt := by rw [eo79]; rfl
                    have hkpo79 : Kp [] [] [] o_me_isles_now o79 := hkp_me_isles_now_4.trans (by rw [eo79]; exact Kp.sI (by decide))
                    refine wp_lt (fun x80 ex80 => ?_)
                    have tx80 : x80.toInt = v9_4.toInt + 1 := by rw [ex80]; exact i32_add rfl (by decide) (by omega) (by omega)
                    exact ih4 v3_4 x80 o79 o_me_machine_4 hIo79 hkpo79 hI_me_machine_4 hkp_me_machine_4 ⟨by omega, by omega⟩ ⟨by omega, by omega⟩ (by omega)
              exact lp4 zfu z2 (0 : Int32) z71 z62.2 hz71_0 hkpz71_me_isles_now hz62_1 hkpz62_me_machine ⟨by omega, by omega⟩ ⟨by decide, by decide⟩ (by show _ < 100000; omega)
          · have c69 := cv_ne (a := z2.toInt) (b := (-1)) rfl (by decide) c69
            exfalso; omega
  · have c5 := cv_ne (a := z2.toInt) (b := (-1)) rfl (by decide) c5
    refine wp_bd (s_X1_wins_Q   o_me o_me_isles o_me_isles_now o_me_machine o_pool z1 z2 p0 (1 : Int32)  hI_me hI_me_isles hI_me_isles_now hI_me_machine hI_pool hz1_0 ⟨by omega, by omega⟩ ⟨by omega, by omega⟩) (fun z81 hz81 => ?_)
    obtain ⟨hz81_0, hz81_1⟩ := hz81
    have hkpz81_me_machine : Kp [] [] [] o_me_machine z81.2 := Kp.rf.trans (hz81_1.mono (by decide) (by decide) (by decide))
    unfold bk_X1_heldRace_45
    refine wp_if (fun c82 => ?_) (fun c82 => ?_)
    · have c82 := cv_eq (a := z3.toInt) (b := (-1)) rfl (by decide) c82
      obtain ⟨w83, ew83⟩ : ∃ z : Int32, z = (0 : Int32) := ⟨_, rfl⟩
      have tw83 : w83.toInt = 0 := by rw [ew83]; decide
      rw [show bk_X1_heldRace_66 o_me o_me_isles o_pool  p0 z1 z2 z3 z4 z81.1 (0 : Int32) o_me_isles_now z81.2 = bk_X1_heldRace_66 o_me o_me_isles o_pool  p0 z1 z2 z3 z4 z81.1 w83 o_me_isles_now z81.2 from by rw [ew83]]
      unfold bk_X1_heldRace_66
      refine wp_if (fun c84 => ?_) (fun c84 => ?_)
      · have c84 := cv_eq (a := z4.toInt) (b := (-1)) rfl (by decide) c84
        obtain ⟨w85, ew85⟩ : ∃ z : Int32, z = (0 : Int32) := ⟨_, rfl⟩
        have tw85 : w85.toInt = 0 := by rw [ew85]; decide
        rw [show bk_X1_heldRace_87 o_me o_me_isles o_pool  p0 z1 z2 z3 z4 z81.1 w83 (0 : Int32) o_me_isles_now z81.2 = bk_X1_heldRace_87 o_me o_me_isles o_pool  p0 z1 z2 z3 z4 z81.1 w83 w85 o_me_isles_now z81.2 from by rw [ew85]]
        unfold bk_X1_heldRace_87
        refine wp_if (fun c86 => ?_) (fun c86 => ?_)
        · have c86 := cv_eq (a := z3.toInt) (b := (-1)) rfl (by decide) c86
          unfold bk_X1_heldRace_145
          refine wp_if (fun c87 => ?_) (fun c87 => ?_)
          · have c87 := cv_eq (a := z2.toInt) (b := (-1)) rfl (by decide) c87
            exfalso; omega
          · have c87 := cv_ne (a := z2.toInt) (b := (-1)) rfl (by decide) c87
            refine wp_bd (s_X4_addPrizes   o_me_isles_now z2 z81.1  hI_me_isles_now  ⟨by omega, by omega⟩) (fun z88 hz88 => ?_)
            obtain ⟨hz88_0, hz88_1⟩ := hz88
            have hkpz88_me_isles_now : Kp [] [] [] o_me_isles_now z88 := Kp.rf.trans (hz88_1.mono (by decide) (by decide) (by decide))
            unfold bk_X1_heldRace_163
            refine wp_if (fun c89 => ?_) (fun c89 => ?_)
            · have c89 := cv_eq (a := z4.toInt) (b := (-1)) rfl (by decide) c89
              unfold bk_X1_heldRace_183
              have lp5 : ∀ (N5 : Nat) (v3_5 : Int32) (v9_5 : Int32) (o_me_isles_now_5 : Ob) (o_me_machine_5 : Ob), IvX4 o_me_isles_now_5 → Kp [] [] [] o_me_isles_now o_me_isles_now_5 → IvX3 o_me_machine_5 → Kp [] [] [] o_me_machine o_me_machine_5 → (0 ≤ v3_5.toInt ∧ v3_5.toInt ≤ 6) → (0 ≤ v9_5.toInt ∧ v9_5.toInt ≤ 7) → (v3_5.toInt ≤ z2.toInt + 0) → (z2.toInt ≤ v3_5.toInt + 0) → (7 - v9_5.toInt).toNat < N5 → wp (lp_X1_heldRace_186 o_me o_me_isles o_pool  N5 (v3_5, v9_5, o_me_isles_now_5, o_me_machine_5)) (fun (y : Int32 × Ob × Ob) => ((-1) ≤ y.1.toInt ∧ y.1.toInt ≤ 6) ∧ IvX4 y.2.1 ∧ Kp [] [] [] o_me_isles_now y.2.1 ∧ IvX3 y.2.2 ∧ Kp [] [] [] o_me_machine y.2.2) := by
                intro N5
                induction N5 with
                | zero =>
                  intro v3_5 v9_5 o_me_isles_now_5 o_me_machine_5 hI_me_isles_now_5 hkp_me_isles_now_5 hI_me_machine_5 hkp_me_machine_5 hh90 hh91 hh92 hh93 hN5
                  exact absurd hN5 (Nat.not_lt_zero _)
                | succ N5 ihx =>
                  have ih5 := ihx
                  intro v3_5 v9_5 o_me_isles_now_5 o_me_machine_5 hI_me_isles_now_5 hkp_me_isles_now_5 hI_me_machine_5 hkp_me_machine_5 hh90 hh91 hh92 hh93 hN5
                  show wp (lb_X1_heldRace_186 o_me o_me_isles o_pool  (lp_X1_heldRace_186 o_me o_me_isles o_pool  N5) v3_5 v9_5 o_me_isles_now_5 o_me_machine_5) (fun (y : Int32 × Ob × Ob) => ((-1) ≤ y.1.toInt ∧ y.1.toInt ≤ 6) ∧ IvX4 y.2.1 ∧ Kp [] [] [] o_me_isles_now y.2.1 ∧ IvX3 y.2.2 ∧ Kp [] [] [] o_me_machine y.2.2)
                  unfold lb_X1_heldRace_186
                  have t94 := igX1_4 hI_me
                  refine wp_if (fun c95 => ?_) (fun c95 => ?_)
                  · have c95 := cv_ge (a := v9_5.toInt) (b := (gI o_me 4).toInt) rfl rfl c95
                    refine wp_some ?_
                    exact (show ((-1) ≤ v3_5.toInt ∧ v3_5.toInt ≤ 6) ∧ IvX4 o_me_isles_now_5 ∧ Kp [] [] [] o_me_isles_now o_me_isles_now_5 ∧ IvX3 o_me_machine_5 ∧ Kp [] [] [] o_me_machine o_me_machine_5 from ⟨⟨by omega, by omega⟩, hI_me_isles_now_5, hkp_me_isles_now_5, hI_me_machine_5, hkp_me_machine_5⟩)
                  · have c95 := cv_nge (a := v9_5.toInt) (b := (gI o_me 4).toInt) rfl rfl c95
                    refine wp_gd (zin_of (m := 7) rfl (by omega) (by omega)) ?_
                    have t96 := iaX1_2_0 hI_me (j := v9_5) (by omega) (by omega)
                    have t97 : 1 ≤ ((1 : Int32) <<< ((gA o_me 2 v9_5.toNatClampNeg) &&& 31)).toInt ∧ ((1 : Int32) <<< ((gA o_me 2 v9_5.toNatClampNeg) &&& 31)).toInt ≤ 64 := i32_shl6 (p := gA o_me 2 v9_5.toNatClampNeg) (by omega) (by omega)
                    refine wp_lt (fun o98 eo98 => ?_)
                    have hIo98 : IvX4 o98 := by rw [eo98]; exact hI_me_isles_now_5
                    have ko98_v : (gI o98 2).toInt = ((gI o_me_isles_now_5 2) &&& (((1 : Int32) <<< ((gA o_me 2 v9_5.toNatClampNeg) &&& 31)) ^^^ (-1 : Int32))).toInt := by rw [eo98]; rfl
                    have hkpo98 : Kp [] [] [] o_me_isles_now o98 := hkp_me_isles_now_5.trans (by rw [eo98]; exact Kp.sI (by decide))
                    refine wp_lt (fun x99 ex99 => ?_)
                    have tx99 : x99.toInt = v9_5.toInt + 1 := by rw [ex99]; exact i32_add rfl (by decide) (by omega) (by omega)
                    exact ih5 v3_5 x99 o98 o_me_machine_5 hIo98 hkpo98 hI_me_machine_5 hkp_me_machine_5 ⟨by omega, by omega⟩ ⟨by omega, by omega⟩ (by omega) (by omega) (by omega)
              exact lp5 zfu z2 (0 : Int32) z88 z81.2 hz88_0 hkpz88_me_isles_now hz81_0 hkpz81_me_machine ⟨by omega, by omega⟩ ⟨by decide, by decide⟩ (by omega) (by omega) (by show _ < 100000; omega)
            · have c89 := cv_ne (a := z4.toInt) (b := (-1)) rfl (by decide) c89
              exfalso; omega
        · have c86 := cv_ne (a := z3.toInt) (b := (-1)) rfl (by decide) c86
          exfalso; omega
      · have c84 := cv_ne (a := z4.toInt) (b := (-1)) rfl (by decide) c84
        refine wp_bd (s_X1_wins_Q   o_me o_me_isles o_me_isles_now z81.2 o_pool z1 z4 p0 (3 : Int32)  hI_me hI_me_isles hI_me_isles_now hz81_0 hI_pool hz1_0 ⟨by omega, by omega⟩ ⟨by omega, by omega⟩) (fun z100 hz100 => ?_)
        obtain ⟨hz100_0, hz100_1⟩ := hz100
        have hkpz100_me_machine : Kp [] [] [] o_me_machine z100.2 := hkpz81_me_machine.trans (hz100_1.mono (by decide) (by decide) (by decide))
        unfold bk_X1_heldRace_87
        refine wp_if (fun c101 => ?_) (fun c101 => ?_)
        · have c101 := cv_eq (a := z3.toInt) (b := (-1)) rfl (by decide) c101
          unfold bk_X1_heldRace_145
          refine wp_if (fun c102 => ?_) (fun c102 => ?_)
          · have c102 := cv_eq (a := z2.toInt) (b := (-1)) rfl (by decide) c102
            exfalso; omega
          · have c102 := cv_ne (a := z2.toInt) (b := (-1)) rfl (by decide) c102
            refine wp_bd (s_X4_addPrizes   o_me_isles_now z2 z81.1  hI_me_isles_now  ⟨by omega, by omega⟩) (fun z103 hz103 => ?_)
            obtain ⟨hz103_0, hz103_1⟩ := hz103
            have hkpz103_me_isles_now : Kp [] [] [] o_me_isles_now z103 := Kp.rf.trans (hz103_1.mono (by decide) (by decide) (by decide))
            unfold bk_X1_heldRace_163
            refine wp_if (fun c104 => ?_) (fun c104 => ?_)
            · have c104 := cv_eq (a := z4.toInt) (b := (-1)) rfl (by decide) c104
              exfalso; omega
            · have c104 := cv_ne (a := z4.toInt) (b := (-1)) rfl (by decide) c104
              refine wp_bd (s_X4_addPrizes   z103 z4 z100.1  hz103_0  ⟨by omega, by omega⟩) (fun z105 hz105 => ?_)
              obtain ⟨hz105_0, hz105_1⟩ := hz105
              have hkpz105_me_isles_now : Kp [] [] [] o_me_isles_now z105 := hkpz103_me_isles_now.trans (hz105_1.mono (by decide) (by decide) (by decide))
              unfold bk_X1_heldRace_183
              have lp6 : ∀ (N6 : Nat) (v3_6 : Int32) (v9_6 : Int32) (o_me_isles_now_6 : Ob) (o_me_machine_6 : Ob), IvX4 o_me_isles_now_6 → Kp [] [] [] o_me_isles_now o_me_isles_now_6 → IvX3 o_me_machine_6 → Kp [] [] [] o_me_machine o_me_machine_6 → (0 ≤ v3_6.toInt ∧ v3_6.toInt ≤ 6) → (0 ≤ v9_6.toInt ∧ v9_6.toInt ≤ 7) → (v3_6.toInt ≤ z2.toInt + 0) → (z2.toInt ≤ v3_6.toInt + 0) → (7 - v9_6.toInt).toNat < N6 → wp (lp_X1_heldRace_186 o_me o_me_isles o_pool  N6 (v3_6, v9_6, o_me_isles_now_6, o_me_machine_6)) (fun (y : Int32 × Ob × Ob) => ((-1) ≤ y.1.toInt ∧ y.1.toInt ≤ 6) ∧ IvX4 y.2.1 ∧ Kp [] [] [] o_me_isles_now y.2.1 ∧ IvX3 y.2.2 ∧ Kp [] [] [] o_me_machine y.2.2) := by
                intro N6
                induction N6 with
                | zero =>
                  intro v3_6 v9_6 o_me_isles_now_6 o_me_machine_6 hI_me_isles_now_6 hkp_me_isles_now_6 hI_me_machine_6 hkp_me_machine_6 hh106 hh107 hh108 hh109 hN6
                  exact absurd hN6 (Nat.not_lt_zero _)
                | succ N6 ihx =>
                  have ih6 := ihx
                  intro v3_6 v9_6 o_me_isles_now_6 o_me_machine_6 hI_me_isles_now_6 hkp_me_isles_now_6 hI_me_machine_6 hkp_me_machine_6 hh106 hh107 hh108 hh109 hN6
                  show wp (lb_X1_heldRace_186 o_me o_me_isles o_pool  (lp_X1_heldRace_186 o_me o_me_isles o_pool  N6) v3_6 v9_6 o_me_isles_now_6 o_me_machine_6) (fun (y : Int32 × Ob × Ob) => ((-1) ≤ y.1.toInt ∧ y.1.toInt ≤ 6) ∧ IvX4 y.2.1 ∧ Kp [] [] [] o_me_isles_now y.2.1 ∧ IvX3 y.2.2 ∧ Kp [] [] [] o_me_machine y.2.2)
                  unfold lb_X1_heldRace_186
                  have t110 := igX1_4 hI_me
                  refine wp_if (fun c111 => ?_) (fun c111 => ?_)
                  · have c111 := cv_ge (a := v9_6.toInt) (b := (gI o_me 4).toInt) rfl rfl c111
                    refine wp_some ?_
                    exact (show ((-1) ≤ v3_6.toInt ∧ v3_6.toInt ≤ 6) ∧ IvX4 o_me_isles_now_6 ∧ Kp [] [] [] o_me_isles_now o_me_isles_now_6 ∧ IvX3 o_me_machine_6 ∧ Kp [] [] [] o_me_machine o_me_machine_6 from ⟨⟨by omega, by omega⟩, hI_me_isles_now_6, hkp_me_isles_now_6, hI_me_machine_6, hkp_me_machine_6⟩)
                  · have c111 := cv_nge (a := v9_6.toInt) (b := (gI o_me 4).toInt) rfl rfl c111
                    refine wp_gd (zin_of (m := 7) rfl (by omega) (by omega)) ?_
                    have t112 := iaX1_2_0 hI_me (j := v9_6) (by omega) (by omega)
                    have t113 : 1 ≤ ((1 : Int32) <<< ((gA o_me 2 v9_6.toNatClampNeg) &&& 31)).toInt ∧ ((1 : Int32) <<< ((gA o_me 2 v9_6.toNatClampNeg) &&& 31)).toInt ≤ 64 := i32_shl6 (p := gA o_me 2 v9_6.toNatClampNeg) (by omega) (by omega)
                    refine wp_lt (fun o114 eo114 => ?_)
                    have hIo114 : IvX4 o114 := by rw [eo114]; exact hI_me_isles_now_6
                    have ko114_v : (gI o114 2).toInt = ((gI o_me_isles_now_6 2) &&& (((1 : Int32) <<< ((gA o_me 2 v9_6.toNatClampNeg) &&& 31)) ^^^ (-1 : Int32))).toInt := by rw [eo114]; rfl
                    have hkpo114 : Kp [] [] [] o_me_isles_now o114 := hkp_me_isles_now_6.trans (by rw [eo114]; exact Kp.sI (by decide))
                    refine wp_lt (fun x115 ex115 => ?_)
                    have tx115 : x115.toInt = v9_6.toInt + 1 := by rw [ex115]; exact i32_add rfl (by decide) (by omega) (by omega)
                    exact ih6 v3_6 x115 o114 o_me_machine_6 hIo114 hkpo114 hI_me_machine_6 hkp_me_machine_6 ⟨by omega, by omega⟩ ⟨by omega, by omega⟩ (by omega) (by omega) (by omega)
              exact lp6 zfu z2 (0 : Int32) z105 z100.2 hz105_0 hkpz105_me_isles_now hz100_0 hkpz100_me_machine ⟨by omega, by omega⟩ ⟨by decide, by decide⟩ (by omega) (by omega) (by show _ < 100000; omega)
        · have c101 := cv_ne (a := z3.toInt) (b := (-1)) rfl (by decide) c101
          exfalso; omega
    · have c82 := cv_ne (a := z3.toInt) (b := (-1)) rfl (by decide) c82
      refine wp_bd (s_X1_wins_Q   o_me o_me_isles o_me_isles_now z81.2 o_pool z1 z3 p0 (2 : Int32)  hI_me hI_me_isles hI_me_isles_now hz81_0 hI_pool hz1_0 ⟨by omega, by omega⟩ ⟨by omega, by omega⟩) (fun z116 hz116 => ?_)
      obtain ⟨hz116_0, hz116_1⟩ := hz116
      have hkpz116_me_machine : Kp [] [] [] o_me_machine z116.2 := hkpz81_me_machine.trans (hz116_1.mono (by decide) (by decide) (by decide))
      unfold bk_X1_heldRace_66
      refine wp_if (fun c117 => ?_) (fun c117 => ?_)
      · have c117 := cv_eq (a := z4.toInt) (b := (-1)) rfl (by decide) c117
        obtain ⟨w118, ew118⟩ : ∃ z : Int32, z = (0 : Int32) := ⟨_, rfl⟩
        have tw118 : w118.toInt = 0 := by rw [ew118]; decide
        rw [show bk_X1_heldRace_87 o_me o_me_isles o_pool  p0 z1 z2 z3 z4 z81.1 z116.1 (0 : Int32) o_me_isles_now z116.2 = bk_X1_heldRace_87 o_me o_me_isles o_pool  p0 z1 z2 z3 z4 z81.1 z116.1 w118 o_me_isles_now z116.2 from by rw [ew118]]
        unfold bk_X1_heldRace_87
        refine wp_if (fun c119 => ?_) (fun c119 => ?_)
        · have c119 := cv_eq (a := z3.toInt) (b := (-1)) rfl (by decide) c119
          exfalso; omega
        · have c119 := cv_ne (a := z3.toInt) (b := (-1)) rfl (by decide) c119
          refine wp_bd (s_X1_turnsTo_Q   o_me o_me_isles o_me_isles_now z116.2 o_pool z1 z3 p0  hI_me hI_me_isles hI_me_isles_now hz116_0 hI_pool hz1_0 ⟨by omega, by omega⟩ ⟨by omega, by omega⟩) (fun z120 hz120 => ?_)
          obtain ⟨hz120_0, hz120_1, hz120_2⟩ := hz120
          have hkpz120_me_machine : Kp [] [] [] o_me_machine z120.2 := hkpz116_me_machine.trans (hz120_2.mono (by decide) (by decide) (by decide))
          refine wp_gd (zin_of (m := 7) rfl (by omega) (by omega)) ?_
          refine wp_lt (fun o121 eo121 => ?_)
          have hIo121 : IvX4 o121 := by rw [eo121]; exact ibX4_0 hI_me_isles_now (by omega) (Or.inr (Or.inr ⟨by omega, by omega⟩))
          have ko121_v : (gA o121 0 z3.toNatClampNeg).toInt = z120.1.toInt := by rw [eo121]; exact congrArg Int32.toInt (upd_eq (g := gA o_me_isles_now 0) (i := z3) (v := z120.1))
          have hkpo121 : Kp [] [] [] o_me_isles_now o121 := Kp.rf.trans (by rw [eo121]; exact Kp.tA (by decide) (by decide))
          have rg123 := i32_rg ((gI o121 3) + z116.1)
          have t122 : (-2147483648) ≤ (if ((gI o121 3) + z116.1) < (999 : Int32) then ((gI o121 3) + z116.1) else (999 : Int32)).toInt ∧ (if ((gI o121 3) + z116.1) < (999 : Int32) then ((gI o121 3) + z116.1) else (999 : Int32)).toInt ≤ 999 := z_min (a := 999) (b := ((gI o121 3) + z116.1).toInt) (by decide) rfl (by omega) (by omega)
          have t124 := z_mng (999 : Int32) ((gI o121 3) + z116.1)
          refine wp_lt (fun o125 eo125 => ?_)
          have hIo125 : IvX4 o125 := by rw [eo125]; exact hIo121
          have ko125_k126 : (gA o125 0 z3.toNatClampNeg).toInt = (gA o121 0 z3.toNatClampNeg).toInt := by rw [eo125]; rfl
          have ko125_v : (gI o125 3).toInt = (if ((gI o121 3) + z116.1) < (999 : Int32) then ((gI o121 3) + z116.1) else (999 : Int32)).toInt := by rw [eo125]; rfl
          have hkpo125 : Kp [] [] [] o_me_isles_now o125 := hkpo121.trans (by rw [eo125]; exact Kp.sI (by decide))
          unfold bk_X1_heldRace_145
          refine wp_if (fun c127 => ?_) (fun c127 => ?_)
          · have c127 := cv_eq (a := z2.toInt) (b := (-1)) rfl (by decide) c127
            exfalso; omega
          · have c127 := cv_ne (a := z2.toInt) (b := (-1)) rfl (by decide) c127
            refine wp_bd (s_X4_addPrizes   o125 z2 z81.1  hIo125  ⟨by omega, by omega⟩) (fun z128 hz128 => ?_)
            obtain ⟨hz128_0, hz128_1⟩ := hz128
            have hkpz128_me_isles_now : Kp [] [] [] o_me_isles_now z128 := hkpo125.trans (hz128_1.mono (by decide) (by decide) (by decide))
            have kz128_k129 : (gA z128 0 z3.toNatClampNeg).toInt = (gA o125 0 z3.toNatClampNeg).toInt := congrArg (fun g => (g z3.toNatClampNeg).toInt) (hz128_1.2.1 0 (by decide))
            unfold bk_X1_heldRace_163
            refine wp_if (fun c130 => ?_) (fun c130 => ?_)
            · have c130 := cv_eq (a := z4.toInt) (b := (-1)) rfl (by decide) c130
              unfold bk_X1_heldRace_183
              have lp7 : ∀ (N7 : Nat) (v3_7 : Int32) (v9_7 : Int32) (o_me_isles_now_7 : Ob) (o_me_machine_7 : Ob), IvX4 o_me_isles_now_7 → Kp [] [] [] o_me_isles_now o_me_isles_now_7 → IvX3 o_me_machine_7 → Kp [] [] [] o_me_machine o_me_machine_7 → (0 ≤ v3_7.toInt ∧ v3_7.toInt ≤ 6) → (0 ≤ v9_7.toInt ∧ v9_7.toInt ≤ 7) → (v3_7.toInt ≤ z2.toInt + 0) → (z2.toInt ≤ v3_7.toInt + 0) → (7 - v9_7.toInt).toNat < N7 → wp (lp_X1_heldRace_186 o_me o_me_isles o_pool  N7 (v3_7, v9_7, o_me_isles_now_7, o_me_machine_7)) (fun (y : Int32 × Ob × Ob) => ((-1) ≤ y.1.toInt ∧ y.1.toInt ≤ 6) ∧ IvX4 y.2.1 ∧ Kp [] [] [] o_me_isles_now y.2.1 ∧ IvX3 y.2.2 ∧ Kp [] [] [] o_me_machine y.2.2) := by
                intro N7
                induction N7 with
                | zero =>
                  intro v3_7 v9_7 o_me_isles_now_7 o_me_machine_7 hI_me_isles_now_7 hkp_me_isles_now_7 hI_me_machine_7 hkp_me_machine_7 hh131 hh132 hh133 hh134 hN7
                  exact absurd hN7 (Nat.not_lt_zero _)
                | succ N7 ihx =>
                  have ih7 := ihx
                  intro v3_7 v9_7 o_me_isles_now_7 o_me_machine_7 hI_me_isles_now_7 hkp_me_isles_now_7 hI_me_machine_7 hkp_me_machine_7 hh131 hh132 hh133 hh134 hN7
                  show wp (lb_X1_heldRace_186 o_me o_me_isles o_pool  (lp_X1_heldRace_186 o_me o_me_isles o_pool  N7) v3_7 v9_7 o_me_isles_now_7 o_me_machine_7) (fun (y : Int32 × Ob × Ob) => ((-1) ≤ y.1.toInt ∧ y.1.toInt ≤ 6) ∧ IvX4 y.2.1 ∧ Kp [] [] [] o_me_isles_now y.2.1 ∧ IvX3 y.2.2 ∧ Kp [] [] [] o_me_machine y.2.2)
                  unfold lb_X1_heldRace_186
                  have t135 := igX1_4 hI_me
                  refine wp_if (fun c136 => ?_) (fun c136 => ?_)
                  · have c136 := cv_ge (a := v9_7.toInt) (b := (gI o_me 4).toInt) rfl rfl c136
                    refine wp_some ?_
                    exact (show ((-1) ≤ v3_7.toInt ∧ v3_7.toInt ≤ 6) ∧ IvX4 o_me_isles_now_7 ∧ Kp [] [] [] o_me_isles_now o_me_isles_now_7 ∧ IvX3 o_me_machine_7 ∧ Kp [] [] [] o_me_machine o_me_machine_7 from ⟨⟨by omega, by omega⟩, hI_me_isles_now_7, hkp_me_isles_now_7, hI_me_machine_7, hkp_me_machine_7⟩)
                  · have c136 := cv_nge (a := v9_7.toInt) (b := (gI o_me 4).toInt) rfl rfl c136
                    refine wp_gd (zin_of (m := 7) rfl (by omega) (by omega)) ?_
                    have t137 := iaX1_2_0 hI_me (j := v9_7) (by omega) (by omega)
                    have t138 : 1 ≤ ((1 : Int32) <<< ((gA o_me 2 v9_7.toNatClampNeg) &&& 31)).toInt ∧ ((1 : Int32) <<< ((gA o_me 2 v9_7.toNatClampNeg) &&& 31)).toInt ≤ 64 := i32_shl6 (p := gA o_me 2 v9_7.toNatClampNeg) (by omega) (by omega)
                    refine wp_lt (fun o139 eo139 => ?_)
                    have hIo139 : IvX4 o139 := by rw [eo139]; exact hI_me_isles_now_7
                    have ko139_v : (gI o139 2).toInt = ((gI o_me_isles_now_7 2) &&& (((1 : Int32) <<< ((gA o_me 2 v9_7.toNatClampNeg) &&& 31)) ^^^ (-1 : Int32))).toInt := by rw [eo139]; rfl
                    have hkpo139 : Kp [] [] [] o_me_isles_now o139 := hkp_me_isles_now_7.trans (by rw [eo139]; exact Kp.sI (by decide))
                    refine wp_lt (fun x140 ex140 => ?_)
                    have tx140 : x140.toInt = v9_7.toInt + 1 := by rw [ex140]; exact i32_add rfl (by decide) (by omega) (by omega)
                    exact ih7 v3_7 x140 o139 o_me_machine_7 hIo139 hkpo139 hI_me_machine_7 hkp_me_machine_7 ⟨by omega, by omega⟩ ⟨by omega, by omega⟩ (by omega) (by omega) (by omega)
              exact lp7 zfu z2 (0 : Int32) z128 z120.2 hz128_0 hkpz128_me_isles_now hz120_1 hkpz120_me_machine ⟨by omega, by omega⟩ ⟨by decide, by decide⟩ (by omega) (by omega) (by show _ < 100000; omega)
            · have c130 := cv_ne (a := z4.toInt) (b := (-1)) rfl (by decide) c130
              exfalso; omega
      · have c117 := cv_ne (a := z4.toInt) (b := (-1)) rfl (by decide) c117
        refine wp_bd (s_X1_wins_Q   o_me o_me_isles o_me_isles_now z116.2 o_pool z1 z4 p0 (3 : Int32)  hI_me hI_me_isles hI_me_isles_now hz116_0 hI_pool hz1_0 ⟨by omega, by omega⟩ ⟨by omega, by omega⟩) (fun z141 hz141 => ?_)
        obtain ⟨hz141_0, hz141_1⟩ := hz141
        have hkpz141_me_machine : Kp [] [] [] o_me_machine z141.2 := hkpz116_me_machine.trans (hz141_1.mono (by decide) (by decide) (by decide))
        unfold bk_X1_heldRace_87
        refine wp_if (fun c142 => ?_) (fun c142 => ?_)
        · have c142 := cv_eq (a := z3.toInt) (b := (-1)) rfl (by decide) c142
          exfalso; omega
        · have c142 := cv_ne (a := z3.toInt) (b := (-1)) rfl (by decide) c142
          refine wp_bd (s_X1_turnsTo_Q   o_me o_me_isles o_me_isles_now z141.2 o_pool z1 z3 p0  hI_me hI_me_isles hI_me_isles_now hz141_0 hI_pool hz1_0 ⟨by omega, by omega⟩ ⟨by omega, by omega⟩) (fun z143 hz143 => ?_)
          obtain ⟨hz143_0, hz143_1, hz143_2⟩ := hz143
          have hkpz143_me_machine : Kp [] [] [] o_me_machine z143.2 := hkpz141_me_machine.trans (hz143_2.mono (by decide) (by decide) (by decide))
          refine wp_gd (zin_of (m := 7) rfl (by omega) (by omega)) ?_
          refine wp_lt (fun o144 eo144 => ?_)
          have hIo144 : IvX4 o144 := by rw [eo144]; exact ibX4_0 hI_me_isles_now (by omega) (Or.inr (Or.inr ⟨by omega, by omega⟩))
          have ko144_v : (gA o144 0 z3.toNatClampNeg).toInt = z143.1.toInt := by rw [eo144]; exact congrArg Int32.toInt (upd_eq (g := gA o_me_isles_now 0) (i := z3) (v := z143.1))
          have hkpo144 : Kp [] [] [] o_me_isles_now o144 := Kp.rf.trans (by rw [eo144]; exact Kp.tA (by decide) (by decide))
          have rg146 := i32_rg ((gI o144 3) + z116.1)
          have t145 : (-2147483648) ≤ (if ((gI o144 3) + z116.1) < (999 : Int32) then ((gI o144 3) + z116.1) else (999 : Int32)).toInt ∧ (if ((gI o144 3) + z116.1) < (999 : Int32) then ((gI o144 3) + z116.1) else (999 : Int32)).toInt ≤ 999 := z_min (a := 999) (b := ((gI o144 3) + z116.1).toInt) (by decide) rfl (by omega) (by omega)
          have t147 := z_mng (999 : Int32) ((gI o144 3) + z116.1)
          refine wp_lt (fun o148 eo148 => ?_)
          have hIo148 : IvX4 o148 := by rw [eo148]; exact hIo144
          have ko148_k149 : (gA o148 0 z3.toNatClampNeg).toInt = (gA o144 0 z3.toNatClampNeg).toInt := by rw [eo148]; rfl
          have ko148_v : (gI o148 3).toInt = (if ((gI o144 3) + z116.1) < (999 : Int32) then ((gI o144 3) + z116.1) else (999 : Int32)).toInt := by rw [eo148]; rfl
          have hkpo148 : Kp [] [] [] o_me_isles_now o148 := hkpo144.trans (by rw [eo148]; exact Kp.sI (by decide))
          unfold bk_X1_heldRace_145
          refine wp_if (fun c150 => ?_) (fun c150 => ?_)
          · have c150 := cv_eq (a := z2.toInt) (b := (-1)) rfl (by decide) c150
            exfalso; omega
          · have c150 := cv_ne (a := z2.toInt) (b := (-1)) rfl (by decide) c150
            refine wp_bd (s_X4_addPrizes   o148 z2 z81.1  hIo148  ⟨by omega, by omega⟩) (fun z151 hz151 => ?_)
            obtain ⟨hz151_0, hz151_1⟩ := hz151
            have hkpz151_me_isles_now : Kp [] [] [] o_me_isles_now z151 := hkpo148.trans (hz151_1.mono (by decide) (by decide) (by decide))
            have kz151_k152 : (gA z151 0 z3.toNatClampNeg).toInt = (gA o148 0 z3.toNatClampNeg).toInt := congrArg (fun g => (g z3.toNatClampNeg).toInt) (hz151_1.2.1 0 (by decide))
            unfold bk_X1_heldRace_163
            refine wp_if (fun c153 => ?_) (fun c153 => ?_)
            · have c153 := cv_eq (a := z4.toInt) (b := (-1)) rfl (by decide) c153
              exfalso; omega
            · have c153 := cv_ne (a := z4.toInt) (b := (-1)) rfl (by decide) c153
              refine wp_bd (s_X4_addPrizes   z151 z4 z141.1  hz151_0  ⟨by omega, by omega⟩) (fun z154 hz154 => ?_)
              obtain ⟨hz154_0, hz154_1⟩ := hz154
              have hkpz154_me_isles_now : Kp [] [] [] o_me_isles_now z154 := hkpz151_me_isles_now.trans (hz154_1.mono (by decide) (by decide) (by decide))
              have kz154_k155 : (gA z154 0 z3.toNatClampNeg).toInt = (gA z151 0 z3.toNatClampNeg).toInt := congrArg (fun g => (g z3.toNatClampNeg).toInt) (hz154_1.2.1 0 (by decide))
              unfold bk_X1_heldRace_183
              have lp8 : ∀ (N8 : Nat) (v3_8 : Int32) (v9_8 : Int32) (o_me_isles_now_8 : Ob) (o_me_machine_8 : Ob), IvX4 o_me_isles_now_8 → Kp [] [] [] o_me_isles_now o_me_isles_now_8 → IvX3 o_me_machine_8 → Kp [] [] [] o_me_machine o_me_machine_8 → (0 ≤ v3_8.toInt ∧ v3_8.toInt ≤ 6) → (0 ≤ v9_8.toInt ∧ v9_8.toInt ≤ 7) → (v3_8.toInt ≤ z2.toInt + 0) → (z2.toInt ≤ v3_8.toInt + 0) → (7 - v9_8.toInt).toNat < N8 → wp (lp_X1_heldRace_186 o_me o_me_isles o_pool  N8 (v3_8, v9_8, o_me_isles_now_8, o_me_machine_8)) (fun (y : Int32 × Ob × Ob) => ((-1) ≤ y.1.toInt ∧ y.1.toInt ≤ 6) ∧ IvX4 y.2.1 ∧ Kp [] [] [] o_me_isles_now y.2.1 ∧ IvX3 y.2.2 ∧ Kp [] [] [] o_me_machine y.2.2) := by
                intro N8
                induction N8 with
                | zero =>
                  intro v3_8 v9_8 o_me_isles_now_8 o_me_machine_8 hI_me_isles_now_8 hkp_me_isles_now_8 hI_me_machine_8 hkp_me_machine_8 hh156 hh157 hh158 hh159 hN8
                  exact absurd hN8 (Nat.not_lt_zero _)
                | succ N8 ihx =>
                  have ih8 := ihx
                  intro v3_8 v9_8 o_me_isles_now_8 o_me_machine_8 hI_me_isles_now_8 hkp_me_isles_now_8 hI_me_machine_8 hkp_me_machine_8 hh156 hh157 hh158 hh159 hN8
                  show wp (lb_X1_heldRace_186 o_me o_me_isles o_pool  (lp_X1_heldRace_186 o_me o_me_isles o_pool  N8) v3_8 v9_8 o_me_isles_now_8 o_me_machine_8) (fun (y : Int32 × Ob × Ob) => ((-1) ≤ y.1.toInt ∧ y.1.toInt ≤ 6) ∧ IvX4 y.2.1 ∧ Kp [] [] [] o_me_isles_now y.2.1 ∧ IvX3 y.2.2 ∧ Kp [] [] [] o_me_machine y.2.2)
                  unfold lb_X1_heldRace_186
                  have t160 := igX1_4 hI_me
                  refine wp_if (fun c161 => ?_) (fun c161 => ?_)
                  · have c161 := cv_ge (a := v9_8.toInt) (b := (gI o_me 4).toInt) rfl rfl c161
                    refine wp_some ?_
                    exact (show ((-1) ≤ v3_8.toInt ∧ v3_8.toInt ≤ 6) ∧ IvX4 o_me_isles_now_8 ∧ Kp [] [] [] o_me_isles_now o_me_isles_now_8 ∧ IvX3 o_me_machine_8 ∧ Kp [] [] [] o_me_machine o_me_machine_8 from ⟨⟨by omega, by omega⟩, hI_me_isles_now_8, hkp_me_isles_now_8, hI_me_machine_8, hkp_me_machine_8⟩)
                  · have c161 := cv_nge (a := v9_8.toInt) (b := (gI o_me 4).toInt) rfl rfl c161
                    refine wp_gd (zin_of (m := 7) rfl (by omega) (by omega)) ?_
                    have t162 := iaX1_2_0 hI_me (j := v9_8) (by omega) (by omega)
                    have t163 : 1 ≤ ((1 : Int32) <<< ((gA o_me 2 v9_8.toNatClampNeg) &&& 31)).toInt ∧ ((1 : Int32) <<< ((gA o_me 2 v9_8.toNatClampNeg) &&& 31)).toInt ≤ 64 := i32_shl6 (p := gA o_me 2 v9_8.toNatClampNeg) (by omega) (by omega)
                    refine wp_lt (fun o164 eo164 => ?_)
                    have hIo164 : IvX4 o164 := by rw [eo164]; exact hI_me_isles_now_8
                    have ko164_v : (gI o164 2).toInt = ((gI o_me_isles_now_8 2) &&& (((1 : Int32) <<< ((gA o_me 2 v9_8.toNatClampNeg) &&& 31)) ^^^ (-1 : Int32))).toInt := by rw [eo164]; rfl
                    have hkpo164 : Kp [] [] [] o_me_isles_now o164 := hkp_me_isles_now_8.trans (by rw [eo164]; exact Kp.sI (by decide))
                    refine wp_lt (fun x165 ex165 => ?_)
                    have tx165 : x165.toInt = v9_8.toInt + 1 := by rw [ex165]; exact i32_add rfl (by decide) (by omega) (by omega)
                    exact ih8 v3_8 x165 o164 o_me_machine_8 hIo164 hkpo164 hI_me_machine_8 hkp_me_machine_8 ⟨by omega, by omega⟩ ⟨by omega, by omega⟩ (by omega) (by omega) (by omega)
              exact lp8 zfu z2 (0 : Int32) z154 z143.2 hz154_0 hkpz154_me_isles_now hz143_1 hkpz143_me_machine ⟨by omega, by omega⟩ ⟨by decide, by decide⟩ (by omega) (by omega) (by show _ < 100000; omega)

set_option maxHeartbeats 4000000 in
set_option maxRecDepth 100000 in
theorem s_X1_changedEntry {pl : List CR} (o_me : Ob) (o_me_isles : Ob) (o_me_isles_now : Ob) (p0 : Int32) (hI_me : IvX1 o_me) (hI_me_isles : IvX2 pl o_me_isles) (hI_me_isles_now : IvX4 o_me_isles_now) (q0 : 0 ≤ p0.toInt ∧ p0.toInt ≤ 6) : wp (f_X1_changedEntry   o_me o_me_isles o_me_isles_now p0) (fun (y : Int32 × Ob) => (0 ≤ y.1.toInt ∧ y.1.toInt ≤ 1) ∧ IvX4 y.2 ∧ Kp [] [0] [] o_me_isles_now y.2) := by
  have li0 : (1 : Int32).toInt = 1 := by decide
  unfold f_X1_changedEntry
  have t1 : 1 ≤ ((1 : Int32) <<< (p0 &&& 31)).toInt ∧ ((1 : Int32) <<< (p0 &&& 31)).toInt ≤ 64 := i32_shl6 (p := p0) (by omega) (by omega)
  refine wp_lt (fun o2 eo2 => ?_)
  have hIo2 : IvX4 o2 := by rw [eo2]; exact hI_me_isles_now
  have ko2_v : (gI o2 2).toInt = ((gI o_me_isles_now 2) ^^^ ((1 : Int32) <<< (p0 &&& 31))).toInt := by rw [eo2]; rfl
  have hkpo2 : Kp [] [0] [] o_me_isles_now o2 := Kp.rf.trans (by rw [eo2]; exact Kp.sI (by decide))
  have t3 := i32_and (x := (gI o2 2) >>> (p0 &&& 31)) (y := (1 : Int32)) (m := 1) ⟨by decide, by decide⟩
  refine wp_some ?_
  exact (show (0 ≤ (((gI o2 2) >>> (p0 &&& 31)) &&& (1 : Int32)).toInt ∧ (((gI o2 2) >>> (p0 &&& 31)) &&& (1 : Int32)).toInt ≤ 1) ∧ IvX4 o2 ∧ Kp [] [0] [] o_me_isles_now o2 from ⟨⟨by omega, by omega⟩, hIo2, hkpo2⟩)

set_option maxHeartbeats 4000000 in
set_option maxRecDepth 100000 in
theorem s_X1_takenGap {pl : List CR} (o_me : Ob) (o_me_isles : Ob) (o_me_isles_now : Ob) (p0 : Int32) (hI_me : IvX1 o_me) (hI_me_isles : IvX2 pl o_me_isles) (hI_me_isles_now : IvX4 o_me_isles_now) (q0 : 0 ≤ p0.toInt ∧ p0.toInt ≤ 6) : wp (f_X1_takenGap   o_me o_me_isles o_me_isles_now p0) (fun (y : Int32 × Ob) => IvX4 y.2 ∧ Kp [] [0] [] o_me_isles_now y.2) := by
  have li0 : (0 : Int32).toInt = 0 := by decide
  unfold f_X1_takenGap
  refine wp_lt (fun x1 ex1 => ?_)
  have tx1 : x1.toInt = (gI o_me_isles_now 3).toInt := by rw [ex1]
  refine wp_bd (s_X4_addPrizes   o_me_isles_now p0 x1  hI_me_isles_now  ⟨by omega, by omega⟩) (fun z2 hz2 => ?_)
  obtain ⟨hz2_0, hz2_1⟩ := hz2
  have hkpz2_me_isles_now : Kp [] [0] [] o_me_isles_now z2 := Kp.rf.trans (hz2_1.mono (by decide) (by decide) (by decide))
  refine wp_lt (fun o3 eo3 => ?_)
  have hIo3 : IvX4 o3 := by rw [eo3]; exact hz2_0
  have ko3_v : (gI o3 3).toInt = 0 := by rw [eo3]; exact (show ((0 : Int32)).toInt = _ from by decide)
  have hkpo3 : Kp [] [0] [] o_me_isles_now o3 := hkpz2_me_isles_now.trans (by rw [eo3]; exact Kp.sI (by decide))
  refine wp_some ?_
  exact (show IvX4 o3 ∧ Kp [] [0] [] o_me_isles_now o3 from ⟨hIo3, hkpo3⟩)

set_option maxHeartbeats 4000000 in
set_option maxRecDepth 100000 in
theorem s_X1_hasTradeOfLower {pl : List CR} (o_me : Ob) (o_me_isles : Ob) (o_me_isles_now : Ob) (p0 : Int32) (hI_me : IvX1 o_me) (hI_me_isles : IvX2 pl o_me_isles) (hI_me_isles_now : IvX4 o_me_isles_now) (q0 : 0 ≤ p0.toInt ∧ p0.toInt ≤ 6) : wp (f_X1_hasTradeOfLower   o_me o_me_isles o_me_isles_now p0) (fun (y : Int32) => (0 ≤ y.toInt ∧ y.toInt ≤ 1)) := by
  have li0 : (0 : Int32).toInt = 0 := by decide
  have li1 : (1 : Int32).toInt = 1 := by decide
  unfold f_X1_hasTradeOfLower
  have lp1 : ∀ (N1 : Nat) (v1_1 : Int32) (v2_1 : Int32), (0 ≤ v1_1.toInt ∧ v1_1.toInt ≤ 6) → (0 ≤ v2_1.toInt ∧ v2_1.toInt ≤ 6) → (v2_1.toInt ≤ v1_1.toInt + 0) → (v1_1.toInt ≤ p0.toInt + 0) → (p0.toInt ≤ v1_1.toInt + 0) → (v2_1.toInt ≤ p0.toInt + 0) → (6 - v2_1.toInt).toNat < N1 → wp (lp_X1_hasTradeOfLower_2 o_me o_me_isles o_me_isles_now  N1 (v1_1, v2_1)) (fun (y : Int32) => (0 ≤ y.toInt ∧ y.toInt ≤ 1)) := by
    intro N1
    induction N1 with
    | zero =>
      intro v1_1 v2_1 hh1 hh2 hh3 hh4 hh5 hh6 hN1
      exact absurd hN1 (Nat.not_lt_zero _)
    | succ N1 ihx =>
      have ih1 := ihx
      intro v1_1 v2_1 hh1 hh2 hh3 hh4 hh5 hh6 hN1
      show wp (lb_X1_hasTradeOfLower_2 o_me o_me_isles o_me_isles_now  (lp_X1_hasTradeOfLower_2 o_me o_me_isles o_me_isles_now  N1) v1_1 v2_1) (fun (y : Int32) => (0 ≤ y.toInt ∧ y.toInt ≤ 1))
      unfold lb_X1_hasTradeOfLower_2
      refine wp_if (fun c7 => ?_) (fun c7 => ?_)
      · have c7 := cv_ge (a := v2_1.toInt) (b := v1_1.toInt) rfl rfl c7
        refine wp_some ?_
        exact (show (0 ≤ (0 : Int32).toInt ∧ (0 : Int32).toInt ≤ 1) from ⟨by decide, by decide⟩)
      · have c7 := cv_nge (a := v2_1.toInt) (b := v1_1.toInt) rfl rfl c7
        refine wp_gd (zin_of (m := 7) rfl (by omega) (by omega)) ?_
        have t8 := iaX4_0_0 hI_me_isles_now (j := v2_1) (by omega) (by omega)
        refine wp_gd (zin_of (m := 7) rfl (by omega) (by omega)) ?_
        have t9 := iaX4_0_0 hI_me_isles_now (j := v1_1) (by omega) (by omega)
        refine wp_if (fun c10 => ?_) (fun c10 => ?_)
        · have c10 := cv_eq (a := (gA o_me_isles_now 0 v2_1.toNatClampNeg).toInt) (b := (gA o_me_isles_now 0 v1_1.toNatClampNeg).toInt) rfl rfl c10
          refine wp_some ?_
          exact (show (0 ≤ (1 : Int32).toInt ∧ (1 : Int32).toInt ≤ 1) from ⟨by decide, by decide⟩)
        · have c10 := cv_ne (a := (gA o_me_isles_now 0 v2_1.toNatClampNeg).toInt) (b := (gA o_me_isles_now 0 v1_1.toNatClampNeg).toInt) rfl rfl c10
          refine wp_lt (fun x11 ex11 => ?_)
          have tx11 : x11.toInt = v2_1.toInt + 1 := by rw [ex11]; exact i32_add rfl (by decide) (by omega) (by omega)
          exact ih1 v1_1 x11  ⟨by omega, by omega⟩ ⟨by omega, by omega⟩ (by omega) (by omega) (by omega) (by omega) (by omega)
  exact lp1 zfu p0 (0 : Int32)  ⟨by omega, by omega⟩ ⟨by decide, by decide⟩ (by omega) (by omega) (by omega) (by omega) (by show _ < 100000; omega)

set_option maxHeartbeats 4000000 in
set_option maxRecDepth 100000 in
theorem s_X1_passedYear (o_me : Ob) (o_me_isles : Ob) (o_me_isles_now : Ob) (o_me_machine : Ob) (o_pool : List CR) (hI_me : IvX1 o_me) (hI_me_isles : IvX2 o_pool o_me_isles) (hI_me_isles_now : IvX4 o_me_isles_now) (hI_me_machine : IvX3 o_me_machine) (hI_pool : PLok o_pool)  : wp (f_X1_passedYear   o_me o_me_isles o_me_isles_now o_me_machine o_pool) (fun (y : Int32 × Ob × Ob) => (0 ≤ y.1.toInt ∧ y.1.toInt ≤ 7) ∧ IvX4 y.2.1 ∧ Kp [] [] [] o_me_isles_now y.2.1 ∧ IvX3 y.2.2 ∧ Kp [] [] [] o_me_machine y.2.2) := by
  have li0 : (0 : Int32).toInt = 0 := by decide
  have li1 : (1 : Int32).toInt = 1 := by decide
  unfold f_X1_passedYear
  refine wp_bd (s_X2_lawInForce   o_me_isles  hI_me_isles  ) (fun z1 hz1 => ?_)
  have hz1_0 := hz1
  have lp1 : ∀ (N1 : Nat) (v1_1 : Option Nat) (v2_1 : Int32) (v3_1 : Int32) (o_me_isles_now_1 : Ob) (o_me_machine_1 : Ob), IvX4 o_me_isles_now_1 → Kp [] [] [] o_me_isles_now o_me_isles_now_1 → IvX3 o_me_machine_1 → Kp [] [] [] o_me_machine o_me_machine_1 → zpo o_pool v1_1 = true → (0 ≤ v2_1.toInt ∧ v2_1.toInt ≤ 7) → (0 ≤ v3_1.toInt ∧ v3_1.toInt ≤ 7) → (v2_1.toInt ≤ v3_1.toInt + 0) → (7 - v3_1.toInt).toNat < N1 → wp (lp_X1_passedYear_12 o_me o_me_isles o_pool  N1 (v1_1, v2_1, v3_1, o_me_isles_now_1, o_me_machine_1)) (fun (y : Int32 × Ob × Ob) => (0 ≤ y.1.toInt ∧ y.1.toInt ≤ 7) ∧ IvX4 y.2.1 ∧ Kp [] [] [] o_me_isles_now y.2.1 ∧ IvX3 y.2.2 ∧ Kp [] [] [] o_me_machine y.2.2) := by
    intro N1
    induction N1 with
    | zero =>
      intro v1_1 v2_1 v3_1 o_me_isles_now_1 o_me_machine_1 hI_me_isles_now_1 hkp_me_isles_now_1 hI_me_machine_1 hkp_me_machine_1 po_v1_1 hh2 hh3 hh4 hN1
      exact absurd hN1 (Nat.not_lt_zero _)
    | succ N1 ihx =>
      have ih1 := ihx
      intro v1_1 v2_1 v3_1 o_me_isles_now_1 o_me_machine_1 hI_me_isles_now_1 hkp_me_isles_now_1 hI_me_machine_1 hkp_me_machine_1 po_v1_1 hh2 hh3 hh4 hN1
      show wp (lb_X1_passedYear_12 o_me o_me_isles o_pool  (lp_X1_passedYear_12 o_me o_me_isles o_pool  N1) v1_1 v2_1 v3_1 o_me_isles_now_1 o_me_machine_1) (fun (y : Int32 × Ob × Ob) => (0 ≤ y.1.toInt ∧ y.1.toInt ≤ 7) ∧ IvX4 y.2.1 ∧ Kp [] [] [] o_me_isles_now y.2.1 ∧ IvX3 y.2.2 ∧ Kp [] [] [] o_me_machine y.2.2)
      unfold lb_X1_passedYear_12
      have t5 := igX2_7 hI_me_isles
      refine wp_if (fun c6 => ?_) (fun c6 => ?_)
      · have c6 := cv_ge (a := v3_1.toInt) (b := (gI o_me_isles 7).toInt) rfl rfl c6
        refine wp_lt (fun o7 eo7 => ?_)
        have hIo7 : IvX4 o7 := by rw [eo7]; exact hI_me_isles_now_1
        have ko7_v : (gI o7 4).toInt = ((gI o_me_isles_now_1 4) + (1 : Int32)).toInt := by rw [eo7]; rfl
        have hkpo7 : Kp [] [] [] o_me_isles_now o7 := hkp_me_isles_now_1.trans (by rw [eo7]; exact Kp.sI (by decide))
        refine wp_some ?_
        exact (show (0 ≤ v2_1.toInt ∧ v2_1.toInt ≤ 7) ∧ IvX4 o7 ∧ Kp [] [] [] o_me_isles_now o7 ∧ IvX3 o_me_machine_1 ∧ Kp [] [] [] o_me_machine o_me_machine_1 from ⟨⟨by omega, by omega⟩, hIo7, hkpo7, hI_me_machine_1, hkp_me_machine_1⟩)
      · have c6 := cv_nge (a := v3_1.toInt) (b := (gI o_me_isles 7).toInt) rfl rfl c6
        refine wp_bd (s_X1_hasTradeOfLower   o_me o_me_isles o_me_isles_now_1 v3_1  hI_me hI_me_isles hI_me_isles_now_1  ⟨by omega, by omega⟩) (fun z8 hz8 => ?_)
        have hz8_0 := hz8
        refine wp_if (fun c9 => ?_) (fun c9 => ?_)
        · have c9 := cv_eq (a := z8.toInt) (b := 0) rfl (by decide) c9
          unfold bk_X1_passedYear_53
          refine wp_lt (fun x10 ex10 => ?_)
          have tx10 : x10.toInt = v3_1.toInt + 1 := by rw [ex10]; exact i32_add rfl (by decide) (by omega) (by omega)
          exact ih1 v1_1 v2_1 x10 o_me_isles_now_1 o_me_machine_1 hI_me_isles_now_1 hkp_me_isles_now_1 hI_me_machine_1 hkp_me_machine_1 po_v1_1 ⟨by omega, by omega⟩ ⟨by omega, by omega⟩ (by omega) (by omega)
        · have c9z := c9
          have c9 := cv_ne (a := z8.toInt) (b := 0) rfl (by decide) c9
          refine wp_bd (s_X1_turnsTo_Q   o_me o_me_isles o_me_isles_now_1 o_me_machine_1 o_pool v1_1 v3_1 (0 : Int32)  hI_me hI_me_isles hI_me_isles_now_1 hI_me_machine_1 hI_pool po_v1_1 ⟨by omega, by omega⟩ ⟨by decide, by decide⟩) (fun z11 hz11 => ?_)
          obtain ⟨hz11_0, hz11_1, hz11_2⟩ := hz11
          have hkpz11_me_machine : Kp [] [] [] o_me_machine z11.2 := hkp_me_machine_1.trans (hz11_2.mono (by decide) (by decide) (by decide))
          refine wp_gd (zin_of (m := 7) rfl (by omega) (by omega)) ?_
          refine wp_lt (fun o12 eo12 => ?_)
          have hIo12 : IvX4 o12 := by rw [eo12]; exact ibX4_0 hI_me_isles_now_1 (by omega) (Or.inr (Or.inr ⟨by omega, by omega⟩))
          have ko12_v : (gA o12 0 v3_1.toNatClampNeg).toInt = z11.1.toInt := by rw [eo12]; exact congrArg Int32.toInt (upd_eq (g := gA o_me_isles_now_1 0) (i := v3_1) (v := z11.1))
          have hkpo12 : Kp [] [] [] o_me_isles_now o12 := hkp_me_isles_now_1.trans (by rw [eo12]; exact Kp.tA (by decide) (by decide))
          refine wp_lt (fun x13 ex13 => ?_)
          have tx13 : x13.toInt = v2_1.toInt + 1 := by rw [ex13]; exact i32_add rfl (by decide) (by omega) (by omega)
          unfold bk_X1_passedYear_53
          refine wp_lt (fun x14 ex14 => ?_)
          have tx14 : x14.toInt = v3_1.toInt + 1 := by rw [ex14]; exact i32_add rfl (by decide) (by omega) (by omega)
          exact ih1 v1_1 x13 x14 o12 z11.2 hIo12 hkpo12 hz11_1 hkpz11_me_machine po_v1_1 ⟨by omega, by omega⟩ ⟨by omega, by omega⟩ (by omega) (by omega)
  exact lp1 zfu z1 (0 : Int32) (0 : Int32) o_me_isles_now o_me_machine hI_me_isles_now Kp.rf hI_me_machine Kp.rf hz1_0 ⟨by decide, by decide⟩ ⟨by decide, by decide⟩ (by omega) (by show _ < 100000; omega)

set_option maxHeartbeats 4000000 in
set_option maxRecDepth 100000 in
theorem s_X4_isIn (o_me : Ob) (p0 : Int32) (hI_me : IvX4 o_me)  : wp (f_X4_isIn   o_me p0) (fun (y : Int32) => (0 ≤ y.toInt ∧ y.toInt ≤ 1)) := by
  have li0 : (0 : Int32).toInt = 0 := by decide
  have li1 : (1 : Int32).toInt = 1 := by decide
  unfold f_X4_isIn
  have t1 := i32_and (x := (gI o_me 2) >>> (p0 &&& 31)) (y := (1 : Int32)) (m := 1) ⟨by decide, by decide⟩
  refine wp_if (fun c2 => ?_) (fun c2 => ?_)
  · have c2 := cv_eq (a := (((gI o_me 2) >>> (p0 &&& 31)) &&& (1 : Int32)).toInt) (b := 1) rfl (by decide) c2
    refine wp_some ?_
    exact (show (0 ≤ (1 : Int32).toInt ∧ (1 : Int32).toInt ≤ 1) from ⟨by decide, by decide⟩)
  · have c2 := cv_ne (a := (((gI o_me 2) >>> (p0 &&& 31)) &&& (1 : Int32)).toInt) (b := 1) rfl (by decide) c2
    refine wp_some ?_
    exact (show (0 ≤ (0 : Int32).toInt ∧ (0 : Int32).toInt ≤ 1) from ⟨by decide, by decide⟩)

set_option maxHeartbeats 4000000 in
set_option maxRecDepth 100000 in
theorem s_X1_lineUp_Q (o_me : Ob) (o_me_isles : Ob) (o_me_isles_now : Ob) (o_me_machine : Ob) (o_pool : List CR) (p0 : Option Nat) (p1 : Int32) (hI_me : IvX1 o_me) (hI_me_isles : IvX2 o_pool o_me_isles) (hI_me_isles_now : IvX4 o_me_isles_now) (hI_me_machine : IvX3 o_me_machine) (hI_pool : PLok o_pool) (po_p0 : zpo o_pool p0 = true) (q0 : 0 ≤ p1.toInt ∧ p1.toInt ≤ 3) : wp (f_X1_lineUp_Q   o_me o_me_isles o_me_isles_now o_me_machine o_pool p0 p1) (fun (y : Int32 × Ob × Ob) => (0 ≤ y.1.toInt ∧ y.1.toInt ≤ 7) ∧ IvX1 y.2.1 ∧ Kp [] [] [] o_me y.2.1 ∧ IvX3 y.2.2 ∧ Kp [] [] [] o_me_machine y.2.2) := by
  have li0 : (0 : Int32).toInt = 0 := by decide
  have li1 : (1 : Int32).toInt = 1 := by decide
  unfold f_X1_lineUp_Q
  refine wp_lt (fun o1 eo1 => ?_)
  have hIo1 : IvX1 o1 := by rw [eo1]; exact ipX1_4 hI_me ⟨by decide, by decide⟩
  have ko1_v : (gI o1 4).toInt = 0 := by rw [eo1]; exact (show ((0 : Int32)).toInt = _ from by decide)
  have hkpo1 : Kp [] [] [] o_me o1 := Kp.rf.trans (by rw [eo1]; exact Kp.sI (by decide))
  have lp1 : ∀ (N1 : Nat) (v1_1 : Option Nat) (v2_1 : Int32) (v3_1 : Int32) (o_me_1 : Ob) (o_me_machine_1 : Ob), IvX1 o_me_1 → Kp [] [] [] o_me o_me_1 → IvX3 o_me_machine_1 → Kp [] [] [] o_me_machine o_me_machine_1 → zpo o_pool v1_1 = true → (0 ≤ v2_1.toInt ∧ v2_1.toInt ≤ 3) → (0 ≤ v3_1.toInt ∧ v3_1.toInt ≤ 7) → (0 ≤ (gI o_me_1 4).toInt ∧ (gI o_me_1 4).toInt ≤ 7) → ((gI o_me_1 4).toInt ≤ v3_1.toInt + 0) → (v2_1.toInt ≤ p1.toInt + 0) → (p1.toInt ≤ v2_1.toInt + 0) → (7 - v3_1.toInt).toNat < N1 → wp (lp_X1_lineUp_Q_7 o_me_isles o_me_isles_now o_pool  N1 (v1_1, v2_1, v3_1, o_me_1, o_me_machine_1)) (fun (y : Int32 × Ob × Ob) => (0 ≤ y.1.toInt ∧ y.1.toInt ≤ 7) ∧ IvX1 y.2.1 ∧ Kp [] [] [] o_me y.2.1 ∧ IvX3 y.2.2 ∧ Kp [] [] [] o_me_machine y.2.2) := by
    intro N1
    induction N1 with
    | zero =>
      intro v1_1 v2_1 v3_1 o_me_1 o_me_machine_1 hI_me_1 hkp_me_1 hI_me_machine_1 hkp_me_machine_1 po_v1_1 hh3 hh4 hh5 hh6 hh7 hh8 hN1
      exact absurd hN1 (Nat.not_lt_zero _)
    | succ N1 ihx =>
      have ih1 := ihx
      intro v1_1 v2_1 v3_1 o_me_1 o_me_machine_1 hI_me_1 hkp_me_1 hI_me_machine_1 hkp_me_machine_1 po_v1_1 hh3 hh4 hh5 hh6 hh7 hh8 hN1
      show wp (lb_X1_lineUp_Q_7 o_me_isles o_me_isles_now o_pool  (lp_X1_lineUp_Q_7 o_me_isles o_me_isles_now o_pool  N1) v1_1 v2_1 v3_1 o_me_1 o_me_machine_1) (fun (y : Int32 × Ob × Ob) => (0 ≤ y.1.toInt ∧ y.1.toInt ≤ 7) ∧ IvX1 y.2.1 ∧ Kp [] [] [] o_me y.2.1 ∧ IvX3 y.2.2 ∧ Kp [] [] [] o_me_machine y.2.2)
      unfold lb_X1_lineUp_Q_7
      have t9 := igX2_7 hI_me_isles
      refine wp_if (fun c10 => ?_) (fun c10 => ?_)
      · have c10 := cv_ge (a := v3_1.toInt) (b := (gI o_me_isles 7).toInt) rfl rfl c10
        refine wp_some ?_
        exact (show (0 ≤ (gI o_me_1 4).toInt ∧ (gI o_me_1 4).toInt ≤ 7) ∧ IvX1 o_me_1 ∧ Kp [] [] [] o_me o_me_1 ∧ IvX3 o_me_machine_1 ∧ Kp [] [] [] o_me_machine o_me_machine_1 from ⟨⟨by omega, by omega⟩, hI_me_1, hkp_me_1, hI_me_machine_1, hkp_me_machine_1⟩)
      · have c10 := cv_nge (a := v3_1.toInt) (b := (gI o_me_isles 7).toInt) rfl rfl c10
        refine wp_bd (s_X4_isIn   o_me_isles_now v3_1  hI_me_isles_now  ) (fun z11 hz11 => ?_)
        have hz11_0 := hz11
        refine wp_if (fun c12 => ?_) (fun c12 => ?_)
        · have c12 := cv_eq (a := z11.toInt) (b := 0) rfl (by decide) c12
          unfold bk_X1_lineUp_Q_129
          refine wp_lt (fun x13 ex13 => ?_)
          have tx13 : x13.toInt = v3_1.toInt + 1 := by rw [ex13]; exact i32_add rfl (by decide) (by omega) (by omega)
          exact ih1 v1_1 v2_1 x13 o_me_1 o_me_machine_1 hI_me_1 hkp_me_1 hI_me_machine_1 hkp_me_machine_1 po_v1_1 ⟨by omega, by omega⟩ ⟨by omega, by omega⟩ ⟨by omega, by omega⟩ (by omega) (by omega) (by omega) (by omega)
        · have c12z := c12
          have c12 := cv_ne (a := z11.toInt) (b := 0) rfl (by decide) c12
          refine wp_bd (s_X1_isBarred_Q   o_me_1 o_me_isles o_me_isles_now o_me_machine_1 o_pool v1_1 v3_1 v2_1  hI_me_1 hI_me_isles hI_me_isles_now hI_me_machine_1 hI_pool po_v1_1 ⟨by omega, by omega⟩ ⟨by omega, by omega⟩) (fun z14 hz14 => ?_)
          obtain ⟨hz14_0, hz14_1, hz14_2⟩ := hz14
          have hkpz14_me_machine : Kp [] [] [] o_me_machine z14.2 := hkp_me_machine_1.trans (hz14_2.mono (by decide) (by decide) (by decide))
          refine wp_if (fun c15 => ?_) (fun c15 => ?_)
          · have c15 := cv_eq (a := z14.1.toInt) (b := 0) rfl (by decide) c15
            refine wp_bd (s_X1_runsBy_Q   o_me_1 o_me_isles o_me_isles_now z14.2 o_pool v1_1 v3_1 v2_1  hI_me_1 hI_me_isles hI_me_isles_now hz14_1 hI_pool po_v1_1 ⟨by omega, by omega⟩ ⟨by omega, by omega⟩) (fun z16 hz16 => ?_)
            obtain ⟨hz16_0, hz16_1⟩ := hz16
            have hkpz16_me_machine : Kp [] [] [] o_me_machine z16.2 := hkpz14_me_machine.trans (hz16_1.mono (by decide) (by decide) (by decide))
            refine wp_gd (zin_of (m := 7) rfl (by omega) (by omega)) ?_
            refine wp_lt (fun o17 eo17 => ?_)
            have hIo17 : IvX1 o17 := by rw [eo17]; exact hI_me_1
            have ko17_k18 : (gI o17 4).toInt = (gI o_me_1 4).toInt := by rw [eo17]; rfl
            have ko17_v : (gA o17 3 v3_1.toNatClampNeg).toInt = z16.1.toInt := by rw [eo17]; exact congrArg Int32.toInt (upd_eq (g := gA o_me_1 3) (i := v3_1) (v := z16.1))
            have hkpo17 : Kp [] [] [] o_me o17 := hkp_me_1.trans (by rw [eo17]; exact Kp.tA (by decide) (by decide))
            refine wp_lt (fun x19 ex19 => ?_)
            have tx19 : x19.toInt = (gI o17 4).toInt := by rw [ex19]
            have lp2 : ∀ (N2 : Nat) (v1_2 : Option Nat) (v2_2 : Int32) (v3_2 : Int32) (v4_2 : Int32) (o_me_2 : Ob) (o_me_machine_2 : Ob), IvX1 o_me_2 → Kp [] [] [] o_me o_me_2 → IvX3 o_me_machine_2 → Kp [] [] [] o_me_machine o_me_machine_2 → zpo o_pool v1_2 = true → (0 ≤ v2_2.toInt ∧ v2_2.toInt ≤ 3) → (0 ≤ v3_2.toInt ∧ v3_2.toInt ≤ 6) → (0 ≤ v4_2.toInt ∧ v4_2.toInt ≤ 6) → (0 ≤ (gI o_me_2 4).toInt ∧ (gI o_me_2 4).toInt ≤ 6) → (v4_2.toInt ≤ v3_2.toInt + 0) → (v4_2.toInt ≤ (gI o_me_2 4).toInt + 0) → ((gI o_me_2 4).toInt ≤ v3_2.toInt + 0) → (v2_2.toInt ≤ p1.toInt + 0) → (p1.toInt ≤ v2_2.toInt + 0) → (v2_2.toInt ≤ v2_1.toInt + 0) → (v2_1.toInt ≤ v2_2.toInt + 0) → (x19.toInt ≤ v3_2.toInt + 0) → (v3_2.toInt ≤ v3_1.toInt + 0) → (v3_1.toInt ≤ v3_2.toInt + 0) → (v3_2.toInt ≤ (gI o_me_isles 7).toInt + (-1)) → (v4_2.toInt ≤ x19.toInt + 0) → (v4_2.toInt ≤ v3_1.toInt + 0) → (v4_2.toInt ≤ (gI o_me_isles 7).toInt + (-1)) → ((gI o_me_2 4).toInt ≤ x19.toInt + 0) → (x19.toInt ≤ (gI o_me_2 4).toInt + 0) → ((gI o_me_2 4).toInt ≤ v3_1.toInt + 0) → ((gI o_me_2 4).toInt ≤ (gI o_me_isles 7).toInt + (-1)) → (v4_2.toInt - 0).toNat < N2 → wp (lp_X1_lineUp_Q_61 o_me_isles o_me_isles_now o_pool (lp_X1_lineUp_Q_7 o_me_isles o_me_isles_now o_pool  N1) N2 (v1_2, v2_2, v3_2, v4_2, o_me_2, o_me_machine_2)) (fun (y : Int32 × Ob × Ob) => (0 ≤ y.1.toInt ∧ y.1.toInt ≤ 7) ∧ IvX1 y.2.1 ∧ Kp [] [] [] o_me y.2.1 ∧ IvX3 y.2.2 ∧ Kp [] [] [] o_me_machine y.2.2) := by
              intro N2
              induction N2 with
              | zero =>
                intro v1_2 v2_2 v3_2 v4_2 o_me_2 o_me_machine_2 hI_me_2 hkp_me_2 hI_me_machine_2 hkp_me_machine_2 po_v1_2 hh21 hh22 hh23 hh24 hh25 hh26 hh27 hh28 hh29 hh30 hh31 hh32 hh33 hh34 hh35 hh36 hh37 hh38 hh39 hh40 hh41 hh42 hN2
                exact absurd hN2 (Nat.not_lt_zero _)
              | succ N2 ihx =>
                have ih2 := ihx
                intro v1_2 v2_2 v3_2 v4_2 o_me_2 o_me_machine_2 hI_me_2 hkp_me_2 hI_me_machine_2 hkp_me_machine_2 po_v1_2 hh21 hh22 hh23 hh24 hh25 hh26 hh27 hh28 hh29 hh30 hh31 hh32 hh33 hh34 hh35 hh36 hh37 hh38 hh39 hh40 hh41 hh42 hN2
                show wp (lb_X1_lineUp_Q_61 o_me_isles o_me_isles_now o_pool (lp_X1_lineUp_Q_7 o_me_isles o_me_isles_now o_pool  N1) (lp_X1_lineUp_Q_61 o_me_isles o_me_isles_now o_pool (lp_X1_lineUp_Q_7 o_me_isles o_me_isles_now o_pool  N1) N2) v1_2 v2_2 v3_2 v4_2 o_me_2 o_me_machine_2) (fun (y : Int32 × Ob × Ob) => (0 ≤ y.1.toInt ∧ y.1.toInt ≤ 7) ∧ IvX1 y.2.1 ∧ Kp [] [] [] o_me y.2.1 ∧ IvX3 y.2.2 ∧ Kp [] [] [] o_me_machine y.2.2)
                unfold lb_X1_lineUp_Q_61
                refine wp_if (fun c43 => ?_) (fun c43 => ?_)
                · have c43 := cv_le (a := v4_2.toInt) (b := 0) rfl (by decide) c43
                  unfold bk_X1_lineUp_Q_111
                  refine wp_gd (zin_of (m := 7) rfl (by omega) (by omega)) ?_
                  refine wp_lt (fun o44 eo44 => ?_)
                  have hIo44 : IvX1 o44 := by rw [eo44]; exact ibX1_2 hI_me_2 (by omega) (Or.inr (Or.inr ⟨by omega, by omega⟩))
                  have ko44_k45 : (gI o44 4).toInt = (gI o_me_2 4).toInt := by rw [eo44]; rfl
                  have ko44_v : (gA o44 2 v4_2.toNatClampNeg).toInt = v3_2.toInt := by rw [eo44]; exact congrArg Int32.toInt (upd_eq (g := gA o_me_2 2) (i := v4_2) (v := v3_2))
                  have hkpo44 : Kp [] [] [] o_me o44 := hkp_me_2.trans (by rw [eo44]; exact Kp.tA (by decide) (by decide))
                  have t46 : ((gI o44 4) + (1 : Int32)).toInt = (gI o44 4).toInt + 1 := i32_add rfl (by decide) (by omega) (by omega)
                  refine wp_lt (fun o47 eo47 => ?_)
                  have hIo47 : IvX1 o47 := by rw [eo47]; exact ipX1_4 hIo44 ⟨by omega, by omega⟩
                  have ko47_k48 : (gA o47 2 v4_2.toNatClampNeg).toInt = (gA o44 2 v4_2.toNatClampNeg).toInt := by rw [eo47]; rfl
                  have ko47_v : (gI o47 4).toInt = ((gI o44 4) + (1 : Int32)).toInt := by rw [eo47]; rfl
                  have hkpo47 : Kp [] [] [] o_me o47 := hkpo44.trans (by rw [eo47]; exact Kp.sI (by decide))
                  unfold bk_X1_lineUp_Q_129
                  refine wp_lt (fun x49 ex49 => ?_)
                  have tx49 : x49.toInt = v3_2.toInt + 1 := by rw [ex49]; exact i32_add rfl (by decide) (by omega) (by omega)
                  exact ih1 v1_2 v2_2 x49 o47 o_me_machine_2 hIo47 hkpo47 hI_me_machine_2 hkp_me_machine_2 po_v1_2 ⟨by omega, by omega⟩ ⟨by omega, by omega⟩ ⟨by omega, by omega⟩ (by omega) (by omega) (by omega) (by omega)
                · have c43 := cv_nle (a := v4_2.toInt) (b := 0) rfl (by decide) c43
                  have t50 : (v4_2 - (1 : Int32)).toInt = v4_2.toInt - 1 := i32_sub rfl (by decide) (by omega) (by omega)
                  refine wp_gd (zin_of (m := 7) rfl (by omega) (by omega)) ?_
                  have t51 := iaX1_2_0 hI_me_2 (j := v4_2 - (1 : Int32)) (by omega) (by omega)
                  refine wp_gd (zin_of (m := 7) rfl (by omega) (by omega)) ?_
                  refine wp_gd (zin_of (m := 7) rfl (by omega) (by omega)) ?_
                  have rg53 := i32_rg (gA o_me_2 3 (gA o_me_2 2 (v4_2 - (1 : Int32)).toNatClampNeg).toNatClampNeg)
                  have rg54 := i32_rg (gA o_me_2 3 v3_2.toNatClampNeg)
                  refine wp_if (fun c52 => ?_) (fun c52 => ?_)
                  · have c52 := cv_ge (a := (gA o_me_2 3 (gA o_me_2 2 (v4_2 - (1 : Int32)).toNatClampNeg).toNatClampNeg).toInt) (b := (gA o_me_2 3 v3_2.toNatClampNeg).toInt) rfl rfl c52
                    unfold bk_X1_lineUp_Q_111
                    refine wp_gd (zin_of (m := 7) rfl (by omega) (by omega)) ?_
                    refine wp_lt (fun o55 eo55 => ?_)
                    have hIo55 : IvX1 o55 := by rw [eo55]; exact ibX1_2 hI_me_2 (by omega) (Or.inr (Or.inr ⟨by omega, by omega⟩))
                    have ko55_k56 : (gA o55 3 (gA o_me_2 2 (v4_2 - (1 : Int32)).toNatClampNeg).toNatClampNeg).toInt = (gA o_me_2 3 (gA o_me_2 2 (v4_2 - (1 : Int32)).toNatClampNeg).toNatClampNeg).toInt := by rw [eo55]; rfl
                    have ko55_k57 : (gA o55 3 v3_2.toNatClampNeg).toInt = (gA o_me_2 3 v3_2.toNatClampNeg).toInt := by rw [eo55]; rfl
                    have ko55_k58 : (gI o55 4).toInt = (gI o_me_2 4).toInt := by rw [eo55]; rfl
                    have ko55_v : (gA o55 2 v4_2.toNatClampNeg).toInt = v3_2.toInt := by rw [eo55]; exact congrArg Int32.toInt (upd_eq (g := gA o_me_2 2) (i := v4_2) (v := v3_2))
                    have hkpo55 : Kp [] [] [] o_me o55 := hkp_me_2.trans (by rw [eo55]; exact Kp.tA (by decide) (by decide))
                    have t59 : ((gI o55 4) + (1 : Int32)).toInt = (gI o55 4).toInt + 1 := i32_add rfl (by decide) (by omega) (by omega)
                    refine wp_lt (fun o60 eo60 => ?_)
                    have hIo60 : IvX1 o60 := by rw [eo60]; exact ipX1_4 hIo55 ⟨by omega, by omega⟩
                    have ko60_k61 : (gA o60 2 v4_2.toNatClampNeg).toInt = (gA o55 2 v4_2.toNatClampNeg).toInt := by rw [eo60]; rfl
                    have ko60_k62 : (gA o60 3 (gA o_me_2 2 (v4_2 - (1 : Int32)).toNatClampNeg).toNatClampNeg).toInt = (gA o55 3 (gA o_me_2 2 (v4_2 - (1 : Int32)).toNatClampNeg).toNatClampNeg).toInt := by rw [eo60]; rfl
                    have ko60_k63 : (gA o60 3 v3_2.toNatClampNeg).toInt = (gA o55 3 v3_2.toNatClampNeg).toInt := by rw [eo60]; rfl
                    have ko60_v : (gI o60 4).toInt = ((gI o55 4) + (1 : Int32)).toInt := by rw [eo60]; rfl
                    have hkpo60 : Kp [] [] [] o_me o60 := hkpo55.trans (by rw [eo60]; exact Kp.sI (by decide))
                    unfold bk_X1_lineUp_Q_129
                    refine wp_lt (fun x64 ex64 => ?_)
                    have tx64 : x64.toInt = v3_2.toInt + 1 := by rw [ex64]; exact i32_add rfl (by decide) (by omega) (by omega)
                    exact ih1 v1_2 v2_2 x64 o60 o_me_machine_2 hIo60 hkpo60 hI_me_machine_2 hkp_me_machine_2 po_v1_2 ⟨by omega, by omega⟩ ⟨by omega, by omega⟩ ⟨by omega, by omega⟩ (by omega) (by omega) (by omega) (by omega)
                  · have c52 := cv_nge (a := (gA o_me_2 3 (gA o_me_2 2 (v4_2 - (1 : Int32)).toNatClampNeg).toNatClampNeg).toInt) (b := (gA o_me_2 3 v3_2.toNatClampNeg).toInt) rfl rfl c52
                    refine wp_gd (zin_of (m := 7) rfl (by omega) (by omega)) ?_
                    refine wp_gd (zin_of (m := 7) rfl (by omega) (by omega)) ?_
                    refine wp_lt (fun o65 eo65 => ?_)
                    have hIo65 : IvX1 o65 := by rw [eo65]; exact ibX1_2 hI_me_2 (by omega) (Or.inr (Or.inr ⟨by omega, by omega⟩))
                    have ko65_k66 : (gA o65 3 (gA o_me_2 2 (v4_2 - (1 : Int32)).toNatClampNeg).toNatClampNeg).toInt = (gA o_me_2 3 (gA o_me_2 2 (v4_2 - (1 : Int32)).toNatClampNeg).toNatClampNeg).toInt := by rw [eo65]; rfl
                    have ko65_k67 : (gA o65 3 v3_2.toNatClampNeg).toInt = (gA o_me_2 3 v3_2.toNatClampNeg).toInt := by rw [eo65]; rfl
                    have ko65_k68 : (gI o65 4).toInt = (gI o_me_2 4).toInt := by rw [eo65]; rfl
                    have ko65_v : (gA o65 2 v4_2.toNatClampNeg).toInt = (gA o_me_2 2 (v4_2 - (1 : Int32)).toNatClampNeg).toInt := by rw [eo65]; exact congrArg Int32.toInt (upd_eq (g := gA o_me_2 2) (i := v4_2) (v := (gA o_me_2 2 (v4_2 - (1 : Int32)).toNatClampNeg)))
                    have hkpo65 : Kp [] [] [] o_me o65 := hkp_me_2.trans (by rw [eo65]; exact Kp.tA (by decide) (by decide))
                    refine wp_lt (fun x69 ex69 => ?_)
                    have tx69 : x69.toInt = v4_2.toInt + (-1) := by rw [ex69]; exact i32_add rfl (by decide) (by omega) (by omega)
                    exact ih2 v1_2 v2_2 v3_2 x69 o65 o_me_machine_2 hIo65 hkpo65 hI_me_machine_2 hkp_me_machine_2 po_v1_2 ⟨by omega, by omega⟩ ⟨by omega, by omega⟩ ⟨by omega, by omega⟩ ⟨by omega, by omega⟩ (by omega) (by omega) (by omega) (by omega) (by omega) (by omega) (by omega) (by omega) (by omega) (by omega) (by omega) (by omega) (by omega) (by omega) (by omega) (by omega) (by omega) (by omega) (by omega)
            exact lp2 zfu v1_1 v2_1 v3_1 x19 o17 z16.2 hIo17 hkpo17 hz16_0 hkpz16_me_machine po_v1_1 ⟨by omega, by omega⟩ ⟨by omega, by omega⟩ ⟨by omega, by omega⟩ ⟨by omega, by omega⟩ (by omega) (by omega) (by omega) (by omega) (by omega) (by omega) (by omega) (by omega) (by omega) (by omega) (by omega) (by omega) (by omega) (by omega) (by omega) (by omega) (by omega) (by omega) (by show _ < 100000; omega)
          · have c15z := c15
            have c15 := cv_ne (a := z14.1.toInt) (b := 0) rfl (by decide) c15
            unfold bk_X1_lineUp_Q_129
            refine wp_lt (fun x70 ex70 => ?_)
            have tx70 : x70.toInt = v3_1.toInt + 1 := by rw [ex70]; exact i32_add rfl (by decide) (by omega) (by omega)
            exact ih1 v1_1 v2_1 x70 o_me_1 z14.2 hI_me_1 hkp_me_1 hz14_1 hkpz14_me_machine po_v1_1 ⟨by omega, by omega⟩ ⟨by omega, by omega⟩ ⟨by omega, by omega⟩ (by omega) (by omega) (by omega) (by omega)
  exact lp1 zfu p0 p1 (0 : Int32) o1 o_me_machine hIo1 hkpo1 hI_me_machine Kp.rf po_p0 ⟨by omega, by omega⟩ ⟨by decide, by decide⟩ ⟨by omega, by omega⟩ (by omega) (by omega) (by omega) (by show _ < 100000; omega)

set_option maxHeartbeats 4000000 in
set_option maxRecDepth 100000 in
theorem s_X1_moved_N (o_me : Ob) (o_me_isles : Ob) (o_me_isles_now : Ob) (o_me_machine : Ob) (o_pool : List CR) (p0 : Int32) (p1 : Int32) (hI_me : IvX1 o_me) (hI_me_isles : IvX2 o_pool o_me_isles) (hI_me_isles_now : IvX4 o_me_isles_now) (hI_me_machine : IvX3 o_me_machine) (hI_pool : PLok o_pool)  : wp (f_X1_moved_N   o_me o_me_isles o_me_isles_now o_me_machine o_pool p0 p1) (fun (y : Int32 × Ob × Ob × Ob) => IvX1 y.2.1 ∧ Kp [] [] [] o_me y.2.1 ∧ IvX4 y.2.2.1 ∧ Kp [] [] [] o_me_isles_now y.2.2.1 ∧ IvX3 y.2.2.2 ∧ Kp [] [] [] o_me_machine y.2.2.2) := by
  have li0 : (-1 : Int32).toInt = (-1) := by decide
  have li1 : (-2 : Int32).toInt = (-2) := by decide
  have li2 : (-3 : Int32).toInt = (-3) := by decide
  have li3 : (0 : Int32).toInt = 0 := by decide
  have li4 : (2 : Int32).toInt = 2 := by decide
  have li5 : (3 : Int32).toInt = 3 := by decide
  have li6 : (999 : Int32).toInt = 999 := by decide
  unfold f_X1_moved_N
  refine wp_if (fun c1 => ?_) (fun c1 => ?_)
  · have c1 := cv_eq (a := p0.toInt) (b := 0) rfl (by decide) c1
    refine wp_bd (s_X8_isRace   p1    ) (fun z2 hz2 => ?_)
    obtain ⟨hz2_0, hz2_1⟩ := hz2
    refine wp_if (fun c3 => ?_) (fun c3 => ?_)
    · have c3 := cv_eq (a := z2.toInt) (b := 0) rfl (by decide) c3
      obtain ⟨w4, ew4⟩ : ∃ z : Int32, z = (-1 : Int32) := ⟨_, rfl⟩
      have tw4 : w4.toInt = (-1) := by rw [ew4]; decide
      rw [show bk_X1_moved_N_39 o_me_isles o_pool  p0 p1 (-1 : Int32) o_me o_me_isles_now o_me_machine = bk_X1_moved_N_39 o_me_isles o_pool  p0 p1 w4 o_me o_me_isles_now o_me_machine from by rw [ew4]]
      unfold bk_X1_moved_N_39
      unfold bk_X1_moved_N_118
      refine wp_if (fun c5 => ?_) (fun c5 => ?_)
      · have c5 := cv_eq (a := w4.toInt) (b := 0) rfl (by decide) c5
        exfalso; omega
      · have c5z := c5
        have c5 := cv_ne (a := w4.toInt) (b := 0) rfl (by decide) c5
        refine wp_some ?_
        exact (show IvX1 o_me ∧ Kp [] [] [] o_me o_me ∧ IvX4 o_me_isles_now ∧ Kp [] [] [] o_me_isles_now o_me_isles_now ∧ IvX3 o_me_machine ∧ Kp [] [] [] o_me_machine o_me_machine from ⟨hI_me, Kp.rf, hI_me_isles_now, Kp.rf, hI_me_machine, Kp.rf⟩)
    · have c3z := c3
      have c3i := hz2_1 c3
      have c3 := cv_ne (a := z2.toInt) (b := 0) rfl (by decide) c3
      refine wp_bd (s_X2_lawInForce   o_me_isles  hI_me_isles  ) (fun z6 hz6 => ?_)
      have hz6_0 := hz6
      refine wp_bd (s_X1_lineUp_Q   o_me o_me_isles o_me_isles_now o_me_machine o_pool z6 p1  hI_me hI_me_isles hI_me_isles_now hI_me_machine hI_pool hz6_0 ⟨by omega, by omega⟩) (fun z7 hz7 => ?_)
      obtain ⟨hz7_0, hz7_1, hz7_2, hz7_3, hz7_4⟩ := hz7
      have hkpz7_me : Kp [] [] [] o_me z7.2.1 := Kp.rf.trans (hz7_2.mono (by decide) (by decide) (by decide))
      have hkpz7_me_machine : Kp [] [] [] o_me_machine z7.2.2 := Kp.rf.trans (hz7_4.mono (by decide) (by decide) (by decide))
      refine wp_if (fun c8 => ?_) (fun c8 => ?_)
      · have c8 := cv_eq (a := z7.1.toInt) (b := 0) rfl (by decide) c8
        obtain ⟨w9, ew9⟩ : ∃ z : Int32, z = (-3 : Int32) := ⟨_, rfl⟩
        have tw9 : w9.toInt = (-3) := by rw [ew9]; decide
        rw [show bk_X1_moved_N_39 o_me_isles o_pool  p0 p1 (-3 : Int32) z7.2.1 o_me_isles_now z7.2.2 = bk_X1_moved_N_39 o_me_isles o_pool  p0 p1 w9 z7.2.1 o_me_isles_now z7.2.2 from by rw [ew9]]
        unfold bk_X1_moved_N_39
        unfold bk_X1_moved_N_118
        refine wp_if (fun c10 => ?_) (fun c10 => ?_)
        · have c10 := cv_eq (a := w9.toInt) (b := 0) rfl (by decide) c10
          exfalso; omega
        · have c10z := c10
          have c10 := cv_ne (a := w9.toInt) (b := 0) rfl (by decide) c10
          refine wp_some ?_
          exact (show IvX1 z7.2.1 ∧ Kp [] [] [] o_me z7.2.1 ∧ IvX4 o_me_isles_now ∧ Kp [] [] [] o_me_isles_now o_me_isles_now ∧ IvX3 z7.2.2 ∧ Kp [] [] [] o_me_machine z7.2.2 from ⟨hz7_1, hkpz7_me, hI_me_isles_now, Kp.rf, hz7_3, hkpz7_me_machine⟩)
      · have c8z := c8
        have c8 := cv_ne (a := z7.1.toInt) (b := 0) rfl (by decide) c8
        obtain ⟨w11, ew11⟩ : ∃ z : Int32, z = (0 : Int32) := ⟨_, rfl⟩
        have tw11 : w11.toInt = 0 := by rw [ew11]; decide
        rw [show bk_X1_moved_N_39 o_me_isles o_pool  p0 p1 (0 : Int32) z7.2.1 o_me_isles_now z7.2.2 = bk_X1_moved_N_39 o_me_isles o_pool  p0 p1 w11 z7.2.1 o_me_isles_now z7.2.2 from by rw [ew11]]
        unfold bk_X1_moved_N_39
        unfold bk_X1_moved_N_118
        refine wp_if (fun c12 => ?_) (fun c12 => ?_)
        · have c12 := cv_eq (a := w11.toInt) (b := 0) rfl (by decide) c12
          unfold bk_X1_moved_N_142
          refine wp_if (fun c13 => ?_) (fun c13 => ?_)
          · have c13 := cv_eq (a := p0.toInt) (b := 0) rfl (by decide) c13
            refine wp_bd (s_X1_heldRace   z7.2.1 o_me_isles o_me_isles_now z7.2.2 o_pool p1  hz7_1 hI_me_isles hI_me_isles_now hz7_3 hI_pool  ⟨by omega, by omega⟩) (fun z14 hz14 => ?_)
            obtain ⟨hz14_0, hz14_1, hz14_2, hz14_3, hz14_4⟩ := hz14
            have hkpz14_me_isles_now : Kp [] [] [] o_me_isles_now z14.2.1 := Kp.rf.trans (hz14_2.mono (by decide) (by decide) (by decide))
            have hkpz14_me_machine : Kp [] [] [] o_me_machine z14.2.2 := hkpz7_me_machine.trans (hz14_4.mono (by decide) (by decide) (by decide))
            refine wp_some ?_
            exact (show IvX1 z7.2.1 ∧ Kp [] [] [] o_me z7.2.1 ∧ IvX4 z14.2.1 ∧ Kp [] [] [] o_me_isles_now z14.2.1 ∧ IvX3 z14.2.2 ∧ Kp [] [] [] o_me_machine z14.2.2 from ⟨hz7_1, hkpz7_me, hz14_1, hkpz14_me_isles_now, hz14_3, hkpz14_me_machine⟩)
          have c13 := cv_ne (a := p0.toInt) (b := 0) rfl (by decide) c13
          refine wp_if (fun c15 => ?_) (fun c15 => ?_)
          · have c15 := cv_eq (a := p0.toInt) (b := 1) rfl (by decide) c15
            exfalso; omega
          have c15 := cv_ne (a := p0.toInt) (b := 1) rfl (by decide) c15
          refine wp_if (fun c16 => ?_) (fun c16 => ?_)
          · have c16 := cv_eq (a := p0.toInt) (b := 2) rfl (by decide) c16
            exfalso; omega
          have c16 := cv_ne (a := p0.toInt) (b := 2) rfl (by decide) c16
          refine wp_bd (s_X1_passedYear   z7.2.1 o_me_isles o_me_isles_now z7.2.2 o_pool  hz7_1 hI_me_isles hI_me_isles_now hz7_3 hI_pool  ) (fun z17 hz17 => ?_)
          obtain ⟨hz17_0, hz17_1, hz17_2, hz17_3, hz17_4⟩ := hz17
          have hkpz17_me_isles_now : Kp [] [] [] o_me_isles_now z17.2.1 := Kp.rf.trans (hz17_2.mono (by decide) (by decide) (by decide))
          have hkpz17_me_machine : Kp [] [] [] o_me_machine z17.2.2 := hkpz7_me_machine.trans (hz17_4.mono (by decide) (by decide) (by decide))
          refine wp_some ?_
          exact (show IvX1 z7.2.1 ∧ Kp [] [] [] o_me z7.2.1 ∧ IvX4 z17.2.1 ∧ Kp [] [] [] o_me_isles_now z17.2.1 ∧ IvX3 z17.2.2 ∧ Kp [] [] [] o_me_machine z17.2.2 from ⟨hz7_1, hkpz7_me, hz17_1, hkpz17_me_isles_now, hz17_3, hkpz17_me_machine⟩)
        · have c12z := c12
          have c12 := cv_ne (a := w11.toInt) (b := 0) rfl (by decide) c12
          exfalso; omega
  · have c1z := c1
    have c1 := cv_ne (a := p0.toInt) (b := 0) rfl (by decide) c1
    refine wp_if (fun c18 => ?_) (fun c18 => ?_)
    · have c18 := cv_eq (a := p0.toInt) (b := 3) rfl (by decide) c18
      refine wp_if (fun c19 => ?_) (fun c19 => ?_)
      · have c19 := cv_lt (a := (gI o_me_isles_now 4).toInt) (b := 999) rfl (by decide) c19
        obtain ⟨w20, ew20⟩ : ∃ z : Int32, z = (0 : Int32) := ⟨_, rfl⟩
        have tw20 : w20.toInt = 0 := by rw [ew20]; decide
        rw [show bk_X1_moved_N_71 o_me_isles o_pool  p0 p1 (0 : Int32) o_me o_me_isles_now o_me_machine = bk_X1_moved_N_71 o_me_isles o_pool  p0 p1 w20 o_me o_me_isles_now o_me_machine from by rw [ew20]]
        unfold bk_X1_moved_N_71
        unfold bk_X1_moved_N_118
        refine wp_if (fun c21 => ?_) (fun c21 => ?_)
        · have c21 := cv_eq (a := w20.toInt) (b := 0) rfl (by decide) c21
          unfold bk_X1_moved_N_142
          refine wp_if (fun c22 => ?_) (fun c22 => ?_)
          · have c22 := cv_eq (a := p0.toInt) (b := 0) rfl (by decide) c22
            exfalso; omega
          have c22 := cv_ne (a := p0.toInt) (b := 0) rfl (by decide) c22
          refine wp_if (fun c23 => ?_) (fun c23 => ?_)
          · have c23 := cv_eq (a := p0.toInt) (b := 1) rfl (by decide) c23
            exfalso; omega
          have c23 := cv_ne (a := p0.toInt) (b := 1) rfl (by decide) c23
          refine wp_if (fun c24 => ?_) (fun c24 => ?_)
          · have c24 := cv_eq (a := p0.toInt) (b := 2) rfl (by decide) c24
            exfalso; omega
          have c24 := cv_ne (a := p0.toInt) (b := 2) rfl (by decide) c24
          refine wp_bd (s_X1_passedYear   o_me o_me_isles o_me_isles_now o_me_machine o_pool  hI_me hI_me_isles hI_me_isles_now hI_me_machine hI_pool  ) (fun z25 hz25 => ?_)
          obtain ⟨hz25_0, hz25_1, hz25_2, hz25_3, hz25_4⟩ := hz25
          have hkpz25_me_isles_now : Kp [] [] [] o_me_isles_now z25.2.1 := Kp.rf.trans (hz25_2.mono (by decide) (by decide) (by decide))
          have hkpz25_me_machine : Kp [] [] [] o_me_machine z25.2.2 := Kp.rf.trans (hz25_4.mono (by decide) (by decide) (by decide))
          refine wp_some ?_
          exact (show IvX1 o_me ∧ Kp [] [] [] o_me o_me ∧ IvX4 z25.2.1 ∧ Kp [] [] [] o_me_isles_now z25.2.1 ∧ IvX3 z25.2.2 ∧ Kp [] [] [] o_me_machine z25.2.2 from ⟨hI_me, Kp.rf, hz25_1, hkpz25_me_isles_now, hz25_3, hkpz25_me_machine⟩)
        · have c21z := c21
          have c21 := cv_ne (a := w20.toInt) (b := 0) rfl (by decide) c21
          exfalso; omega
      · have c19 := cv_nlt (a := (gI o_me_isles_now 4).toInt) (b := 999) rfl (by decide) c19
        obtain ⟨w26, ew26⟩ : ∃ z : Int32, z = (-3 : Int32) := ⟨_, rfl⟩
        have tw26 : w26.toInt = (-3) := by rw [ew26]; decide
        rw [show bk_X1_moved_N_71 o_me_isles o_pool  p0 p1 (-3 : Int32) o_me o_me_isles_now o_me_machine = bk_X1_moved_N_71 o_me_isles o_pool  p0 p1 w26 o_me o_me_isles_now o_me_machine from by rw [ew26]]
        unfold bk_X1_moved_N_71
        unfold bk_X1_moved_N_118
        refine wp_if (fun c27 => ?_) (fun c27 => ?_)
        · have c27 := cv_eq (a := w26.toInt) (b := 0) rfl (by decide) c27
          exfalso; omega
        · have c27z := c27
          have c27 := cv_ne (a := w26.toInt) (b := 0) rfl (by decide) c27
          refine wp_some ?_
          exact (show IvX1 o_me ∧ Kp [] [] [] o_me o_me ∧ IvX4 o_me_isles_now ∧ Kp [] [] [] o_me_isles_now o_me_isles_now ∧ IvX3 o_me_machine ∧ Kp [] [] [] o_me_machine o_me_machine from ⟨hI_me, Kp.rf, hI_me_isles_now, Kp.rf, hI_me_machine, Kp.rf⟩)
    · have c18 := cv_ne (a := p0.toInt) (b := 3) rfl (by decide) c18
      refine wp_bd (s_X2_isPerson   o_me_isles p1  hI_me_isles  ) (fun z28 hz28 => ?_)
      obtain ⟨hz28_0, hz28_1⟩ := hz28
      refine wp_if (fun c29 => ?_) (fun c29 => ?_)
      · have c29 := cv_eq (a := z28.toInt) (b := 0) rfl (by decide) c29
        obtain ⟨w30, ew30⟩ : ∃ z : Int32, z = (-2 : Int32) := ⟨_, rfl⟩
        have tw30 : w30.toInt = (-2) := by rw [ew30]; decide
        rw [show bk_X1_moved_N_116 o_me_isles o_pool  p0 p1 (-2 : Int32) o_me o_me_isles_now o_me_machine = bk_X1_moved_N_116 o_me_isles o_pool  p0 p1 w30 o_me o_me_isles_now o_me_machine from by rw [ew30]]
        unfold bk_X1_moved_N_116
        unfold bk_X1_moved_N_118
        refine wp_if (fun c31 => ?_) (fun c31 => ?_)
        · have c31 := cv_eq (a := w30.toInt) (b := 0) rfl (by decide) c31
          exfalso; omega
        · have c31z := c31
          have c31 := cv_ne (a := w30.toInt) (b := 0) rfl (by decide) c31
          refine wp_some ?_
          exact (show IvX1 o_me ∧ Kp [] [] [] o_me o_me ∧ IvX4 o_me_isles_now ∧ Kp [] [] [] o_me_isles_now o_me_isles_now ∧ IvX3 o_me_machine ∧ Kp [] [] [] o_me_machine o_me_machine from ⟨hI_me, Kp.rf, hI_me_isles_now, Kp.rf, hI_me_machine, Kp.rf⟩)
      · have c29z := c29
        have c29i := hz28_1 c29
        have c29 := cv_ne (a := z28.toInt) (b := 0) rfl (by decide) c29
        refine wp_if (fun c32 => ?_) (fun c32 => ?_)
        · have c32 := cv_eq (a := p0.toInt) (b := 2) rfl (by decide) c32
          refine wp_if (fun c33 => ?_) (fun c33 => ?_)
          · have c33 := cv_eq (a := (gI o_me_isles_now 3).toInt) (b := 0) rfl (by decide) c33
            obtain ⟨w34, ew34⟩ : ∃ z : Int32, z = (-3 : Int32) := ⟨_, rfl⟩
            have tw34 : w34.toInt = (-3) := by rw [ew34]; decide
            rw [show bk_X1_moved_N_116 o_me_isles o_pool  p0 p1 (-3 : Int32) o_me o_me_isles_now o_me_machine = bk_X1_moved_N_116 o_me_isles o_pool  p0 p1 w34 o_me o_me_isles_now o_me_machine from by rw [ew34]]
            unfold bk_X1_moved_N_116
            unfold bk_X1_moved_N_118
            refine wp_if (fun c35 => ?_) (fun c35 => ?_)
            · have c35 := cv_eq (a := w34.toInt) (b := 0) rfl (by decide) c35
              exfalso; omega
            · have c35z := c35
              have c35 := cv_ne (a := w34.toInt) (b := 0) rfl (by decide) c35
              refine wp_some ?_
              exact (show IvX1 o_me ∧ Kp [] [] [] o_me o_me ∧ IvX4 o_me_isles_now ∧ Kp [] [] [] o_me_isles_now o_me_isles_now ∧ IvX3 o_me_machine ∧ Kp [] [] [] o_me_machine o_me_machine from ⟨hI_me, Kp.rf, hI_me_isles_now, Kp.rf, hI_me_machine, Kp.rf⟩)
          · have c33z := c33
            have c33 := cv_ne (a := (gI o_me_isles_now 3).toInt) (b := 0) rfl (by decide) c33
            unfold bk_X1_moved_N_115
            obtain ⟨w36, ew36⟩ : ∃ z : Int32, z = (0 : Int32) := ⟨_, rfl⟩
            have tw36 : w36.toInt = 0 := by rw [ew36]; decide
            rw [show bk_X1_moved_N_116 o_me_isles o_pool  p0 p1 (0 : Int32) o_me o_me_isles_now o_me_machine = bk_X1_moved_N_116 o_me_isles o_pool  p0 p1 w36 o_me o_me_isles_now o_me_machine from by rw [ew36]]
            unfold bk_X1_moved_N_116
            unfold bk_X1_moved_N_118
            refine wp_if (fun c37 => ?_) (fun c37 => ?_)
            · have c37 := cv_eq (a := w36.toInt) (b := 0) rfl (by decide) c37
              unfold bk_X1_moved_N_142
              refine wp_if (fun c38 => ?_) (fun c38 => ?_)
              · have c38 := cv_eq (a := p0.toInt) (b := 0) rfl (by decide) c38
                exfalso; omega
              have c38 := cv_ne (a := p0.toInt) (b := 0) rfl (by decide) c38
              refine wp_if (fun c39 => ?_) (fun c39 => ?_)
              · have c39 := cv_eq (a := p0.toInt) (b := 1) rfl (by decide) c39
                exfalso; omega
              have c39 := cv_ne (a := p0.toInt) (b := 1) rfl (by decide) c39
              refine wp_if (fun c40 => ?_) (fun c40 => ?_)
              · have c40 := cv_eq (a := p0.toInt) (b := 2) rfl (by decide) c40
                refine wp_bd (s_X1_takenGap   o_me o_me_isles o_me_isles_now p1  hI_me hI_me_isles hI_me_isles_now  ⟨by omega, by omega⟩) (fun z41 hz41 => ?_)
                obtain ⟨hz41_0, hz41_1⟩ := hz41
                have hkpz41_me_isles_now : Kp [] [] [] o_me_isles_now z41.2 := Kp.rf.trans (hz41_1.mono (by decide) (by decide) (by decide))
                refine wp_some ?_
                exact (show IvX1 o_me ∧ Kp [] [] [] o_me o_me ∧ IvX4 z41.2 ∧ Kp [] [] [] o_me_isles_now z41.2 ∧ IvX3 o_me_machine ∧ Kp [] [] [] o_me_machine o_me_machine from ⟨hI_me, Kp.rf, hz41_0, hkpz41_me_isles_now, hI_me_machine, Kp.rf⟩)
              have c40 := cv_ne (a := p0.toInt) (b := 2) rfl (by decide) c40
              refine wp_bd (s_X1_passedYear   o_me o_me_isles o_me_isles_now o_me_machine o_pool  hI_me hI_me_isles hI_me_isles_now hI_me_machine hI_pool  ) (fun z42 hz42 => ?_)
              obtain ⟨hz42_0, hz42_1, hz42_2, hz42_3, hz42_4⟩ := hz42
              have hkpz42_me_isles_now : Kp [] [] [] o_me_isles_now z42.2.1 := Kp.rf.trans (hz42_2.mono (by decide) (by decide) (by decide))
              have hkpz42_me_machine : Kp [] [] [] o_me_machine z42.2.2 := Kp.rf.trans (hz42_4.mono (by decide) (by decide) (by decide))
              refine wp_some ?_
              exact (show IvX1 o_me ∧ Kp [] [] [] o_me o_me ∧ IvX4 z42.2.1 ∧ Kp [] [] [] o_me_isles_now z42.2.1 ∧ IvX3 z42.2.2 ∧ Kp [] [] [] o_me_machine z42.2.2 from ⟨hI_me, Kp.rf, hz42_1, hkpz42_me_isles_now, hz42_3, hkpz42_me_machine⟩)
            · have c37z := c37
              have c37 := cv_ne (a := w36.toInt) (b := 0) rfl (by decide) c37
              exfalso; omega
        · have c32 := cv_ne (a := p0.toInt) (b := 2) rfl (by decide) c32
          unfold bk_X1_moved_N_115
          obtain ⟨w43, ew43⟩ : ∃ z : Int32, z = (0 : Int32) := ⟨_, rfl⟩
          have tw43 : w43.toInt = 0 := by rw [ew43]; decide
          rw [show bk_X1_moved_N_116 o_me_isles o_pool  p0 p1 (0 : Int32) o_me o_me_isles_now o_me_machine = bk_X1_moved_N_116 o_me_isles o_pool  p0 p1 w43 o_me o_me_isles_now o_me_machine from by rw [ew43]]
          unfold bk_X1_moved_N_116
          unfold bk_X1_moved_N_118
          refine wp_if (fun c44 => ?_) (fun c44 => ?_)
          · have c44 := cv_eq (a := w43.toInt) (b := 0) rfl (by decide) c44
            unfold bk_X1_moved_N_142
            refine wp_if (fun c45 => ?_) (fun c45 => ?_)
            · have c45 := cv_eq (a := p0.toInt) (b := 0) rfl (by decide) c45
              exfalso; omega
            have c45 := cv_ne (a := p0.toInt) (b := 0) rfl (by decide) c45
            refine wp_if (fun c46 => ?_) (fun c46 => ?_)
            · have c46 := cv_eq (a := p0.toInt) (b := 1) rfl (by decide) c46
              refine wp_bd (s_X1_changedEntry   o_me o_me_isles o_me_isles_now p1  hI_me hI_me_isles hI_me_isles_now  ⟨by omega, by omega⟩) (fun z47 hz47 => ?_)
              obtain ⟨hz47_0, hz47_1, hz47_2⟩ := hz47
              have hkpz47_me_isles_now : Kp [] [] [] o_me_isles_now z47.2 := Kp.rf.trans (hz47_2.mono (by decide) (by decide) (by decide))
              refine wp_some ?_
              exact (show IvX1 o_me ∧ Kp [] [] [] o_me o_me ∧ IvX4 z47.2 ∧ Kp [] [] [] o_me_isles_now z47.2 ∧ IvX3 o_me_machine ∧ Kp [] [] [] o_me_machine o_me_machine from ⟨hI_me, Kp.rf, hz47_1, hkpz47_me_isles_now, hI_me_machine, Kp.rf⟩)
            have c46 := cv_ne (a := p0.toInt) (b := 1) rfl (by decide) c46
            refine wp_if (fun c48 => ?_) (fun c48 => ?_)
            · have c48 := cv_eq (a := p0.toInt) (b := 2) rfl (by decide) c48
              exfalso; omega
            have c48 := cv_ne (a := p0.toInt) (b := 2) rfl (by decide) c48
            refine wp_bd (s_X1_passedYear   o_me o_me_isles o_me_isles_now o_me_machine o_pool  hI_me hI_me_isles hI_me_isles_now hI_me_machine hI_pool  ) (fun z49 hz49 => ?_)
            obtain ⟨hz49_0, hz49_1, hz49_2, hz49_3, hz49_4⟩ := hz49
            have hkpz49_me_isles_now : Kp [] [] [] o_me_isles_now z49.2.1 := Kp.rf.trans (hz49_2.mono (by decide) (by decide) (by decide))
            have hkpz49_me_machine : Kp [] [] [] o_me_machine z49.2.2 := Kp.rf.trans (hz49_4.mono (by decide) (by decide) (by decide))
            refine wp_some ?_
            exact (show IvX1 o_me ∧ Kp [] [] [] o_me o_me ∧ IvX4 z49.2.1 ∧ Kp [] [] [] o_me_isles_now z49.2.1 ∧ IvX3 z49.2.2 ∧ Kp [] [] [] o_me_machine z49.2.2 from ⟨hI_me, Kp.rf, hz49_1, hkpz49_me_isles_now, hz49_3, hkpz49_me_machine⟩)
          · have c44z := c44
            have c44 := cv_ne (a := w43.toInt) (b := 0) rfl (by decide) c44
            exfalso; omega

set_option maxHeartbeats 4000000 in
set_option maxRecDepth 100000 in
theorem s_X8_centuries (o_me : Ob) (o_me_machine : Ob) (o_me_isles : Ob) (o_me_isles_now : Ob) (o_me_paper : Ob) (o_me_paper_now : Ob) (o_me_paperCourt : Ob) (o_pool : List CR) (p0 : Int32) (p1 : Int32) (hI_me : IvX8 o_me) (hI_me_machine : IvX3 o_me_machine) (hI_me_isles : IvX2 o_pool o_me_isles) (hI_me_isles_now : IvX4 o_me_isles_now) (hI_me_paper : IvX2 o_pool o_me_paper) (hI_me_paper_now : IvX4 o_me_paper_now) (hI_me_paperCourt : IvX1 o_me_paperCourt) (hI_pool : PLok o_pool)  : wp (f_X8_centuries   o_me o_me_machine o_me_isles o_me_isles_now o_me_paper o_me_paper_now o_me_paperCourt o_pool p0 p1) (fun (y : Int32 × Ob × Ob × Ob × Ob × Ob) => IvX8 y.2.1 ∧ Kp [] [] [] o_me y.2.1 ∧ IvX3 y.2.2.1 ∧ Kp [] [] [] o_me_machine y.2.2.1 ∧ IvX2 o_pool y.2.2.2.1 ∧ Kp [] [] [] o_me_paper y.2.2.2.1 ∧ IvX4 y.2.2.2.2.1 ∧ Kp [] [] [] o_me_paper_now y.2.2.2.2.1 ∧ IvX1 y.2.2.2.2.2 ∧ Kp [] [] [] o_me_paperCourt y.2.2.2.2.2) := by
  have li0 : (-1 : Int32).toInt = (-1) := by decide
  have li1 : (-3 : Int32).toInt = (-3) := by decide
  have li2 : (0 : Int32).toInt = 0 := by decide
  have li3 : (1 : Int32).toInt = 1 := by decide
  have li4 : (1000000 : Int32).toInt = 1000000 := by decide
  have li5 : (2 : Int32).toInt = 2 := by decide
  have li6 : (3 : Int32).toInt = 3 := by decide
  have li7 : (4 : Int32).toInt = 4 := by decide
  have li8 : (60 : Int32).toInt = 60 := by decide
  have li9 : (999 : Int32).toInt = 999 := by decide
  unfold f_X8_centuries
  refine wp_if (fun c1 => ?_) (fun c1 => ?_)
  · have c1 := cv_lt (a := p0.toInt) (b := 0) rfl (by decide) c1
    unfold bk_X8_centuries_22
    refine wp_bd (s_X8_refuse   o_me (-1 : Int32)  hI_me  ) (fun z2 hz2 => ?_)
    obtain ⟨hz2_0, hz2_1⟩ := hz2
    have hkpz2_me : Kp [] [] [] o_me z2.2 := Kp.rf.trans (hz2_1.mono (by decide) (by decide) (by decide))
    refine wp_some ?_
    exact (show IvX8 z2.2 ∧ Kp [] [] [] o_me z2.2 ∧ IvX3 o_me_machine ∧ Kp [] [] [] o_me_machine o_me_machine ∧ IvX2 o_pool o_me_paper ∧ Kp [] [] [] o_me_paper o_me_paper ∧ IvX4 o_me_paper_now ∧ Kp [] [] [] o_me_paper_now o_me_paper_now ∧ IvX1 o_me_paperCourt ∧ Kp [] [] [] o_me_paperCourt o_me_paperCourt from ⟨hz2_0, hkpz2_me, hI_me_machine, Kp.rf, hI_me_paper, Kp.rf, hI_me_paper_now, Kp.rf, hI_me_paperCourt, Kp.rf⟩)
  · have c1 := cv_nlt (a := p0.toInt) (b := 0) rfl (by decide) c1
    refine wp_if (fun c3 => ?_) (fun c3 => ?_)
    · have c3 := cv_gt (a := p0.toInt) (b := 1000000) rfl (by decide) c3
      unfold bk_X8_centuries_22
      refine wp_bd (s_X8_refuse   o_me (-1 : Int32)  hI_me  ) (fun z4 hz4 => ?_)
      obtain ⟨hz4_0, hz4_1⟩ := hz4
      have hkpz4_me : Kp [] [] [] o_me z4.2 := Kp.rf.trans (hz4_1.mono (by decide) (by decide) (by decide))
      refine wp_some ?_
      exact (show IvX8 z4.2 ∧ Kp [] [] [] o_me z4.2 ∧ IvX3 o_me_machine ∧ Kp [] [] [] o_me_machine o_me_machine ∧ IvX2 o_pool o_me_paper ∧ Kp [] [] [] o_me_paper o_me_paper ∧ IvX4 o_me_paper_now ∧ Kp [] [] [] o_me_paper_now o_me_paper_now ∧ IvX1 o_me_paperCourt ∧ Kp [] [] [] o_me_paperCourt o_me_paperCourt from ⟨hz4_0, hkpz4_me, hI_me_machine, Kp.rf, hI_me_paper, Kp.rf, hI_me_paper_now, Kp.rf, hI_me_paperCourt, Kp.rf⟩)
    · have c3 := cv_ngt (a := p0.toInt) (b := 1000000) rfl (by decide) c3
      refine wp_if (fun c5 => ?_) (fun c5 => ?_)
      · have c5 := cv_lt (a := p1.toInt) (b := 1) rfl (by decide) c5
        unfold bk_X8_centuries_22
        refine wp_bd (s_X8_refuse   o_me (-1 : Int32)  hI_me  ) (fun z6 hz6 => ?_)
        obtain ⟨hz6_0, hz6_1⟩ := hz6
        have hkpz6_me : Kp [] [] [] o_me z6.2 := Kp.rf.trans (hz6_1.mono (by decide) (by decide) (by decide))
        refine wp_some ?_
        exact (show IvX8 z6.2 ∧ Kp [] [] [] o_me z6.2 ∧ IvX3 o_me_machine ∧ Kp [] [] [] o_me_machine o_me_machine ∧ IvX2 o_pool o_me_paper ∧ Kp [] [] [] o_me_paper o_me_paper ∧ IvX4 o_me_paper_now ∧ Kp [] [] [] o_me_paper_now o_me_paper_now ∧ IvX1 o_me_paperCourt ∧ Kp [] [] [] o_me_paperCourt o_me_paperCourt from ⟨hz6_0, hkpz6_me, hI_me_machine, Kp.rf, hI_me_paper, Kp.rf, hI_me_paper_now, Kp.rf, hI_me_paperCourt, Kp.rf⟩)
      · have c5 := cv_nlt (a := p1.toInt) (b := 1) rfl (by decide) c5
        refine wp_if (fun c7 => ?_) (fun c7 => ?_)
        · have c7 := cv_le (a := p1.toInt) (b := 60) rfl (by decide) c7
          have t8 := igX2_7 hI_me_isles
          refine wp_if (fun c9 => ?_) (fun c9 => ?_)
          · have c9 := cv_eq (a := (gI o_me_isles 7).toInt) (b := 0) rfl (by decide) c9
            refine wp_bd (s_X8_refuse   o_me (-3 : Int32)  hI_me  ) (fun z10 hz10 => ?_)
            obtain ⟨hz10_0, hz10_1⟩ := hz10
            have hkpz10_me : Kp [] [] [] o_me z10.2 := Kp.rf.trans (hz10_1.mono (by decide) (by decide) (by decide))
            refine wp_some ?_
            exact (show IvX8 z10.2 ∧ Kp [] [] [] o_me z10.2 ∧ IvX3 o_me_machine ∧ Kp [] [] [] o_me_machine o_me_machine ∧ IvX2 o_pool o_me_paper ∧ Kp [] [] [] o_me_paper o_me_paper ∧ IvX4 o_me_paper_now ∧ Kp [] [] [] o_me_paper_now o_me_paper_now ∧ IvX1 o_me_paperCourt ∧ Kp [] [] [] o_me_paperCourt o_me_paperCourt from ⟨hz10_0, hkpz10_me, hI_me_machine, Kp.rf, hI_me_paper, Kp.rf, hI_me_paper_now, Kp.rf, hI_me_paperCourt, Kp.rf⟩)
          · have c9z := c9
            have c9 := cv_ne (a := (gI o_me_isles 7).toInt) (b := 0) rfl (by decide) c9
            refine wp_bd (s_X2_set_O   o_me_paper o_me_paper_now o_pool o_me_isles o_me_isles_now  hI_me_paper hI_me_paper_now hI_pool hI_me_isles hI_me_isles_now  ) (fun z11 hz11 => ?_)
            obtain ⟨hz11_0, hz11_1, hz11_2, hz11_3⟩ := hz11
            have hkpz11_me_paper : Kp [] [] [] o_me_paper z11.1 := Kp.rf.trans (hz11_1.mono (by decide) (by decide) (by decide))
            have hkpz11_me_paper_now : Kp [] [] [] o_me_paper_now z11.2 := Kp.rf.trans (hz11_3.mono (by decide) (by decide) (by decide))
            have lp1 : ∀ (N1 : Nat) (v2_1 : Int32) (v3_1 : Int32) (v4_1 : Int32) (v5_1 : Int32) (o_me_1 : Ob) (o_me_machine_1 : Ob) (o_me_paper_1 : Ob) (o_me_paper_now_1 : Ob) (o_me_paperCourt_1 : Ob), IvX8 o_me_1 → Kp [] [] [] o_me o_me_1 → IvX3 o_me_machine_1 → Kp [] [] [] o_me_machine o_me_machine_1 → IvX2 o_pool o_me_paper_1 → Kp [] [] [] o_me_paper o_me_paper_1 → IvX4 o_me_paper_now_1 → Kp [] [] [] o_me_paper_now o_me_paper_now_1 → IvX1 o_me_paperCourt_1 → Kp [] [] [] o_me_paperCourt o_me_paperCourt_1 → (1 ≤ v2_1.toInt ∧ v2_1.toInt ≤ 60) → (0 ≤ v4_1.toInt ∧ v4_1.toInt ≤ 60) → (0 ≤ v5_1.toInt ∧ v5_1.toInt ≤ 60) → (v4_1.toInt ≤ v2_1.toInt + 0) → (v4_1.toInt ≤ v5_1.toInt + 0) → (v5_1.toInt ≤ v2_1.toInt + 0) → (v2_1.toInt ≤ p1.toInt + 0) → (p1.toInt ≤ v2_1.toInt + 0) → (v4_1.toInt ≤ p1.toInt + 0) → (v5_1.toInt ≤ p1.toInt + 0) → (60 - v5_1.toInt).toNat < N1 → wp (lp_X8_centuries_64 o_me_isles o_me_isles_now o_pool  N1 (v2_1, v3_1, v4_1, v5_1, o_me_1, o_me_machine_1, o_me_paper_1, o_me_paper_now_1, o_me_paperCourt_1)) (fun (y : Int32 × Ob × Ob × Ob × Ob × Ob) => IvX8 y.2.1 ∧ Kp [] [] [] o_me y.2.1 ∧ IvX3 y.2.2.1 ∧ Kp [] [] [] o_me_machine y.2.2.1 ∧ IvX2 o_pool y.2.2.2.1 ∧ Kp [] [] [] o_me_paper y.2.2.2.1 ∧ IvX4 y.2.2.2.2.1 ∧ Kp [] [] [] o_me_paper_now y.2.2.2.2.1 ∧ IvX1 y.2.2.2.2.2 ∧ Kp [] [] [] o_me_paperCourt y.2.2.2.2.2) := by
              intro N1
              induction N1 with
              | zero =>
                intro v2_1 v3_1 v4_1 v5_1 o_me_1 o_me_machine_1 o_me_paper_1 o_me_paper_now_1 o_me_paperCourt_1 hI_me_1 hkp_me_1 hI_me_machine_1 hkp_me_machine_1 hI_me_paper_1 hkp_me_paper_1 hI_me_paper_now_1 hkp_me_paper_now_1 hI_me_paperCourt_1 hkp_me_paperCourt_1 hh12 hh13 hh14 hh15 hh16 hh17 hh18 hh19 hh20 hh21 hN1
                exact absurd hN1 (Nat.not_lt_zero _)
              | succ N1 ihx =>
                have ih1 := ihx
                intro v2_1 v3_1 v4_1 v5_1 o_me_1 o_me_machine_1 o_me_paper_1 o_me_paper_now_1 o_me_paperCourt_1 hI_me_1 hkp_me_1 hI_me_machine_1 hkp_me_machine_1 hI_me_paper_1 hkp_me_paper_1 hI_me_paper_now_1 hkp_me_paper_now_1 hI_me_paperCourt_1 hkp_me_paperCourt_1 hh12 hh13 hh14 hh15 hh16 hh17 hh18 hh19 hh20 hh21 hN1
                show wp (lb_X8_centuries_64 o_me_isles o_me_isles_now o_pool  (lp_X8_centuries_64 o_me_isles o_me_isles_now o_pool  N1) v2_1 v3_1 v4_1 v5_1 o_me_1 o_me_machine_1 o_me_paper_1 o_me_paper_now_1 o_me_paperCourt_1) (fun (y : Int32 × Ob × Ob × Ob × Ob × Ob) => IvX8 y.2.1 ∧ Kp [] [] [] o_me y.2.1 ∧ IvX3 y.2.2.1 ∧ Kp [] [] [] o_me_machine y.2.2.1 ∧ IvX2 o_pool y.2.2.2.1 ∧ Kp [] [] [] o_me_paper y.2.2.2.1 ∧ IvX4 y.2.2.2.2.1 ∧ Kp [] [] [] o_me_paper_now y.2.2.2.2.1 ∧ IvX1 y.2.2.2.2.2 ∧ Kp [] [] [] o_me_paperCourt y.2.2.2.2.2)
                unfold lb_X8_centuries_64
                refine wp_if (fun c22 => ?_) (fun c22 => ?_)
                · have c22 := cv_ge (a := v5_1.toInt) (b := v2_1.toInt) rfl rfl c22
                  unfold bk_X8_centuries_194
                  refine wp_bd (s_X8_grant   o_me_1 v4_1  hI_me_1  ) (fun z23 hz23 => ?_)
                  obtain ⟨hz23_0, hz23_1⟩ := hz23
                  have hkpz23_me : Kp [] [] [] o_me z23.2 := hkp_me_1.trans (hz23_1.mono (by decide) (by decide) (by decide))
                  refine wp_some ?_
                  exact (show IvX8 z23.2 ∧ Kp [] [] [] o_me z23.2 ∧ IvX3 o_me_machine_1 ∧ Kp [] [] [] o_me_machine o_me_machine_1 ∧ IvX2 o_pool o_me_paper_1 ∧ Kp [] [] [] o_me_paper o_me_paper_1 ∧ IvX4 o_me_paper_now_1 ∧ Kp [] [] [] o_me_paper_now o_me_paper_now_1 ∧ IvX1 o_me_paperCourt_1 ∧ Kp [] [] [] o_me_paperCourt o_me_paperCourt_1 from ⟨hz23_0, hkpz23_me, hI_me_machine_1, hkp_me_machine_1, hI_me_paper_1, hkp_me_paper_1, hI_me_paper_now_1, hkp_me_paper_now_1, hI_me_paperCourt_1, hkp_me_paperCourt_1⟩)
                · have c22 := cv_nge (a := v5_1.toInt) (b := v2_1.toInt) rfl rfl c22
                  refine wp_if (fun c24 => ?_) (fun c24 => ?_)
                  · have c24 := cv_ge (a := (gI o_me_paper_now_1 4).toInt) (b := 999) rfl (by decide) c24
                    unfold bk_X8_centuries_194
                    refine wp_bd (s_X8_grant   o_me_1 v4_1  hI_me_1  ) (fun z25 hz25 => ?_)
                    obtain ⟨hz25_0, hz25_1⟩ := hz25
                    have hkpz25_me : Kp [] [] [] o_me z25.2 := hkp_me_1.trans (hz25_1.mono (by decide) (by decide) (by decide))
                    refine wp_some ?_
                    exact (show IvX8 z25.2 ∧ Kp [] [] [] o_me z25.2 ∧ IvX3 o_me_machine_1 ∧ Kp [] [] [] o_me_machine o_me_machine_1 ∧ IvX2 o_pool o_me_paper_1 ∧ Kp [] [] [] o_me_paper o_me_paper_1 ∧ IvX4 o_me_paper_now_1 ∧ Kp [] [] [] o_me_paper_now o_me_paper_now_1 ∧ IvX1 o_me_paperCourt_1 ∧ Kp [] [] [] o_me_paperCourt o_me_paperCourt_1 from ⟨hz25_0, hkpz25_me, hI_me_machine_1, hkp_me_machine_1, hI_me_paper_1, hkp_me_paper_1, hI_me_paper_now_1, hkp_me_paper_now_1, hI_me_paperCourt_1, hkp_me_paperCourt_1⟩)
                  · have c24 := cv_nge (a := (gI o_me_paper_now_1 4).toInt) (b := 999) rfl (by decide) c24
                    refine wp_bd (s_X8_nextDraw   v3_1    ) (fun z26 hz26 => ?_)
                    refine wp_bd (s_X8_nextDraw   z26    ) (fun z27 hz27 => ?_)
                    refine wp_bd (s_X8_nextDraw   z27    ) (fun z28 hz28 => ?_)
                    refine wp_if (fun c29 => ?_) (fun c29 => ?_)
                    · have c29 := cv_ge (a := (z28 - z28 / (4 : Int32) * (4 : Int32)).toInt) (b := 2) rfl (by decide) c29
                      refine wp_if (fun c30 => ?_) (fun c30 => ?_)
                      · have c30 := cv_eq (a := (z28 - z28 / (4 : Int32) * (4 : Int32)).toInt) (b := 2) rfl (by decide) c30
                        obtain ⟨w31, ew31⟩ : ∃ z : Int32, z = (0 : Int32) := ⟨_, rfl⟩
                        have tw31 : w31.toInt = 0 := by rw [ew31]; decide
                        rw [show bk_X8_centuries_128 o_me_isles o_me_isles_now o_pool (lp_X8_centuries_64 o_me_isles o_me_isles_now o_pool  N1) v2_1 z28 v4_1 v5_1 z26 z27 (0 : Int32) o_me_1 o_me_machine_1 o_me_paper_1 o_me_paper_now_1 o_me_paperCourt_1 = bk_X8_centuries_128 o_me_isles o_me_isles_now o_pool (lp_X8_centuries_64 o_me_isles o_me_isles_now o_pool  N1) v2_1 z28 v4_1 v5_1 z26 z27 w31 o_me_1 o_me_machine_1 o_me_paper_1 o_me_paper_now_1 o_me_paperCourt_1 from by rw [ew31]]
                        unfold bk_X8_centuries_128
                        refine wp_if (fun c32 => ?_) (fun c32 => ?_)
                        · have c32 := cv_eq (a := w31.toInt) (b := 0) rfl (by decide) c32
                          obtain ⟨w33, ew33⟩ : ∃ z : Int32, z = z27 - z27 / (4 : Int32) * (4 : Int32) := ⟨_, rfl⟩
                          have tw33 : w33.toInt = (z27 - z27 / (4 : Int32) * (4 : Int32)).toInt := by rw [ew33]
                          rw [show bk_X8_centuries_158 o_me_isles o_me_isles_now o_pool (lp_X8_centuries_64 o_me_isles o_me_isles_now o_pool  N1) v2_1 z28 v4_1 v5_1 w31 (z27 - z27 / (4 : Int32) * (4 : Int32)) w31 o_me_1 o_me_machine_1 o_me_paper_1 o_me_paper_now_1 o_me_paperCourt_1 = bk_X8_centuries_158 o_me_isles o_me_isles_now o_pool (lp_X8_centuries_64 o_me_isles o_me_isles_now o_pool  N1) v2_1 z28 v4_1 v5_1 w31 w33 w31 o_me_1 o_me_machine_1 o_me_paper_1 o_me_paper_now_1 o_me_paperCourt_1 from by rw [ew33]]
                          unfold bk_X8_centuries_158
                          refine wp_bd (s_X1_moved_N   o_me_paperCourt_1 o_me_paper_1 o_me_paper_now_1 o_me_machine_1 o_pool w31 w33  hI_me_paperCourt_1 hI_me_paper_1 hI_me_paper_now_1 hI_me_machine_1 hI_pool  ) (fun z34 hz34 => ?_)
                          obtain ⟨hz34_0, hz34_1, hz34_2, hz34_3, hz34_4, hz34_5⟩ := hz34
                          have hkpz34_me_paperCourt : Kp [] [] [] o_me_paperCourt z34.2.1 := hkp_me_paperCourt_1.trans (hz34_1.mono (by decide) (by decide) (by decide))
                          have hkpz34_me_paper_now : Kp [] [] [] o_me_paper_now z34.2.2.1 := hkp_me_paper_now_1.trans (hz34_3.mono (by decide) (by decide) (by decide))
                          have hkpz34_me_machine : Kp [] [] [] o_me_machine z34.2.2.2 := hkp_me_machine_1.trans (hz34_5.mono (by decide) (by decide) (by decide))
                          refine wp_if (fun c35 => ?_) (fun c35 => ?_)
                          · have c35 := cv_eq (a := w31.toInt) (b := 0) rfl (by decide) c35
                            refine wp_if (fun c36 => ?_) (fun c36 => ?_)
                            · have c36 := cv_lt (a := z34.1.toInt) (b := 0) rfl (by decide) c36
                              unfold bk_X8_centuries_177
                              refine wp_bd (s_X1_moved_N   z34.2.1 o_me_paper_1 z34.2.2.1 z34.2.2.2 o_pool (3 : Int32) (0 : Int32)  hz34_0 hI_me_paper_1 hz34_2 hz34_4 hI_pool  ) (fun z37 hz37 => ?_)
                              obtain ⟨hz37_0, hz37_1, hz37_2, hz37_3, hz37_4, hz37_5⟩ := hz37
                              have hkpz37_me_paperCourt : Kp [] [] [] o_me_paperCourt z37.2.1 := hkpz34_me_paperCourt.trans (hz37_1.mono (by decide) (by decide) (by decide))
                              have hkpz37_me_paper_now : Kp [] [] [] o_me_paper_now z37.2.2.1 := hkpz34_me_paper_now.trans (hz37_3.mono (by decide) (by decide) (by decide))
                              have hkpz37_me_machine : Kp [] [] [] o_me_machine z37.2.2.2 := hkpz34_me_machine.trans (hz37_5.mono (by decide) (by decide) (by decide))
                              refine wp_lt (fun x38 ex38 => ?_)
                              have tx38 : x38.toInt = v5_1.toInt + 1 := by rw [ex38]; exact i32_add rfl (by decide) (by omega) (by omega)
                              exact ih1 v2_1 z28 v4_1 x38 o_me_1 z37.2.2.2 o_me_paper_1 z37.2.2.1 z37.2.1 hI_me_1 hkp_me_1 hz37_4 hkpz37_me_machine hI_me_paper_1 hkp_me_paper_1 hz37_2 hkpz37_me_paper_now hz37_0 hkpz37_me_paperCourt ⟨by omega, by omega⟩ ⟨by omega, by omega⟩ ⟨by omega, by omega⟩ (by omega) (by omega) (by omega) (by omega) (by omega) (by omega) (by omega) (by omega)
                            · have c36 := cv_nlt (a := z34.1.toInt) (b := 0) rfl (by decide) c36
                              refine wp_lt (fun x39 ex39 => ?_)
                              have tx39 : x39.toInt = v4_1.toInt + 1 := by rw [ex39]; exact i32_add rfl (by decide) (by omega) (by omega)
                              unfold bk_X8_centuries_177
                              refine wp_bd (s_X1_moved_N   z34.2.1 o_me_paper_1 z34.2.2.1 z34.2.2.2 o_pool (3 : Int32) (0 : Int32)  hz34_0 hI_me_paper_1 hz34_2 hz34_4 hI_pool  ) (fun z40 hz40 => ?_)
                              obtain ⟨hz40_0, hz40_1, hz40_2, hz40_3, hz40_4, hz40_5⟩ := hz40
                              have hkpz40_me_paperCourt : Kp [] [] [] o_me_paperCourt z40.2.1 := hkpz34_me_paperCourt.trans (hz40_1.mono (by decide) (by decide) (by decide))
                              have hkpz40_me_paper_now : Kp [] [] [] o_me_paper_now z40.2.2.1 := hkpz34_me_paper_now.trans (hz40_3.mono (by decide) (by decide) (by decide))
                              have hkpz40_me_machine : Kp [] [] [] o_me_machine z40.2.2.2 := hkpz34_me_machine.trans (hz40_5.mono (by decide) (by decide) (by decide))
                              refine wp_lt (fun x41 ex41 => ?_)
                              have tx41 : x41.toInt = v5_1.toInt + 1 := by rw [ex41]; exact i32_add rfl (by decide) (by omega) (by omega)
                              exact ih1 v2_1 z28 x39 x41 o_me_1 z40.2.2.2 o_me_paper_1 z40.2.2.1 z40.2.1 hI_me_1 hkp_me_1 hz40_4 hkpz40_me_machine hI_me_paper_1 hkp_me_paper_1 hz40_2 hkpz40_me_paper_now hz40_0 hkpz40_me_paperCourt ⟨by omega, by omega⟩ ⟨by omega, by omega⟩ ⟨by omega, by omega⟩ (by omega) (by omega) (by omega) (by omega) (by omega) (by omega) (by omega) (by omega)
                          · have c35z := c35
                            have c35 := cv_ne (a := w31.toInt) (b := 0) rfl (by decide) c35
                            exfalso; omega
                        · have c32z := c32
                          have c32 := cv_ne (a := w31.toInt) (b := 0) rfl (by decide) c32
                          exfalso; omega
                      · have c30 := cv_ne (a := (z28 - z28 / (4 : Int32) * (4 : Int32)).toInt) (b := 2) rfl (by decide) c30
                        obtain ⟨w42, ew42⟩ : ∃ z : Int32, z = (2 : Int32) := ⟨_, rfl⟩
                        have tw42 : w42.toInt = 2 := by rw [ew42]; decide
                        rw [show bk_X8_centuries_128 o_me_isles o_me_isles_now o_pool (lp_X8_centuries_64 o_me_isles o_me_isles_now o_pool  N1) v2_1 z28 v4_1 v5_1 z26 z27 (2 : Int32) o_me_1 o_me_machine_1 o_me_paper_1 o_me_paper_now_1 o_me_paperCourt_1 = bk_X8_centuries_128 o_me_isles o_me_isles_now o_pool (lp_X8_centuries_64 o_me_isles o_me_isles_now o_pool  N1) v2_1 z28 v4_1 v5_1 z26 z27 w42 o_me_1 o_me_machine_1 o_me_paper_1 o_me_paper_now_1 o_me_paperCourt_1 from by rw [ew42]]
                        unfold bk_X8_centuries_128
                        refine wp_if (fun c43 => ?_) (fun c43 => ?_)
                        · have c43 := cv_eq (a := w42.toInt) (b := 0) rfl (by decide) c43
                          exfalso; omega
                        · have c43z := c43
                          have c43 := cv_ne (a := w42.toInt) (b := 0) rfl (by decide) c43
                          refine wp_gd (decide_eq_true (fun e9 => by have e8 := congrArg Int32.toInt e9; have e7 : (0 : Int32).toInt = 0 := (by decide); omega)) ?_
                          obtain ⟨w44, ew44⟩ : ∃ z : Int32, z = z26 - z26 / (gI o_me_isles 7) * (gI o_me_isles 7) := ⟨_, rfl⟩
                          have tw44 : w44.toInt = (z26 - z26 / (gI o_me_isles 7) * (gI o_me_isles 7)).toInt := by rw [ew44]
                          rw [show bk_X8_centuries_158 o_me_isles o_me_isles_now o_pool (lp_X8_centuries_64 o_me_isles o_me_isles_now o_pool  N1) v2_1 z28 v4_1 v5_1 w42 (z26 - z26 / (gI o_me_isles 7) * (gI o_me_isles 7)) w42 o_me_1 o_me_machine_1 o_me_paper_1 o_me_paper_now_1 o_me_paperCourt_1 = bk_X8_centuries_158 o_me_isles o_me_isles_now o_pool (lp_X8_centuries_64 o_me_isles o_me_isles_now o_pool  N1) v2_1 z28 v4_1 v5_1 w42 w44 w42 o_me_1 o_me_machine_1 o_me_paper_1 o_me_paper_now_1 o_me_paperCourt_1 from by rw [ew44]]
                          unfold bk_X8_centuries_158
                          refine wp_bd (s_X1_moved_N   o_me_paperCourt_1 o_me_paper_1 o_me_paper_now_1 o_me_machine_1 o_pool w42 w44  hI_me_paperCourt_1 hI_me_paper_1 hI_me_paper_now_1 hI_me_machine_1 hI_pool  ) (fun z45 hz45 => ?_)
                          obtain ⟨hz45_0, hz45_1, hz45_2, hz45_3, hz45_4, hz45_5⟩ := hz45
                          have hkpz45_me_paperCourt : Kp [] [] [] o_me_paperCourt z45.2.1 := hkp_me_paperCourt_1.trans (hz45_1.mono (by decide) (by decide) (by decide))
                          have hkpz45_me_paper_now : Kp [] [] [] o_me_paper_now z45.2.2.1 := hkp_me_paper_now_1.trans (hz45_3.mono (by decide) (by decide) (by decide))
                          have hkpz45_me_machine : Kp [] [] [] o_me_machine z45.2.2.2 := hkp_me_machine_1.trans (hz45_5.mono (by decide) (by decide) (by decide))
                          refine wp_if (fun c46 => ?_) (fun c46 => ?_)
                          · have c46 := cv_eq (a := w42.toInt) (b := 0) rfl (by decide) c46
                            exfalso; omega
                          · have c46z := c46
                            have c46 := cv_ne (a := w42.toInt) (b := 0) rfl (by decide) c46
                            unfold bk_X8_centuries_177
                            refine wp_bd (s_X1_moved_N   z45.2.1 o_me_paper_1 z45.2.2.1 z45.2.2.2 o_pool (3 : Int32) (0 : Int32)  hz45_0 hI_me_paper_1 hz45_2 hz45_4 hI_pool  ) (fun z47 hz47 => ?_)
                            obtain ⟨hz47_0, hz47_1, hz47_2, hz47_3, hz47_4, hz47_5⟩ := hz47
                            have hkpz47_me_paperCourt : Kp [] [] [] o_me_paperCourt z47.2.1 := hkpz45_me_paperCourt.trans (hz47_1.mono (by decide) (by decide) (by decide))
                            have hkpz47_me_paper_now : Kp [] [] [] o_me_paper_now z47.2.2.1 := hkpz45_me_paper_now.trans (hz47_3.mono (by decide) (by decide) (by decide))
                            have hkpz47_me_machine : Kp [] [] [] o_me_machine z47.2.2.2 := hkpz45_me_machine.trans (hz47_5.mono (by decide) (by decide) (by decide))
                            refine wp_lt (fun x48 ex48 => ?_)
                            have tx48 : x48.toInt = v5_1.toInt + 1 := by rw [ex48]; exact i32_add rfl (by decide) (by omega) (by omega)
                            exact ih1 v2_1 z28 v4_1 x48 o_me_1 z47.2.2.2 o_me_paper_1 z47.2.2.1 z47.2.1 hI_me_1 hkp_me_1 hz47_4 hkpz47_me_machine hI_me_paper_1 hkp_me_paper_1 hz47_2 hkpz47_me_paper_now hz47_0 hkpz47_me_paperCourt ⟨by omega, by omega⟩ ⟨by omega, by omega⟩ ⟨by omega, by omega⟩ (by omega) (by omega) (by omega) (by omega) (by omega) (by omega) (by omega) (by omega)
                    · have c29 := cv_nge (a := (z28 - z28 / (4 : Int32) * (4 : Int32)).toInt) (b := 2) rfl (by decide) c29
                      obtain ⟨w49, ew49⟩ : ∃ z : Int32, z = (1 : Int32) := ⟨_, rfl⟩
                      have tw49 : w49.toInt = 1 := by rw [ew49]; decide
                      rw [show bk_X8_centuries_128 o_me_isles o_me_isles_now o_pool (lp_X8_centuries_64 o_me_isles o_me_isles_now o_pool  N1) v2_1 z28 v4_1 v5_1 z26 z27 (1 : Int32) o_me_1 o_me_machine_1 o_me_paper_1 o_me_paper_now_1 o_me_paperCourt_1 = bk_X8_centuries_128 o_me_isles o_me_isles_now o_pool (lp_X8_centuries_64 o_me_isles o_me_isles_now o_pool  N1) v2_1 z28 v4_1 v5_1 z26 z27 w49 o_me_1 o_me_machine_1 o_me_paper_1 o_me_paper_now_1 o_me_paperCourt_1 from by rw [ew49]]
                      unfold bk_X8_centuries_128
                      refine wp_if (fun c50 => ?_) (fun c50 => ?_)
                      · have c50 := cv_eq (a := w49.toInt) (b := 0) rfl (by decide) c50
                        exfalso; omega
                      · have c50z := c50
                        have c50 := cv_ne (a := w49.toInt) (b := 0) rfl (by decide) c50
                        refine wp_gd (decide_eq_true (fun e9 => by have e8 := congrArg Int32.toInt e9; have e7 : (0 : Int32).toInt = 0 := (by decide); omega)) ?_
                        obtain ⟨w51, ew51⟩ : ∃ z : Int32, z = z26 - z26 / (gI o_me_isles 7) * (gI o_me_isles 7) := ⟨_, rfl⟩
                        have tw51 : w51.toInt = (z26 - z26 / (gI o_me_isles 7) * (gI o_me_isles 7)).toInt := by rw [ew51]
                        rw [show bk_X8_centuries_158 o_me_isles o_me_isles_now o_pool (lp_X8_centuries_64 o_me_isles o_me_isles_now o_pool  N1) v2_1 z28 v4_1 v5_1 w49 (z26 - z26 / (gI o_me_isles 7) * (gI o_me_isles 7)) w49 o_me_1 o_me_machine_1 o_me_paper_1 o_me_paper_now_1 o_me_paperCourt_1 = bk_X8_centuries_158 o_me_isles o_me_isles_now o_pool (lp_X8_centuries_64 o_me_isles o_me_isles_now o_pool  N1) v2_1 z28 v4_1 v5_1 w49 w51 w49 o_me_1 o_me_machine_1 o_me_paper_1 o_me_paper_now_1 o_me_paperCourt_1 from by rw [ew51]]
                        unfold bk_X8_centuries_158
                        refine wp_bd (s_X1_moved_N   o_me_paperCourt_1 o_me_paper_1 o_me_paper_now_1 o_me_machine_1 o_pool w49 w51  hI_me_paperCourt_1 hI_me_paper_1 hI_me_paper_now_1 hI_me_machine_1 hI_pool  ) (fun z52 hz52 => ?_)
                        obtain ⟨hz52_0, hz52_1, hz52_2, hz52_3, hz52_4, hz52_5⟩ := hz52
                        have hkpz52_me_paperCourt : Kp [] [] [] o_me_paperCourt z52.2.1 := hkp_me_paperCourt_1.trans (hz52_1.mono (by decide) (by decide) (by decide))
                        have hkpz52_me_paper_now : Kp [] [] [] o_me_paper_now z52.2.2.1 := hkp_me_paper_now_1.trans (hz52_3.mono (by decide) (by decide) (by decide))
                        have hkpz52_me_machine : Kp [] [] [] o_me_machine z52.2.2.2 := hkp_me_machine_1.trans (hz52_5.mono (by decide) (by decide) (by decide))
                        refine wp_if (fun c53 => ?_) (fun c53 => ?_)
                        · have c53 := cv_eq (a := w49.toInt) (b := 0) rfl (by decide) c53
                          exfalso; omega
                        · have c53z := c53
                          have c53 := cv_ne (a := w49.toInt) (b := 0) rfl (by decide) c53
                          unfold bk_X8_centuries_177
                          refine wp_bd (s_X1_moved_N   z52.2.1 o_me_paper_1 z52.2.2.1 z52.2.2.2 o_pool (3 : Int32) (0 : Int32)  hz52_0 hI_me_paper_1 hz52_2 hz52_4 hI_pool  ) (fun z54 hz54 => ?_)
                          obtain ⟨hz54_0, hz54_1, hz54_2, hz54_3, hz54_4, hz54_5⟩ := hz54
                          have hkpz54_me_paperCourt : Kp [] [] [] o_me_paperCourt z54.2.1 := hkpz52_me_paperCourt.trans (hz54_1.mono (by decide) (by decide) (by decide))
                          have hkpz54_me_paper_now : Kp [] [] [] o_me_paper_now z54.2.2.1 := hkpz52_me_paper_now.trans (hz54_3.mono (by decide) (by decide) (by decide))
                          have hkpz54_me_machine : Kp [] [] [] o_me_machine z54.2.2.2 := hkpz52_me_machine.trans (hz54_5.mono (by decide) (by decide) (by decide))
                          refine wp_lt (fun x55 ex55 => ?_)
                          have tx55 : x55.toInt = v5_1.toInt + 1 := by rw [ex55]; exact i32_add rfl (by decide) (by omega) (by omega)
                          exact ih1 v2_1 z28 v4_1 x55 o_me_1 z54.2.2.2 o_me_paper_1 z54.2.2.1 z54.2.1 hI_me_1 hkp_me_1 hz54_4 hkpz54_me_machine hI_me_paper_1 hkp_me_paper_1 hz54_2 hkpz54_me_paper_now hz54_0 hkpz54_me_paperCourt ⟨by omega, by omega⟩ ⟨by omega, by omega⟩ ⟨by omega, by omega⟩ (by omega) (by omega) (by omega) (by omega) (by omega) (by omega) (by omega) (by omega)
            exact lp1 zfu p1 p0 (0 : Int32) (0 : Int32) o_me o_me_machine z11.1 z11.2 o_me_paperCourt hI_me Kp.rf hI_me_machine Kp.rf hz11_0 hkpz11_me_paper hz11_2 hkpz11_me_paper_now hI_me_paperCourt Kp.rf ⟨by omega, by omega⟩ ⟨by decide, by decide⟩ ⟨by decide, by decide⟩ (by omega) (by omega) (by omega) (by omega) (by omega) (by omega) (by omega) (by show _ < 100000; omega)
        · have c7 := cv_nle (a := p1.toInt) (b := 60) rfl (by decide) c7
          unfold bk_X8_centuries_22
          refine wp_bd (s_X8_refuse   o_me (-1 : Int32)  hI_me  ) (fun z56 hz56 => ?_)
          obtain ⟨hz56_0, hz56_1⟩ := hz56
          have hkpz56_me : Kp [] [] [] o_me z56.2 := Kp.rf.trans (hz56_1.mono (by decide) (by decide) (by decide))
          refine wp_some ?_
          exact (show IvX8 z56.2 ∧ Kp [] [] [] o_me z56.2 ∧ IvX3 o_me_machine ∧ Kp [] [] [] o_me_machine o_me_machine ∧ IvX2 o_pool o_me_paper ∧ Kp [] [] [] o_me_paper o_me_paper ∧ IvX4 o_me_paper_now ∧ Kp [] [] [] o_me_paper_now o_me_paper_now ∧ IvX1 o_me_paperCourt ∧ Kp [] [] [] o_me_paperCourt o_me_paperCourt from ⟨hz56_0, hkpz56_me, hI_me_machine, Kp.rf, hI_me_paper, Kp.rf, hI_me_paper_now, Kp.rf, hI_me_paperCourt, Kp.rf⟩)

set_option maxHeartbeats 4000000 in
set_option maxRecDepth 100000 in
theorem s_X7_isCircle {pl : List CR} (o_me : Ob) (o_me_court_isles : Ob) (p0 : Int32) (p1 : Int32) (p2 : Int32) (hI_me : IvX7 o_me) (hI_me_court_isles : IvX2 pl o_me_court_isles) (q0 : 0 ≤ p0.toInt ∧ p0.toInt ≤ 6) (q1 : 0 ≤ p1.toInt ∧ p1.toInt ≤ 6) (q2 : 0 ≤ p2.toInt ∧ p2.toInt ≤ 6) : wp (f_X7_isCircle   o_me o_me_court_isles p0 p1 p2) (fun (y : Int32) => (0 ≤ y.toInt ∧ y.toInt ≤ 1)) := by
  have li0 : (0 : Int32).toInt = 0 := by decide
  have li1 : (1 : Int32).toInt = 1 := by decide
  unfold f_X7_isCircle
  refine wp_gd (zin_of (m := 7) rfl (by omega) (by omega)) ?_
  refine wp_gd (zin_of (m := 7) rfl (by omega) (by omega)) ?_
  refine wp_gd (zin_of (m := 7) rfl (by omega) (by omega)) ?_
  have t1 := i32_and (x := (((gA o_me_court_isles 3 p0.toNatClampNeg) >>> (p1 &&& 31)) &&& ((gA o_me_court_isles 3 p1.toNatClampNeg) >>> (p2 &&& 31))) &&& ((gA o_me_court_isles 3 p2.toNatClampNeg) >>> (p0 &&& 31))) (y := (1 : Int32)) (m := 1) ⟨by decide, by decide⟩
  refine wp_if (fun c2 => ?_) (fun c2 => ?_)
  · have c2 := cv_eq (a := (((((gA o_me_court_isles 3 p0.toNatClampNeg) >>> (p1 &&& 31)) &&& ((gA o_me_court_isles 3 p1.toNatClampNeg) >>> (p2 &&& 31))) &&& ((gA o_me_court_isles 3 p2.toNatClampNeg) >>> (p0 &&& 31))) &&& (1 : Int32)).toInt) (b := 1) rfl (by decide) c2
    refine wp_some ?_
    exact (show (0 ≤ (1 : Int32).toInt ∧ (1 : Int32).toInt ≤ 1) from ⟨by decide, by decide⟩)
  · have c2 := cv_ne (a := (((((gA o_me_court_isles 3 p0.toNatClampNeg) >>> (p1 &&& 31)) &&& ((gA o_me_court_isles 3 p1.toNatClampNeg) >>> (p2 &&& 31))) &&& ((gA o_me_court_isles 3 p2.toNatClampNeg) >>> (p0 &&& 31))) &&& (1 : Int32)).toInt) (b := 1) rfl (by decide) c2
    refine wp_some ?_
    exact (show (0 ≤ (0 : Int32).toInt ∧ (0 : Int32).toInt ≤ 1) from ⟨by decide, by decide⟩)

set_option maxHeartbeats 4000000 in
set_option maxRecDepth 100000 in
theorem s_X7_circleCount {pl : List CR} (o_me : Ob) (o_me_court_isles : Ob) (hI_me : IvX7 o_me) (hI_me_court_isles : IvX2 pl o_me_court_isles)  : wp (f_X7_circleCount   o_me o_me_court_isles) (fun (y : Int32) => True) := by
  have li0 : (0 : Int32).toInt = 0 := by decide
  have li1 : (1 : Int32).toInt = 1 := by decide
  unfold f_X7_circleCount
  have lp1 : ∀ (N1 : Nat) (v1_1 : Int32) (v2_1 : Int32), (0 ≤ v2_1.toInt ∧ v2_1.toInt ≤ 7) → (7 - v2_1.toInt).toNat < N1 → wp (lp_X7_circleCount_4 o_me o_me_court_isles  N1 (v1_1, v2_1)) (fun (y : Int32) => True) := by
    intro N1
    induction N1 with
    | zero =>
      intro v1_1 v2_1 hh1 hN1
      exact absurd hN1 (Nat.not_lt_zero _)
    | succ N1 ihx =>
      have ih1 := ihx
      intro v1_1 v2_1 hh1 hN1
      show wp (lb_X7_circleCount_4 o_me o_me_court_isles  (lp_X7_circleCount_4 o_me o_me_court_isles  N1) v1_1 v2_1) (fun (y : Int32) => True)
      unfold lb_X7_circleCount_4
      have t2 := igX2_7 hI_me_court_isles
      refine wp_if (fun c3 => ?_) (fun c3 => ?_)
      · have c3 := cv_ge (a := v2_1.toInt) (b := (gI o_me_court_isles 7).toInt) rfl rfl c3
        refine wp_some ?_
        exact trivial
      · have c3 := cv_nge (a := v2_1.toInt) (b := (gI o_me_court_isles 7).toInt) rfl rfl c3
        have t4 : (v2_1 + (1 : Int32)).toInt = v2_1.toInt + 1 := i32_add rfl (by decide) (by omega) (by omega)
        refine wp_lt (fun x5 ex5 => ?_)
        have tx5 : x5.toInt = (v2_1 + (1 : Int32)).toInt := by rw [ex5]
        have lp2 : ∀ (N2 : Nat) (v1_2 : Int32) (v2_2 : Int32) (v3_2 : Int32), (0 ≤ v2_2.toInt ∧ v2_2.toInt ≤ 6) → (1 ≤ v3_2.toInt ∧ v3_2.toInt ≤ 7) → (v2_2.toInt ≤ v3_2.toInt + (-1)) → (v2_2.toInt ≤ (gI o_me_court_isles 7).toInt + (-1)) → (v2_2.toInt ≤ x5.toInt + (-1)) → (x5.toInt ≤ v2_2.toInt + 1) → (v2_2.toInt ≤ v2_1.toInt + 0) → (v2_1.toInt ≤ v2_2.toInt + 0) → (v3_2.toInt ≤ (gI o_me_court_isles 7).toInt + 0) → (x5.toInt ≤ v3_2.toInt + 0) → (v2_1.toInt ≤ v3_2.toInt + (-1)) → (7 - v3_2.toInt).toNat < N2 → wp (lp_X7_circleCount_19 o_me o_me_court_isles (lp_X7_circleCount_4 o_me o_me_court_isles  N1) N2 (v1_2, v2_2, v3_2)) (fun (y : Int32) => True) := by
          intro N2
          induction N2 with
          | zero =>
            intro v1_2 v2_2 v3_2 hh6 hh7 hh8 hh9 hh10 hh11 hh12 hh13 hh14 hh15 hh16 hN2
            exact absurd hN2 (Nat.not_lt_zero _)
          | succ N2 ihx =>
            have ih2 := ihx
            intro v1_2 v2_2 v3_2 hh6 hh7 hh8 hh9 hh10 hh11 hh12 hh13 hh14 hh15 hh16 hN2
            show wp (lb_X7_circleCount_19 o_me o_me_court_isles (lp_X7_circleCount_4 o_me o_me_court_isles  N1) (lp_X7_circleCount_19 o_me o_me_court_isles (lp_X7_circleCount_4 o_me o_me_court_isles  N1) N2) v1_2 v2_2 v3_2) (fun (y : Int32) => True)
            unfold lb_X7_circleCount_19
            refine wp_if (fun c17 => ?_) (fun c17 => ?_)
            · have c17 := cv_ge (a := v3_2.toInt) (b := (gI o_me_court_isles 7).toInt) rfl rfl c17
              refine wp_lt (fun x18 ex18 => ?_)
              have tx18 : x18.toInt = v2_2.toInt + 1 := by rw [ex18]; exact i32_add rfl (by decide) (by omega) (by omega)
              exact ih1 v1_2 x18  ⟨by omega, by omega⟩ (by omega)
            · have c17 := cv_nge (a := v3_2.toInt) (b := (gI o_me_court_isles 7).toInt) rfl rfl c17
              have t19 : (v3_2 + (1 : Int32)).toInt = v3_2.toInt + 1 := i32_add rfl (by decide) (by omega) (by omega)
              refine wp_lt (fun x20 ex20 => ?_)
              have tx20 : x20.toInt = (v3_2 + (1 : Int32)).toInt := by rw [ex20]
              have lp3 : ∀ (N3 : Nat) (v1_3 : Int32) (v2_3 : Int32) (v3_3 : Int32) (v4_3 : Int32), (0 ≤ v2_3.toInt ∧ v2_3.toInt ≤ 5) → (1 ≤ v3_3.toInt ∧ v3_3.toInt ≤ 6) → (2 ≤ v4_3.toInt ∧ v4_3.toInt ≤ 7) → (v2_3.toInt ≤ v3_3.toInt + (-1)) → (v2_3.toInt ≤ v4_3.toInt + (-2)) → (v3_3.toInt ≤ v4_3.toInt + (-1)) → (v2_3.toInt ≤ (gI o_me_court_isles 7).toInt + (-2)) → (v2_3.toInt ≤ x20.toInt + (-2)) → (v2_3.toInt ≤ x5.toInt + (-1)) → (x5.toInt ≤ v2_3.toInt + 1) → (v2_3.toInt ≤ v2_2.toInt + 0) → (v2_2.toInt ≤ v2_3.toInt + 0) → (v2_3.toInt ≤ v3_2.toInt + (-1)) → (v2_3.toInt ≤ v2_1.toInt + 0) → (v2_1.toInt ≤ v2_3.toInt + 0) → (v3_3.toInt ≤ (gI o_me_court_isles 7).toInt + (-1)) → (v3_3.toInt ≤ x20.toInt + (-1)) → (x20.toInt ≤ v3_3.toInt + 1) → (x5.toInt ≤ v3_3.toInt + 0) → (v2_2.toInt ≤ v3_3.toInt + (-1)) → (v3_3.toInt ≤ v3_2.toInt + 0) → (v3_2.toInt ≤ v3_3.toInt + 0) → (v2_1.toInt ≤ v3_3.toInt + (-1)) → (v4_3.toInt ≤ (gI o_me_court_isles 7).toInt + 0) → (x20.toInt ≤ v4_3.toInt + 0) → (x5.toInt ≤ v4_3.toInt + (-1)) → (v2_2.toInt ≤ v4_3.toInt + (-2)) → (v3_2.toInt ≤ v4_3.toInt + (-1)) → (v2_1.toInt ≤ v4_3.toInt + (-2)) → (7 - v4_3.toInt).toNat < N3 → wp (lp_X7_circleCount_35 o_me o_me_court_isles (lp_X7_circleCount_4 o_me o_me_court_isles  N1) (lp_X7_circleCount_19 o_me o_me_court_isles (lp_X7_circleCount_4 o_me o_me_court_isles  N1) N2) N3 (v1_3, v2_3, v3_3, v4_3)) (fun (y : Int32) => True) := by
                intro N3
                induction N3 with
                | zero =>
                  intro v1_3 v2_3 v3_3 v4_3 hh21 hh22 hh23 hh24 hh25 hh26 hh27 hh28 hh29 hh30 hh31 hh32 hh33 hh34 hh35 hh36 hh37 hh38 hh39 hh40 hh41 hh42 hh43 hh44 hh45 hh46 hh47 hh48 hh49 hN3
                  exact absurd hN3 (Nat.not_lt_zero _)
                | succ N3 ihx =>
                  have ih3 := ihx
                  intro v1_3 v2_3 v3_3 v4_3 hh21 hh22 hh23 hh24 hh25 hh26 hh27 hh28 hh29 hh30 hh31 hh32 hh33 hh34 hh35 hh36 hh37 hh38 hh39 hh40 hh41 hh42 hh43 hh44 hh45 hh46 hh47 hh48 hh49 hN3
                  show wp (lb_X7_circleCount_35 o_me o_me_court_isles (lp_X7_circleCount_4 o_me o_me_court_isles  N1) (lp_X7_circleCount_19 o_me o_me_court_isles (lp_X7_circleCount_4 o_me o_me_court_isles  N1) N2) (lp_X7_circleCount_35 o_me o_me_court_isles (lp_X7_circleCount_4 o_me o_me_court_isles  N1) (lp_X7_circleCount_19 o_me o_me_court_isles (lp_X7_circleCount_4 o_me o_me_court_isles  N1) N2) N3) v1_3 v2_3 v3_3 v4_3) (fun (y : Int32) => True)
                  unfold lb_X7_circleCount_35
                  refine wp_if (fun c50 => ?_) (fun c50 => ?_)
                  · have c50 := cv_ge (a := v4_3.toInt) (b := (gI o_me_court_isles 7).toInt) rfl rfl c50
                    refine wp_lt (fun x51 ex51 => ?_)
                    have tx51 : x51.toInt = v3_3.toInt + 1 := by rw [ex51]; exact i32_add rfl (by decide) (by omega) (by omega)
                    exact ih2 v1_3 v2_3 x51  ⟨by omega, by omega⟩ ⟨by omega, by omega⟩ (by omega) (by omega) (by omega) (by omega) (by omega) (by omega) (by omega) (by omega) (by omega) (by omega)
                  · have c50 := cv_nge (a := v4_3.toInt) (b := (gI o_me_court_isles 7).toInt) rfl rfl c50
                    refine wp_bd (s_X7_isCircle   o_me o_me_court_isles v2_3 v3_3 v4_3  hI_me hI_me_court_isles  ⟨by omega, by omega⟩ ⟨by omega, by omega⟩ ⟨by omega, by omega⟩) (fun z52 hz52 => ?_)
                    have hz52_0 := hz52
                    refine wp_if (fun c53 => ?_) (fun c53 => ?_)
                    · have c53 := cv_eq (a := z52.toInt) (b := 0) rfl (by decide) c53
                      refine wp_bd (s_X7_isCircle   o_me o_me_court_isles v2_3 v4_3 v3_3  hI_me hI_me_court_isles  ⟨by omega, by omega⟩ ⟨by omega, by omega⟩ ⟨by omega, by omega⟩) (fun z54 hz54 => ?_)
                      have hz54_0 := hz54
                      refine wp_if (fun c55 => ?_) (fun c55 => ?_)
                      · have c55 := cv_eq (a := z54.toInt) (b := 0) rfl (by decide) c55
                        unfold bk_X7_circleCount_72
                        refine wp_lt (fun x56 ex56 => ?_)
                        have tx56 : x56.toInt = v4_3.toInt + 1 := by rw [ex56]; exact i32_add rfl (by decide) (by omega) (by omega)
                        exact ih3 v1_3 v2_3 v3_3 x56  ⟨by omega, by omega⟩ ⟨by omega, by omega⟩ ⟨by omega, by omega⟩ (by omega) (by omega) (by omega) (by omega) (by omega) (by omega) (by omega) (by omega) (by omega) (by omega) (by omega) (by omega) (by omega) (by omega) (by omega) (by omega) (by omega) (by omega) (by omega) (by omega) (by omega) (by omega) (by omega) (by omega) (by omega) (by omega) (by omega)
                      · have c55z := c55
                        have c55 := cv_ne (a := z54.toInt) (b := 0) rfl (by decide) c55
                        unfold bk_X7_circleCount_69
                        refine wp_lt (fun x57 ex57 => ?_)
                        unfold bk_X7_circleCount_72
                        refine wp_lt (fun x58 ex58 => ?_)
                        have tx58 : x58.toInt = v4_3.toInt + 1 := by rw [ex58]; exact i32_add rfl (by decide) (by omega) (by omega)
                        exact ih3 x57 v2_3 v3_3 x58  ⟨by omega, by omega⟩ ⟨by omega, by omega⟩ ⟨by omega, by omega⟩ (by omega) (by omega) (by omega) (by omega) (by omega) (by omega) (by omega) (by omega) (by omega) (by omega) (by omega) (by omega) (by omega) (by omega) (by omega) (by omega) (by omega) (by omega) (by omega) (by omega) (by omega) (by omega) (by omega) (by omega) (by omega) (by omega) (by omega)
                    · have c53z := c53
                      have c53 := cv_ne (a := z52.toInt) (b := 0) rfl (by decide) c53
                      unfold bk_X7_circleCount_69
                      refine wp_lt (fun x59 ex59 => ?_)
                      unfold bk_X7_circleCount_72
                      refine wp_lt (fun x60 ex60 => ?_)
                      have tx60 : x60.toInt = v4_3.toInt + 1 := by rw [ex60]; exact i32_add rfl (by decide) (by omega) (by omega)
                      exact ih3 x59 v2_3 v3_3 x60  ⟨by omega, by omega⟩ ⟨by omega, by omega⟩ ⟨by omega, by omega⟩ (by omega) (by omega) (by omega) (by omega) (by omega) (by omega) (by omega) (by omega) (by omega) (by omega) (by omega) (by omega) (by omega) (by omega) (by omega) (by omega) (by omega) (by omega) (by omega) (by omega) (by omega) (by omega) (by omega) (by omega) (by omega) (by omega) (by omega)
              exact lp3 zfu v1_2 v2_2 v3_2 x20  ⟨by omega, by omega⟩ ⟨by omega, by omega⟩ ⟨by omega, by omega⟩ (by omega) (by omega) (by omega) (by omega) (by omega) (by omega) (by omega) (by omega) (by omega) (by omega) (by omega) (by omega) (by omega) (by omega) (by omega) (by omega) (by omega) (by omega) (by omega) (by omega) (by omega) (by omega) (by omega) (by omega) (by omega) (by omega) (by show _ < 100000; omega)
        exact lp2 zfu v1_1 v2_1 x5  ⟨by omega, by omega⟩ ⟨by omega, by omega⟩ (by omega) (by omega) (by omega) (by omega) (by omega) (by omega) (by omega) (by omega) (by omega) (by show _ < 100000; omega)
  exact lp1 zfu (0 : Int32) (0 : Int32)  ⟨by decide, by decide⟩ (by show _ < 100000; omega)

set_option maxHeartbeats 4000000 in
set_option maxRecDepth 100000 in
theorem s_X8_circles {pl : List CR} (o_me : Ob) (o_me_isles : Ob) (o_me_study : Ob) (hI_me : IvX8 o_me) (hI_me_isles : IvX2 pl o_me_isles) (hI_me_study : IvX7 o_me_study)  : wp (f_X8_circles   o_me o_me_isles o_me_study) (fun (y : Int32) => True) := by
  unfold f_X8_circles
  refine wp_bd (s_X7_circleCount   o_me_study o_me_isles  hI_me_study hI_me_isles  ) (fun z1 hz1 => ?_)
  refine wp_some ?_
  exact trivial

set_option maxHeartbeats 4000000 in
set_option maxRecDepth 100000 in
theorem s_X8_compare (o_me : Ob) (o_me_machine : Ob) (o_me_isles : Ob) (o_me_isles_now : Ob) (o_me_court : Ob) (o_pool : List CR) (p0 : Int32) (p1 : Int32) (hI_me : IvX8 o_me) (hI_me_machine : IvX3 o_me_machine) (hI_me_isles : IvX2 o_pool o_me_isles) (hI_me_isles_now : IvX4 o_me_isles_now) (hI_me_court : IvX1 o_me_court) (hI_pool : PLok o_pool)  : wp (f_X8_compare   o_me o_me_machine o_me_isles o_me_isles_now o_me_court o_pool p0 p1) (fun (y : Int32 × Ob × Ob) => ((-1) ≤ y.1.toInt ∧ y.1.toInt ≤ 6) ∧ IvX3 y.2.1 ∧ Kp [] [] [] o_me_machine y.2.1 ∧ IvX1 y.2.2 ∧ Kp [] [] [] o_me_court y.2.2) := by
  have li0 : (-1 : Int32).toInt = (-1) := by decide
  have li1 : (1 : Int32).toInt = 1 := by decide
  unfold f_X8_compare
  refine wp_if (fun c1 => ?_) (fun c1 => ?_)
  · have c1 := cv_eq (a := p0.toInt) (b := (-1)) rfl (by decide) c1
    unfold bk_X8_compare_16
    refine wp_bd (s_X8_isRace   p1    ) (fun z2 hz2 => ?_)
    obtain ⟨hz2_0, hz2_1⟩ := hz2
    refine wp_if (fun c3 => ?_) (fun c3 => ?_)
    · have c3 := cv_eq (a := z2.toInt) (b := 0) rfl (by decide) c3
      refine wp_some ?_
      exact (show ((-1) ≤ (-1 : Int32).toInt ∧ (-1 : Int32).toInt ≤ 6) ∧ IvX3 o_me_machine ∧ Kp [] [] [] o_me_machine o_me_machine ∧ IvX1 o_me_court ∧ Kp [] [] [] o_me_court o_me_court from ⟨⟨by decide, by decide⟩, hI_me_machine, Kp.rf, hI_me_court, Kp.rf⟩)
    · have c3z := c3
      have c3i := hz2_1 c3
      have c3 := cv_ne (a := z2.toInt) (b := 0) rfl (by decide) c3
      refine wp_bd (s_X2_lawAt   o_me_isles p0  hI_me_isles  ) (fun z4 hz4 => ?_)
      have hz4_0 := hz4
      refine wp_bd (s_X1_lineUp_Q   o_me_court o_me_isles o_me_isles_now o_me_machine o_pool z4 p1  hI_me_court hI_me_isles hI_me_isles_now hI_me_machine hI_pool hz4_0 ⟨by omega, by omega⟩) (fun z5 hz5 => ?_)
      obtain ⟨hz5_0, hz5_1, hz5_2, hz5_3, hz5_4⟩ := hz5
      have hkpz5_me_court : Kp [] [] [] o_me_court z5.2.1 := Kp.rf.trans (hz5_2.mono (by decide) (by decide) (by decide))
      have hkpz5_me_machine : Kp [] [] [] o_me_machine z5.2.2 := Kp.rf.trans (hz5_4.mono (by decide) (by decide) (by decide))
      refine wp_bd (s_X1_at   z5.2.1 (1 : Int32)  hz5_1  ) (fun z6 hz6 => ?_)
      have hz6_0 := hz6
      refine wp_some ?_
      exact (show ((-1) ≤ z6.toInt ∧ z6.toInt ≤ 6) ∧ IvX3 z5.2.2 ∧ Kp [] [] [] o_me_machine z5.2.2 ∧ IvX1 z5.2.1 ∧ Kp [] [] [] o_me_court z5.2.1 from ⟨⟨by omega, by omega⟩, hz5_3, hkpz5_me_machine, hz5_1, hkpz5_me_court⟩)
  · have c1 := cv_ne (a := p0.toInt) (b := (-1)) rfl (by decide) c1
    refine wp_bd (s_X2_isLaw   o_me_isles p0  hI_me_isles  ) (fun z7 hz7 => ?_)
    obtain ⟨hz7_0, hz7_1⟩ := hz7
    refine wp_if (fun c8 => ?_) (fun c8 => ?_)
    · have c8 := cv_eq (a := z7.toInt) (b := 0) rfl (by decide) c8
      refine wp_some ?_
      exact (show ((-1) ≤ (-1 : Int32).toInt ∧ (-1 : Int32).toInt ≤ 6) ∧ IvX3 o_me_machine ∧ Kp [] [] [] o_me_machine o_me_machine ∧ IvX1 o_me_court ∧ Kp [] [] [] o_me_court o_me_court from ⟨⟨by decide, by decide⟩, hI_me_machine, Kp.rf, hI_me_court, Kp.rf⟩)
    · have c8z := c8
      have c8i := hz7_1 c8
      have c8 := cv_ne (a := z7.toInt) (b := 0) rfl (by decide) c8
      unfold bk_X8_compare_16
      refine wp_bd (s_X8_isRace   p1    ) (fun z9 hz9 => ?_)
      obtain ⟨hz9_0, hz9_1⟩ := hz9
      refine wp_if (fun c10 => ?_) (fun c10 => ?_)
      · have c10 := cv_eq (a := z9.toInt) (b := 0) rfl (by decide) c10
        refine wp_some ?_
        exact (show ((-1) ≤ (-1 : Int32).toInt ∧ (-1 : Int32).toInt ≤ 6) ∧ IvX3 o_me_machine ∧ Kp [] [] [] o_me_machine o_me_machine ∧ IvX1 o_me_court ∧ Kp [] [] [] o_me_court o_me_court from ⟨⟨by decide, by decide⟩, hI_me_machine, Kp.rf, hI_me_court, Kp.rf⟩)
      · have c10z := c10
        have c10i := hz9_1 c10
        have c10 := cv_ne (a := z9.toInt) (b := 0) rfl (by decide) c10
        refine wp_bd (s_X2_lawAt   o_me_isles p0  hI_me_isles  ) (fun z11 hz11 => ?_)
        have hz11_0 := hz11
        refine wp_bd (s_X1_lineUp_Q   o_me_court o_me_isles o_me_isles_now o_me_machine o_pool z11 p1  hI_me_court hI_me_isles hI_me_isles_now hI_me_machine hI_pool hz11_0 ⟨by omega, by omega⟩) (fun z12 hz12 => ?_)
        obtain ⟨hz12_0, hz12_1, hz12_2, hz12_3, hz12_4⟩ := hz12
        have hkpz12_me_court : Kp [] [] [] o_me_court z12.2.1 := Kp.rf.trans (hz12_2.mono (by decide) (by decide) (by decide))
        have hkpz12_me_machine : Kp [] [] [] o_me_machine z12.2.2 := Kp.rf.trans (hz12_4.mono (by decide) (by decide) (by decide))
        refine wp_bd (s_X1_at   z12.2.1 (1 : Int32)  hz12_1  ) (fun z13 hz13 => ?_)
        have hz13_0 := hz13
        refine wp_some ?_
        exact (show ((-1) ≤ z13.toInt ∧ z13.toInt ≤ 6) ∧ IvX3 z12.2.2 ∧ Kp [] [] [] o_me_machine z12.2.2 ∧ IvX1 z12.2.1 ∧ Kp [] [] [] o_me_court z12.2.1 from ⟨⟨by omega, by omega⟩, hz12_3, hkpz12_me_machine, hz12_1, hkpz12_me_court⟩)

set_option maxHeartbeats 4000000 in
set_option maxRecDepth 100000 in
theorem s_X2_allPrizes {pl : List CR} (o_me : Ob) (o_me_now : Ob) (hI_me : IvX2 pl o_me) (hI_me_now : IvX4 o_me_now)  : wp (f_X2_allPrizes   o_me o_me_now) (fun (y : Int32) => True) := by
  have li0 : (0 : Int32).toInt = 0 := by decide
  unfold f_X2_allPrizes
  have lp1 : ∀ (N1 : Nat) (v1_1 : Int32) (v2_1 : Int32), (0 ≤ v2_1.toInt ∧ v2_1.toInt ≤ 7) → (7 - v2_1.toInt).toNat < N1 → wp (lp_X2_allPrizes_4 o_me o_me_now  N1 (v1_1, v2_1)) (fun (y : Int32) => True) := by
    intro N1
    induction N1 with
    | zero =>
      intro v1_1 v2_1 hh1 hN1
      exact absurd hN1 (Nat.not_lt_zero _)
    | succ N1 ihx =>
      have ih1 := ihx
      intro v1_1 v2_1 hh1 hN1
      show wp (lb_X2_allPrizes_4 o_me o_me_now  (lp_X2_allPrizes_4 o_me o_me_now  N1) v1_1 v2_1) (fun (y : Int32) => True)
      unfold lb_X2_allPrizes_4
      have t2 := igX2_7 hI_me
      refine wp_if (fun c3 => ?_) (fun c3 => ?_)
      · have c3 := cv_ge (a := v2_1.toInt) (b := (gI o_me 7).toInt) rfl rfl c3
        refine wp_some ?_
        exact trivial
      · have c3 := cv_nge (a := v2_1.toInt) (b := (gI o_me 7).toInt) rfl rfl c3
        refine wp_gd (zin_of (m := 7) rfl (by omega) (by omega)) ?_
        refine wp_lt (fun x4 ex4 => ?_)
        have tx4 : x4.toInt = (v1_1 + (gA o_me_now 1 v2_1.toNatClampNeg)).toInt := by rw [ex4]
        refine wp_lt (fun x5 ex5 => ?_)
        have tx5 : x5.toInt = v2_1.toInt + 1 := by rw [ex5]; exact i32_add rfl (by decide) (by omega) (by omega)
        exact ih1 x4 x5  ⟨by omega, by omega⟩ (by omega)
  exact lp1 zfu (0 : Int32) (0 : Int32)  ⟨by decide, by decide⟩ (by show _ < 100000; omega)

set_option maxHeartbeats 4000000 in
set_option maxRecDepth 100000 in
theorem s_X2_term {pl : List CR} (o_me : Ob) (o_me_now : Ob) (p0 : Int32) (hI_me : IvX2 pl o_me) (hI_me_now : IvX4 o_me_now)  : wp (f_X2_term   o_me o_me_now p0) (fun (y : Int32) => True) := by
  have li0 : (1 : Int32).toInt = 1 := by decide
  unfold f_X2_term
  refine wp_if (fun c1 => ?_) (fun c1 => ?_)
  · have c1 := cv_eq (a := p0.toInt) (b := 0) rfl (by decide) c1
    refine wp_some ?_
    exact trivial
  · have c1z := c1
    have c1 := cv_ne (a := p0.toInt) (b := 0) rfl (by decide) c1
    refine wp_if (fun c2 => ?_) (fun c2 => ?_)
    · have c2 := cv_eq (a := p0.toInt) (b := 1) rfl (by decide) c2
      refine wp_some ?_
      exact trivial
    · have c2 := cv_ne (a := p0.toInt) (b := 1) rfl (by decide) c2
      refine wp_some ?_
      exact trivial

set_option maxHeartbeats 4000000 in
set_option maxRecDepth 100000 in
theorem s_X8_count {pl : List CR} (o_me : Ob) (o_me_reader : Ob) (o_me_isles : Ob) (o_me_isles_now : Ob) (o_me_past : Ob) (p0 : Int32) (hI_me : IvX8 o_me) (hI_me_reader : IvX6 o_me_reader) (hI_me_isles : IvX2 pl o_me_isles) (hI_me_isles_now : IvX4 o_me_isles_now) (hI_me_past : IvX5 o_me_past)  : wp (f_X8_count   o_me o_me_reader o_me_isles o_me_isles_now o_me_past p0) (fun (y : Int32) => True) := by
  have li0 : (-1 : Int32).toInt = (-1) := by decide
  have li1 : (0 : Int32).toInt = 0 := by decide
  have li2 : (1 : Int32).toInt = 1 := by decide
  have li3 : (2 : Int32).toInt = 2 := by decide
  have li4 : (3 : Int32).toInt = 3 := by decide
  have li5 : (5 : Int32).toInt = 5 := by decide
  have li6 : (6 : Int32).toInt = 6 := by decide
  unfold f_X8_count
  refine wp_if (fun c1 => ?_) (fun c1 => ?_)
  · have c1 := cv_eq (a := p0.toInt) (b := 0) rfl (by decide) c1
    have t2 := igX2_7 hI_me_isles
    refine wp_some ?_
    exact trivial
  have c1 := cv_ne (a := p0.toInt) (b := 0) rfl (by decide) c1
  refine wp_if (fun c3 => ?_) (fun c3 => ?_)
  · have c3 := cv_eq (a := p0.toInt) (b := 1) rfl (by decide) c3
    refine wp_bd (s_J6_bitCount_0f7a4   (gI o_me_isles_now 2)    ) (fun z4 hz4 => ?_)
    have hz4_0 := hz4
    refine wp_some ?_
    exact trivial
  have c3 := cv_ne (a := p0.toInt) (b := 1) rfl (by decide) c3
  refine wp_if (fun c5 => ?_) (fun c5 => ?_)
  · have c5 := cv_eq (a := p0.toInt) (b := 2) rfl (by decide) c5
    refine wp_some ?_
    exact trivial
  have c5 := cv_ne (a := p0.toInt) (b := 2) rfl (by decide) c5
  refine wp_if (fun c6 => ?_) (fun c6 => ?_)
  · have c6 := cv_eq (a := p0.toInt) (b := 3) rfl (by decide) c6
    refine wp_bd (s_X2_allPrizes   o_me_isles o_me_isles_now  hI_me_isles hI_me_isles_now  ) (fun z7 hz7 => ?_)
    refine wp_some ?_
    exact trivial
  have c6 := cv_ne (a := p0.toInt) (b := 3) rfl (by decide) c6
  refine wp_if (fun c8 => ?_) (fun c8 => ?_)
  · have c8 := cv_eq (a := p0.toInt) (b := 4) rfl (by decide) c8
    have t9 := igX2_8 hI_me_isles
    refine wp_some ?_
    exact trivial
  have c8 := cv_ne (a := p0.toInt) (b := 4) rfl (by decide) c8
  refine wp_if (fun c10 => ?_) (fun c10 => ?_)
  · have c10 := cv_eq (a := p0.toInt) (b := 5) rfl (by decide) c10
    have t11 := igX2_9 hI_me_isles
    refine wp_some ?_
    exact trivial
  have c10 := cv_ne (a := p0.toInt) (b := 5) rfl (by decide) c10
  refine wp_if (fun c12 => ?_) (fun c12 => ?_)
  · have c12 := cv_eq (a := p0.toInt) (b := 6) rfl (by decide) c12
    have t13 := igX5_3 hI_me_past
    refine wp_some ?_
    exact trivial
  have c12 := cv_ne (a := p0.toInt) (b := 6) rfl (by decide) c12
  refine wp_if (fun c14 => ?_) (fun c14 => ?_)
  · have c14 := cv_eq (a := p0.toInt) (b := 7) rfl (by decide) c14
    have t15 := igX6_2 hI_me_reader
    refine wp_some ?_
    exact trivial
  have c14 := cv_ne (a := p0.toInt) (b := 7) rfl (by decide) c14
  refine wp_if (fun c16 => ?_) (fun c16 => ?_)
  · have c16 := cv_eq (a := p0.toInt) (b := 8) rfl (by decide) c16
    refine wp_some ?_
    exact trivial
  have c16 := cv_ne (a := p0.toInt) (b := 8) rfl (by decide) c16
  refine wp_if (fun c17 => ?_) (fun c17 => ?_)
  · have c17 := cv_eq (a := p0.toInt) (b := 9) rfl (by decide) c17
    refine wp_some ?_
    exact trivial
  have c17 := cv_ne (a := p0.toInt) (b := 9) rfl (by decide) c17
  refine wp_if (fun c18 => ?_) (fun c18 => ?_)
  · have c18 := cv_eq (a := p0.toInt) (b := 10) rfl (by decide) c18
    refine wp_some ?_
    exact trivial
  have c18 := cv_ne (a := p0.toInt) (b := 10) rfl (by decide) c18
  refine wp_if (fun c19 => ?_) (fun c19 => ?_)
  · have c19 := cv_eq (a := p0.toInt) (b := 11) rfl (by decide) c19
    refine wp_some ?_
    exact trivial
  have c19 := cv_ne (a := p0.toInt) (b := 11) rfl (by decide) c19
  refine wp_if (fun c20 => ?_) (fun c20 => ?_)
  · have c20 := cv_eq (a := p0.toInt) (b := 12) rfl (by decide) c20
    refine wp_some ?_
    exact trivial
  have c20 := cv_ne (a := p0.toInt) (b := 12) rfl (by decide) c20
  refine wp_if (fun c21 => ?_) (fun c21 => ?_)
  · have c21 := cv_eq (a := p0.toInt) (b := 13) rfl (by decide) c21
    have t22 := igX2_10 hI_me_isles
    refine wp_some ?_
    exact trivial
  have c21 := cv_ne (a := p0.toInt) (b := 13) rfl (by decide) c21
  refine wp_if (fun c23 => ?_) (fun c23 => ?_)
  · have c23 := cv_eq (a := p0.toInt) (b := 14) rfl (by decide) c23
    refine wp_bd (s_X2_term   o_me_isles o_me_isles_now (0 : Int32)  hI_me_isles hI_me_isles_now  ) (fun z24 hz24 => ?_)
    refine wp_some ?_
    exact trivial
  have c23 := cv_ne (a := p0.toInt) (b := 14) rfl (by decide) c23
  refine wp_if (fun c25 => ?_) (fun c25 => ?_)
  · have c25 := cv_eq (a := p0.toInt) (b := 15) rfl (by decide) c25
    refine wp_bd (s_X2_term   o_me_isles o_me_isles_now (1 : Int32)  hI_me_isles hI_me_isles_now  ) (fun z26 hz26 => ?_)
    refine wp_some ?_
    exact trivial
  have c25 := cv_ne (a := p0.toInt) (b := 15) rfl (by decide) c25
  refine wp_if (fun c27 => ?_) (fun c27 => ?_)
  · have c27 := cv_eq (a := p0.toInt) (b := 16) rfl (by decide) c27
    refine wp_bd (s_X2_term   o_me_isles o_me_isles_now (2 : Int32)  hI_me_isles hI_me_isles_now  ) (fun z28 hz28 => ?_)
    refine wp_some ?_
    exact trivial
  have c27 := cv_ne (a := p0.toInt) (b := 16) rfl (by decide) c27
  refine wp_some ?_
  exact trivial

set_option maxHeartbeats 4000000 in
set_option maxRecDepth 100000 in
theorem s_X7_scoreWith (o_me : Ob) (p0 : Int32) (p1 : Int32) (p2 : Int32) (hI_me : IvX7 o_me) (q0 : 0 ≤ p0.toInt ∧ p0.toInt ≤ 6) (q1 : 0 ≤ p1.toInt ∧ p1.toInt ≤ 3) (q2 : 0 ≤ p2.toInt ∧ p2.toInt ≤ 127) : wp (f_X7_scoreWith   o_me p0 p1 p2) (fun (y : Int32) => True) := by
  have li0 : (-1 : Int32).toInt = (-1) := by decide
  have li1 : (1 : Int32).toInt = 1 := by decide
  have li2 : (128 : Int32).toInt = 128 := by decide
  have li3 : (7 : Int32).toInt = 7 := by decide
  unfold f_X7_scoreWith
  have t1 : (p1 * (7 : Int32)).toInt = p1.toInt * 7 := i32_mul rfl (by decide) (by omega) (by omega)
  have t2 : ((p1 * (7 : Int32)) + p0).toInt = (p1 * (7 : Int32)).toInt + p0.toInt := i32_add rfl rfl (by omega) (by omega)
  refine wp_gd (zin_of (m := 28) rfl (by omega) (by omega)) ?_
  refine wp_lt (fun x3 ex3 => ?_)
  have tx3 : x3.toInt = (gA o_me 5 ((p1 * (7 : Int32)) + p0).toNatClampNeg).toInt := by rw [ex3]
  refine wp_if (fun c4 => ?_) (fun c4 => ?_)
  · have c4 := cv_eq (a := x3.toInt) (b := (-1)) rfl (by decide) c4
    refine wp_some ?_
    exact trivial
  · have c4 := cv_ne (a := x3.toInt) (b := (-1)) rfl (by decide) c4
    have t5 := i32_and (x := p2 >>> (p0 &&& 31)) (y := (1 : Int32)) (m := 1) ⟨by decide, by decide⟩
    refine wp_if (fun c6 => ?_) (fun c6 => ?_)
    · have c6 := cv_eq (a := ((p2 >>> (p0 &&& 31)) &&& (1 : Int32)).toInt) (b := 1) rfl (by decide) c6
      refine wp_some ?_
      exact trivial
    · have c6 := cv_ne (a := ((p2 >>> (p0 &&& 31)) &&& (1 : Int32)).toInt) (b := 1) rfl (by decide) c6
      have t7 : (p1 + (1 : Int32)).toInt = p1.toInt + 1 := i32_add rfl (by decide) (by omega) (by omega)
      have t8 : ((p1 + (1 : Int32)) * (128 : Int32)).toInt = (p1 + (1 : Int32)).toInt * 128 := i32_mul rfl (by decide) (by omega) (by omega)
      have t9 : 1 ≤ ((1 : Int32) <<< (p0 &&& 31)).toInt ∧ ((1 : Int32) <<< (p0 &&& 31)).toInt ≤ 64 := i32_shl6 (p := p0) (by omega) (by omega)
      have t10 := i32_or7 (x := p2) (y := (1 : Int32) <<< (p0 &&& 31)) ⟨by omega, by omega⟩ ⟨by omega, by omega⟩
      have t11 : (((p1 + (1 : Int32)) * (128 : Int32)) + (p2 ||| ((1 : Int32) <<< (p0 &&& 31)))).toInt = ((p1 + (1 : Int32)) * (128 : Int32)).toInt + (p2 ||| ((1 : Int32) <<< (p0 &&& 31))).toInt := i32_add rfl rfl (by omega) (by omega)
      refine wp_gd (zin_of (m := 640) rfl (by omega) (by omega)) ?_
      refine wp_some ?_
      exact trivial

set_option maxHeartbeats 4000000 in
set_option maxRecDepth 100000 in
theorem s_X7_firstCrowned {pl : List CR} (o_me : Ob) (o_me_court_isles : Ob) (p0 : Int32) (p1 : Int32) (hI_me : IvX7 o_me) (hI_me_court_isles : IvX2 pl o_me_court_isles) (q0 : 0 ≤ p0.toInt ∧ p0.toInt ≤ 3) (q1 : 0 ≤ p1.toInt ∧ p1.toInt ≤ 127) : wp (f_X7_firstCrowned   o_me o_me_court_isles p0 p1) (fun (y : Int32) => (0 ≤ y.toInt ∧ y.toInt ≤ 7)) := by
  have li0 : (0 : Int32).toInt = 0 := by decide
  have li1 : (128 : Int32).toInt = 128 := by decide
  have li2 : (7 : Int32).toInt = 7 := by decide
  unfold f_X7_firstCrowned
  have lp1 : ∀ (N1 : Nat) (v1_1 : Int32) (v2_1 : Int32) (v3_1 : Int32), (0 ≤ v1_1.toInt ∧ v1_1.toInt ≤ 3) → (0 ≤ v2_1.toInt ∧ v2_1.toInt ≤ 127) → (0 ≤ v3_1.toInt ∧ v3_1.toInt ≤ 7) → (v1_1.toInt ≤ p0.toInt + 0) → (p0.toInt ≤ v1_1.toInt + 0) → (v2_1.toInt ≤ p1.toInt + 0) → (p1.toInt ≤ v2_1.toInt + 0) → (7 - v3_1.toInt).toNat < N1 → wp (lp_X7_firstCrowned_2 o_me o_me_court_isles  N1 (v1_1, v2_1, v3_1)) (fun (y : Int32) => (0 ≤ y.toInt ∧ y.toInt ≤ 7)) := by
    intro N1
    induction N1 with
    | zero =>
      intro v1_1 v2_1 v3_1 hh1 hh2 hh3 hh4 hh5 hh6 hh7 hN1
      exact absurd hN1 (Nat.not_lt_zero _)
    | succ N1 ihx =>
      have ih1 := ihx
      intro v1_1 v2_1 v3_1 hh1 hh2 hh3 hh4 hh5 hh6 hh7 hN1
      show wp (lb_X7_firstCrowned_2 o_me o_me_court_isles  (lp_X7_firstCrowned_2 o_me o_me_court_isles  N1) v1_1 v2_1 v3_1) (fun (y : Int32) => (0 ≤ y.toInt ∧ y.toInt ≤ 7))
      unfold lb_X7_firstCrowned_2
      have t8 := igX2_7 hI_me_court_isles
      refine wp_if (fun c9 => ?_) (fun c9 => ?_)
      · have c9 := cv_ge (a := v3_1.toInt) (b := (gI o_me_court_isles 7).toInt) rfl rfl c9
        refine wp_some ?_
        exact (show (0 ≤ (7 : Int32).toInt ∧ (7 : Int32).toInt ≤ 7) from ⟨by decide, by decide⟩)
      · have c9 := cv_nge (a := v3_1.toInt) (b := (gI o_me_court_isles 7).toInt) rfl rfl c9
        refine wp_bd (s_X7_scoreWith   o_me v3_1 v1_1 v2_1  hI_me  ⟨by omega, by omega⟩ ⟨by omega, by omega⟩ ⟨by omega, by omega⟩) (fun z10 hz10 => ?_)
        have t11 : (v1_1 * (128 : Int32)).toInt = v1_1.toInt * 128 := i32_mul rfl (by decide) (by omega) (by omega)
        have t12 : ((v1_1 * (128 : Int32)) + v2_1).toInt = (v1_1 * (128 : Int32)).toInt + v2_1.toInt := i32_add rfl rfl (by omega) (by omega)
        refine wp_gd (zin_of (m := 640) rfl (by omega) (by omega)) ?_
        have rg14 := i32_rg z10
        have rg15 := i32_rg (gA o_me 4 ((v1_1 * (128 : Int32)) + v2_1).toNatClampNeg)
        refine wp_if (fun c13 => ?_) (fun c13 => ?_)
        · have c13 := cv_eq (a := z10.toInt) (b := (gA o_me 4 ((v1_1 * (128 : Int32)) + v2_1).toNatClampNeg).toInt) rfl rfl c13
          refine wp_some ?_
          exact (show (0 ≤ v3_1.toInt ∧ v3_1.toInt ≤ 7) from ⟨by omega, by omega⟩)
        · have c13 := cv_ne (a := z10.toInt) (b := (gA o_me 4 ((v1_1 * (128 : Int32)) + v2_1).toNatClampNeg).toInt) rfl rfl c13
          refine wp_lt (fun x16 ex16 => ?_)
          have tx16 : x16.toInt = v3_1.toInt + 1 := by rw [ex16]; exact i32_add rfl (by decide) (by omega) (by omega)
          exact ih1 v1_1 v2_1 x16  ⟨by omega, by omega⟩ ⟨by omega, by omega⟩ ⟨by omega, by omega⟩ (by omega) (by omega) (by omega) (by omega) (by omega)
  exact lp1 zfu p0 p1 (0 : Int32)  ⟨by omega, by omega⟩ ⟨by omega, by omega⟩ ⟨by decide, by decide⟩ (by omega) (by omega) (by omega) (by omega) (by show _ < 100000; omega)

set_option maxHeartbeats 4000000 in
set_option maxRecDepth 100000 in
theorem s_X7_bestFrom {pl : List CR} (o_me : Ob) (o_me_court_isles : Ob) (p0 : Int32) (p1 : Int32) (hI_me : IvX7 o_me) (hI_me_court_isles : IvX2 pl o_me_court_isles) (q0 : 0 ≤ p0.toInt ∧ p0.toInt ≤ 3) (q1 : 0 ≤ p1.toInt ∧ p1.toInt ≤ 127) : wp (f_X7_bestFrom   o_me o_me_court_isles p0 p1) (fun (y : Int32) => True) := by
  have li0 : (0 : Int32).toInt = 0 := by decide
  have li1 : (1 : Int32).toInt = 1 := by decide
  have li2 : (128 : Int32).toInt = 128 := by decide
  unfold f_X7_bestFrom
  have t1 : (p0 + (1 : Int32)).toInt = p0.toInt + 1 := i32_add rfl (by decide) (by omega) (by omega)
  have t2 : ((p0 + (1 : Int32)) * (128 : Int32)).toInt = (p0 + (1 : Int32)).toInt * 128 := i32_mul rfl (by decide) (by omega) (by omega)
  have t3 : (((p0 + (1 : Int32)) * (128 : Int32)) + p1).toInt = ((p0 + (1 : Int32)) * (128 : Int32)).toInt + p1.toInt := i32_add rfl rfl (by omega) (by omega)
  refine wp_gd (zin_of (m := 640) rfl (by omega) (by omega)) ?_
  refine wp_lt (fun x4 ex4 => ?_)
  have tx4 : x4.toInt = (gA o_me 4 (((p0 + (1 : Int32)) * (128 : Int32)) + p1).toNatClampNeg).toInt := by rw [ex4]
  have lp1 : ∀ (N1 : Nat) (v1_1 : Int32) (v2_1 : Int32) (v3_1 : Int32) (v4_1 : Int32), (0 ≤ v1_1.toInt ∧ v1_1.toInt ≤ 3) → (0 ≤ v2_1.toInt ∧ v2_1.toInt ≤ 127) → (0 ≤ v4_1.toInt ∧ v4_1.toInt ≤ 7) → (v1_1.toInt ≤ p0.toInt + 0) → (p0.toInt ≤ v1_1.toInt + 0) → (v2_1.toInt ≤ p1.toInt + 0) → (p1.toInt ≤ v2_1.toInt + 0) → (x4.toInt ≤ v3_1.toInt + 0) → (7 - v4_1.toInt).toNat < N1 → wp (lp_X7_bestFrom_18 o_me o_me_court_isles  N1 (v1_1, v2_1, v3_1, v4_1)) (fun (y : Int32) => True) := by
    intro N1
    induction N1 with
    | zero =>
      intro v1_1 v2_1 v3_1 v4_1 hh5 hh6 hh7 hh8 hh9 hh10 hh11 hh12 hN1
      exact absurd hN1 (Nat.not_lt_zero _)
    | succ N1 ihx =>
      have ih1 := ihx
      intro v1_1 v2_1 v3_1 v4_1 hh5 hh6 hh7 hh8 hh9 hh10 hh11 hh12 hN1
      show wp (lb_X7_bestFrom_18 o_me o_me_court_isles  (lp_X7_bestFrom_18 o_me o_me_court_isles  N1) v1_1 v2_1 v3_1 v4_1) (fun (y : Int32) => True)
      unfold lb_X7_bestFrom_18
      have t13 := igX2_7 hI_me_court_isles
      refine wp_if (fun c14 => ?_) (fun c14 => ?_)
      · have c14 := cv_ge (a := v4_1.toInt) (b := (gI o_me_court_isles 7).toInt) rfl rfl c14
        refine wp_some ?_
        exact trivial
      · have c14 := cv_nge (a := v4_1.toInt) (b := (gI o_me_court_isles 7).toInt) rfl rfl c14
        refine wp_bd (s_X7_scoreWith   o_me v4_1 v1_1 v2_1  hI_me  ⟨by omega, by omega⟩ ⟨by omega, by omega⟩ ⟨by omega, by omega⟩) (fun z15 hz15 => ?_)
        have rg17 := i32_rg v3_1
        have rg18 := i32_rg z15
        skip
        have t19 := z_mxg v3_1 z15
        refine wp_lt (fun x20 ex20 => ?_)
        have tx20 : x20.toInt = (if v3_1 < z15 then z15 else v3_1).toInt := by rw [ex20]
        refine wp_lt (fun x21 ex21 => ?_)
        have tx21 : x21.toInt = v4_1.toInt + 1 := by rw [ex21]; exact i32_add rfl (by decide) (by omega) (by omega)
        exact ih1 v1_1 v2_1 x20 x21  ⟨by omega, by omega⟩ ⟨by omega, by omega⟩ ⟨by omega, by omega⟩ (by omega) (by omega) (by omega) (by omega) (by omega) (by omega)
  exact lp1 zfu p0 p1 x4 (0 : Int32)  ⟨by omega, by omega⟩ ⟨by omega, by omega⟩ ⟨by decide, by decide⟩ (by omega) (by omega) (by omega) (by omega) (by omega) (by show _ < 100000; omega)

set_option maxHeartbeats 4000000 in
set_option maxRecDepth 100000 in
theorem s_X7_crownAll (o_me : Ob) (o_me_court : Ob) (o_me_court_isles : Ob) (o_me_court_isles_now : Ob) (o_me_court_machine : Ob) (o_pool : List CR) (hI_me : IvX7 o_me) (hI_me_court : IvX1 o_me_court) (hI_me_court_isles : IvX2 o_pool o_me_court_isles) (hI_me_court_isles_now : IvX4 o_me_court_isles_now) (hI_me_court_machine : IvX3 o_me_court_machine) (hI_pool : PLok o_pool)  : wp (f_X7_crownAll   o_me o_me_court o_me_court_isles o_me_court_isles_now o_me_court_machine o_pool) (fun (y : Int32 × Ob × Ob) => IvX7 y.2.1 ∧ Kp [] [3] [] o_me y.2.1 ∧ IvX3 y.2.2 ∧ Kp [] [] [] o_me_court_machine y.2.2) := by
  have li0 : (0 : Int32).toInt = 0 := by decide
  have li1 : (1 : Int32).toInt = 1 := by decide
  have li2 : (128 : Int32).toInt = 128 := by decide
  have li3 : (4 : Int32).toInt = 4 := by decide
  have li4 : (7 : Int32).toInt = 7 := by decide
  unfold f_X7_crownAll
  have lp1 : ∀ (N1 : Nat) (v1_1 : Int32) (o_me_1 : Ob) (o_me_court_machine_1 : Ob), IvX7 o_me_1 → Kp [] [3] [] o_me o_me_1 → IvX3 o_me_court_machine_1 → Kp [] [] [] o_me_court_machine o_me_court_machine_1 → (0 ≤ v1_1.toInt ∧ v1_1.toInt ≤ 4) → (4 - v1_1.toInt).toNat < N1 → wp (lp_X7_crownAll_2 o_me_court o_me_court_isles o_me_court_isles_now o_pool  N1 (v1_1, o_me_1, o_me_court_machine_1)) (fun (y : Int32 × Ob × Ob) => IvX7 y.2.1 ∧ Kp [] [3] [] o_me y.2.1 ∧ IvX3 y.2.2 ∧ Kp [] [] [] o_me_court_machine y.2.2) := by
    intro N1
    induction N1 with
    | zero =>
      intro v1_1 o_me_1 o_me_court_machine_1 hI_me_1 hkp_me_1 hI_me_court_machine_1 hkp_me_court_machine_1 hh1 hN1
      exact absurd hN1 (Nat.not_lt_zero _)
    | succ N1 ihx =>
      have ih1 := ihx
      intro v1_1 o_me_1 o_me_court_machine_1 hI_me_1 hkp_me_1 hI_me_court_machine_1 hkp_me_court_machine_1 hh1 hN1
      show wp (lb_X7_crownAll_2 o_me_court o_me_court_isles o_me_court_isles_now o_pool  (lp_X7_crownAll_2 o_me_court o_me_court_isles o_me_court_isles_now o_pool  N1) v1_1 o_me_1 o_me_court_machine_1) (fun (y : Int32 × Ob × Ob) => IvX7 y.2.1 ∧ Kp [] [3] [] o_me y.2.1 ∧ IvX3 y.2.2 ∧ Kp [] [] [] o_me_court_machine y.2.2)
      unfold lb_X7_crownAll_2
      refine wp_if (fun c2 => ?_) (fun c2 => ?_)
      · have c2 := cv_ge (a := v1_1.toInt) (b := 4) rfl (by decide) c2
        have t3 := igX2_7 hI_me_court_isles
        have t4 : 1 ≤ ((1 : Int32) <<< ((gI o_me_court_isles 7) &&& 31)).toInt ∧ ((1 : Int32) <<< ((gI o_me_court_isles 7) &&& 31)).toInt ≤ 128 := i32_shl7 (p := gI o_me_court_isles 7) (by omega) (by omega)
        refine wp_lt (fun x5 ex5 => ?_)
        have tx5 : x5.toInt = ((1 : Int32) <<< ((gI o_me_court_isles 7) &&& 31)).toInt := by rw [ex5]
        have lp2 : ∀ (N2 : Nat) (v1_2 : Int32) (v2_2 : Int32) (o_me_2 : Ob) (o_me_court_machine_2 : Ob), IvX7 o_me_2 → Kp [] [3] [] o_me o_me_2 → IvX3 o_me_court_machine_2 → Kp [] [] [] o_me_court_machine o_me_court_machine_2 → (1 ≤ v1_2.toInt ∧ v1_2.toInt ≤ 128) → ((-1) ≤ v2_2.toInt ∧ v2_2.toInt ≤ 4) → (v1_2.toInt ≤ x5.toInt + 0) → (x5.toInt ≤ v1_2.toInt + 0) → (v2_2.toInt - (-1)).toNat < N2 → wp (lp_X7_crownAll_30 o_me_court o_me_court_isles o_me_court_isles_now o_pool  N2 (v1_2, v2_2, o_me_2, o_me_court_machine_2)) (fun (y : Int32 × Ob × Ob) => IvX7 y.2.1 ∧ Kp [] [3] [] o_me y.2.1 ∧ IvX3 y.2.2 ∧ Kp [] [] [] o_me_court_machine y.2.2) := by
          intro N2
          induction N2 with
          | zero =>
            intro v1_2 v2_2 o_me_2 o_me_court_machine_2 hI_me_2 hkp_me_2 hI_me_court_machine_2 hkp_me_court_machine_2 hh6 hh7 hh8 hh9 hN2
            exact absurd hN2 (Nat.not_lt_zero _)
          | succ N2 ihx =>
            have ih2 := ihx
            intro v1_2 v2_2 o_me_2 o_me_court_machine_2 hI_me_2 hkp_me_2 hI_me_court_machine_2 hkp_me_court_machine_2 hh6 hh7 hh8 hh9 hN2
            show wp (lb_X7_crownAll_30 o_me_court o_me_court_isles o_me_court_isles_now o_pool  (lp_X7_crownAll_30 o_me_court o_me_court_isles o_me_court_isles_now o_pool  N2) v1_2 v2_2 o_me_2 o_me_court_machine_2) (fun (y : Int32 × Ob × Ob) => IvX7 y.2.1 ∧ Kp [] [3] [] o_me y.2.1 ∧ IvX3 y.2.2 ∧ Kp [] [] [] o_me_court_machine y.2.2)
            unfold lb_X7_crownAll_30
            refine wp_if (fun c10 => ?_) (fun c10 => ?_)
            · have c10 := cv_lt (a := v2_2.toInt) (b := 0) rfl (by decide) c10
              have lp3 : ∀ (N3 : Nat) (v2_3 : Int32) (v3_3 : Int32) (o_me_3 : Ob) (o_me_court_machine_3 : Ob), IvX7 o_me_3 → Kp [] [3] [] o_me o_me_3 → IvX3 o_me_court_machine_3 → Kp [] [] [] o_me_court_machine o_me_court_machine_3 → (0 ≤ v2_3.toInt ∧ v2_3.toInt ≤ 127) → (0 ≤ v3_3.toInt ∧ v3_3.toInt ≤ 4) → (4 - v3_3.toInt).toNat < N3 → wp (lp_X7_crownAll_92 o_me_court o_me_court_isles o_me_court_isles_now o_pool  N3 (v2_3, v3_3, o_me_3, o_me_court_machine_3)) (fun (y : Int32 × Ob × Ob) => IvX7 y.2.1 ∧ Kp [] [3] [] o_me y.2.1 ∧ IvX3 y.2.2 ∧ Kp [] [] [] o_me_court_machine y.2.2) := by
                intro N3
                induction N3 with
                | zero =>
                  intro v2_3 v3_3 o_me_3 o_me_court_machine_3 hI_me_3 hkp_me_3 hI_me_court_machine_3 hkp_me_court_machine_3 hh11 hh12 hN3
                  exact absurd hN3 (Nat.not_lt_zero _)
                | succ N3 ihx =>
                  have ih3 := ihx
                  intro v2_3 v3_3 o_me_3 o_me_court_machine_3 hI_me_3 hkp_me_3 hI_me_court_machine_3 hkp_me_court_machine_3 hh11 hh12 hN3
                  show wp (lb_X7_crownAll_92 o_me_court o_me_court_isles o_me_court_isles_now o_pool  (lp_X7_crownAll_92 o_me_court o_me_court_isles o_me_court_isles_now o_pool  N3) v2_3 v3_3 o_me_3 o_me_court_machine_3) (fun (y : Int32 × Ob × Ob) => IvX7 y.2.1 ∧ Kp [] [3] [] o_me y.2.1 ∧ IvX3 y.2.2 ∧ Kp [] [] [] o_me_court_machine y.2.2)
                  unfold lb_X7_crownAll_92
                  refine wp_if (fun c13 => ?_) (fun c13 => ?_)
                  · have c13 := cv_ge (a := v3_3.toInt) (b := 4) rfl (by decide) c13
                    refine wp_some ?_
                    exact (show IvX7 o_me_3 ∧ Kp [] [3] [] o_me o_me_3 ∧ IvX3 o_me_court_machine_3 ∧ Kp [] [] [] o_me_court_machine o_me_court_machine_3 from ⟨hI_me_3, hkp_me_3, hI_me_court_machine_3, hkp_me_court_machine_3⟩)
                  · have c13 := cv_nge (a := v3_3.toInt) (b := 4) rfl (by decide) c13
                    refine wp_bd (s_X7_firstCrowned   o_me_3 o_me_court_isles v3_3 v2_3  hI_me_3 hI_me_court_isles  ⟨by omega, by omega⟩ ⟨by omega, by omega⟩) (fun z14 hz14 => ?_)
                    have hz14_0 := hz14
                    refine wp_gd (zin_of (m := 7) rfl (by omega) (by omega)) ?_
                    refine wp_lt (fun o15 eo15 => ?_)
                    have hIo15 : IvX7 o15 := by rw [eo15]; exact ibX7_2 hI_me_3 (by omega) (Or.inr (Or.inr ⟨by omega, by omega⟩))
                    have ko15_v : (gA o15 2 v3_3.toNatClampNeg).toInt = z14.toInt := by rw [eo15]; exact congrArg Int32.toInt (upd_eq (g := gA o_me_3 2) (i := v3_3) (v := z14))
                    have hkpo15 : Kp [] [3] [] o_me o15 := hkp_me_3.trans (by rw [eo15]; exact Kp.tA (by decide) (by decide))
                    refine wp_gd (zin_of (m := 7) rfl (by omega) (by omega)) ?_
                    refine wp_if (fun c16 => ?_) (fun c16 => ?_)
                    · have c16 := cv_eq (a := (gA o15 2 v3_3.toNatClampNeg).toInt) (b := 7) rfl (by decide) c16
                      obtain ⟨w17, ew17⟩ : ∃ z : Int32, z = (0 : Int32) := ⟨_, rfl⟩
                      have tw17 : w17.toInt = 0 := by rw [ew17]; decide
                      rw [show bk_X7_crownAll_133 o_me_court o_me_court_isles o_me_court_isles_now o_pool (lp_X7_crownAll_92 o_me_court o_me_court_isles o_me_court_isles_now o_pool  N3) v3_3 (0 : Int32) v2_3 o15 o_me_court_machine_3 = bk_X7_crownAll_133 o_me_court o_me_court_isles o_me_court_isles_now o_pool (lp_X7_crownAll_92 o_me_court o_me_court_isles o_me_court_isles_now o_pool  N3) v3_3 w17 v2_3 o15 o_me_court_machine_3 from by rw [ew17]]
                      unfold bk_X7_crownAll_133
                      have t18 := i32_or7 (x := v2_3) (y := w17) ⟨by omega, by omega⟩ ⟨by omega, by omega⟩
                      refine wp_lt (fun x19 ex19 => ?_)
                      have tx19 : x19.toInt = (v2_3 ||| w17).toInt := by rw [ex19]
                      refine wp_lt (fun x20 ex20 => ?_)
                      have tx20 : x20.toInt = v3_3.toInt + 1 := by rw [ex20]; exact i32_add rfl (by decide) (by omega) (by omega)
                      exact ih3 x19 x20 o15 o_me_court_machine_3 hIo15 hkpo15 hI_me_court_machine_3 hkp_me_court_machine_3 ⟨by omega, by omega⟩ ⟨by omega, by omega⟩ (by omega)
                    · have c16 := cv_ne (a := (gA o15 2 v3_3.toNatClampNeg).toInt) (b := 7) rfl (by decide) c16
                      refine wp_gd (zin_of (m := 7) rfl (by omega) (by omega)) ?_
                      have t21 : 1 ≤ ((1 : Int32) <<< ((gA o15 2 v3_3.toNatClampNeg) &&& 31)).toInt ∧ ((1 : Int32) <<< ((gA o15 2 v3_3.toNatClampNeg) &&& 31)).toInt ≤ 64 := i32_shl6 (p := gA o15 2 v3_3.toNatClampNeg) (by omega) (by omega)
                      obtain ⟨w22, ew22⟩ : ∃ z : Int32, z = (1 : Int32) <<< ((gA o15 2 v3_3.toNatClampNeg) &&& 31) := ⟨_, rfl⟩
                      have tw22 : w22.toInt = ((1 : Int32) <<< ((gA o15 2 v3_3.toNatClampNeg) &&& 31)).toInt := by rw [ew22]
                      rw [show bk_X7_crownAll_133 o_me_court o_me_court_isles o_me_court_isles_now o_pool (lp_X7_crownAll_92 o_me_court o_me_court_isles o_me_court_isles_now o_pool  N3) v3_3 ((1 : Int32) <<< ((gA o15 2 v3_3.toNatClampNeg) &&& 31)) v2_3 o15 o_me_court_machine_3 = bk_X7_crownAll_133 o_me_court o_me_court_isles o_me_court_isles_now o_pool (lp_X7_crownAll_92 o_me_court o_me_court_isles o_me_court_isles_now o_pool  N3) v3_3 w22 v2_3 o15 o_me_court_machine_3 from by rw [ew22]]
                      unfold bk_X7_crownAll_133
                      have t23 := i32_or7 (x := v2_3) (y := w22) ⟨by omega, by omega⟩ ⟨by omega, by omega⟩
                      refine wp_lt (fun x24 ex24 => ?_)
                      have tx24 : x24.toInt = (v2_3 ||| w22).toInt := by rw [ex24]
                      refine wp_lt (fun x25 ex25 => ?_)
                      have tx25 : x25.toInt = v3_3.toInt + 1 := by rw [ex25]; exact i32_add rfl (by decide) (by omega) (by omega)
                      exact ih3 x24 x25 o15 o_me_court_machine_3 hIo15 hkpo15 hI_me_court_machine_3 hkp_me_court_machine_3 ⟨by omega, by omega⟩ ⟨by omega, by omega⟩ (by omega)
              exact lp3 zfu (0 : Int32) (0 : Int32) o_me_2 o_me_court_machine_2 hI_me_2 hkp_me_2 hI_me_court_machine_2 hkp_me_court_machine_2 ⟨by decide, by decide⟩ ⟨by decide, by decide⟩ (by show _ < 100000; omega)
            · have c10 := cv_nlt (a := v2_2.toInt) (b := 0) rfl (by decide) c10
              have lp4 : ∀ (N4 : Nat) (v1_4 : Int32) (v2_4 : Int32) (v3_4 : Int32) (o_me_4 : Ob) (o_me_court_machine_4 : Ob), IvX7 o_me_4 → Kp [] [3] [] o_me o_me_4 → IvX3 o_me_court_machine_4 → Kp [] [] [] o_me_court_machine o_me_court_machine_4 → (1 ≤ v1_4.toInt ∧ v1_4.toInt ≤ 128) → (0 ≤ v2_4.toInt ∧ v2_4.toInt ≤ 4) → (0 ≤ v3_4.toInt ∧ v3_4.toInt ≤ 128) → (v3_4.toInt ≤ v1_4.toInt + 0) → (v1_4.toInt ≤ x5.toInt + 0) → (x5.toInt ≤ v1_4.toInt + 0) → (v1_4.toInt ≤ v1_2.toInt + 0) → (v1_2.toInt ≤ v1_4.toInt + 0) → (v2_4.toInt ≤ v2_2.toInt + 0) → (v2_2.toInt ≤ v2_4.toInt + 0) → (v3_4.toInt ≤ x5.toInt + 0) → (v3_4.toInt ≤ v1_2.toInt + 0) → (128 - v3_4.toInt).toNat < N4 → wp (lp_X7_crownAll_36 o_me_court o_me_court_isles o_me_court_isles_now o_pool (lp_X7_crownAll_30 o_me_court o_me_court_isles o_me_court_isles_now o_pool  N2) N4 (v1_4, v2_4, v3_4, o_me_4, o_me_court_machine_4)) (fun (y : Int32 × Ob × Ob) => IvX7 y.2.1 ∧ Kp [] [3] [] o_me y.2.1 ∧ IvX3 y.2.2 ∧ Kp [] [] [] o_me_court_machine y.2.2) := by
                intro N4
                induction N4 with
                | zero =>
                  intro v1_4 v2_4 v3_4 o_me_4 o_me_court_machine_4 hI_me_4 hkp_me_4 hI_me_court_machine_4 hkp_me_court_machine_4 hh26 hh27 hh28 hh29 hh30 hh31 hh32 hh33 hh34 hh35 hh36 hh37 hN4
                  exact absurd hN4 (Nat.not_lt_zero _)
                | succ N4 ihx =>
                  have ih4 := ihx
                  intro v1_4 v2_4 v3_4 o_me_4 o_me_court_machine_4 hI_me_4 hkp_me_4 hI_me_court_machine_4 hkp_me_court_machine_4 hh26 hh27 hh28 hh29 hh30 hh31 hh32 hh33 hh34 hh35 hh36 hh37 hN4
                  show wp (lb_X7_crownAll_36 o_me_court o_me_court_isles o_me_court_isles_now o_pool (lp_X7_crownAll_30 o_me_court o_me_court_isles o_me_court_isles_now o_pool  N2) (lp_X7_crownAll_36 o_me_court o_me_court_isles o_me_court_isles_now o_pool (lp_X7_crownAll_30 o_me_court o_me_court_isles o_me_court_isles_now o_pool  N2) N4) v1_4 v2_4 v3_4 o_me_4 o_me_court_machine_4) (fun (y : Int32 × Ob × Ob) => IvX7 y.2.1 ∧ Kp [] [3] [] o_me y.2.1 ∧ IvX3 y.2.2 ∧ Kp [] [] [] o_me_court_machine y.2.2)
                  unfold lb_X7_crownAll_36
                  refine wp_if (fun c38 => ?_) (fun c38 => ?_)
                  · have c38 := cv_ge (a := v3_4.toInt) (b := v1_4.toInt) rfl rfl c38
                    refine wp_lt (fun x39 ex39 => ?_)
                    have tx39 : x39.toInt = v2_4.toInt + (-1) := by rw [ex39]; exact i32_add rfl (by decide) (by omega) (by omega)
                    exact ih2 v1_4 x39 o_me_4 o_me_court_machine_4 hI_me_4 hkp_me_4 hI_me_court_machine_4 hkp_me_court_machine_4 ⟨by omega, by omega⟩ ⟨by omega, by omega⟩ (by omega) (by omega) (by omega)
                  · have c38 := cv_nge (a := v3_4.toInt) (b := v1_4.toInt) rfl rfl c38
                    refine wp_bd (s_J6_bitCount_0f7a4   v3_4    ) (fun z40 hz40 => ?_)
                    have hz40_0 := hz40
                    refine wp_if (fun c41 => ?_) (fun c41 => ?_)
                    · have c41 := cv_gt (a := z40.toInt) (b := v2_4.toInt) rfl rfl c41
                      unfold bk_X7_crownAll_76
                      refine wp_lt (fun x42 ex42 => ?_)
                      have tx42 : x42.toInt = v3_4.toInt + 1 := by rw [ex42]; exact i32_add rfl (by decide) (by omega) (by omega)
                      exact ih4 v1_4 v2_4 x42 o_me_4 o_me_court_machine_4 hI_me_4 hkp_me_4 hI_me_court_machine_4 hkp_me_court_machine_4 ⟨by omega, by omega⟩ ⟨by omega, by omega⟩ ⟨by omega, by omega⟩ (by omega) (by omega) (by omega) (by omega) (by omega) (by omega) (by omega) (by omega) (by omega) (by omega)
                    · have c41 := cv_ngt (a := z40.toInt) (b := v2_4.toInt) rfl rfl c41
                      have t43 : (v2_4 * (128 : Int32)).toInt = v2_4.toInt * 128 := i32_mul rfl (by decide) (by omega) (by omega)
                      have t44 : ((v2_4 * (128 : Int32)) + v3_4).toInt = (v2_4 * (128 : Int32)).toInt + v3_4.toInt := i32_add rfl rfl (by omega) (by omega)
                      refine wp_if (fun c45 => ?_) (fun c45 => ?_)
                      · have c45 := cv_eq (a := v2_4.toInt) (b := 4) rfl (by decide) c45
                        obtain ⟨w46, ew46⟩ : ∃ z : Int32, z = (0 : Int32) := ⟨_, rfl⟩
                        have tw46 : w46.toInt = 0 := by rw [ew46]; decide
                        obtain ⟨w47, ew47⟩ : ∃ z : Int32, z = (v2_4 * (128 : Int32)) + v3_4 := ⟨_, rfl⟩
                        have tw47 : w47.toInt = ((v2_4 * (128 : Int32)) + v3_4).toInt := by rw [ew47]
                        rw [show bk_X7_crownAll_75 o_me_court o_me_court_isles o_me_court_isles_now o_pool (lp_X7_crownAll_30 o_me_court o_me_court_isles o_me_court_isles_now o_pool  N2) (lp_X7_crownAll_36 o_me_court o_me_court_isles o_me_court_isles_now o_pool (lp_X7_crownAll_30 o_me_court o_me_court_isles o_me_court_isles_now o_pool  N2) N4) v1_4 v2_4 v3_4 (0 : Int32) ((v2_4 * (128 : Int32)) + v3_4) o_me_4 o_me_court_machine_4 = bk_X7_crownAll_75 o_me_court o_me_court_isles o_me_court_isles_now o_pool (lp_X7_crownAll_30 o_me_court o_me_court_isles o_me_court_isles_now o_pool  N2) (lp_X7_crownAll_36 o_me_court o_me_court_isles o_me_court_isles_now o_pool (lp_X7_crownAll_30 o_me_court o_me_court_isles o_me_court_isles_now o_pool  N2) N4) v1_4 v2_4 v3_4 w46 w47 o_me_4 o_me_court_machine_4 from by rw [ew46, ew47]]
                        unfold bk_X7_crownAll_75
                        refine wp_gd (zin_of (m := 640) rfl (by omega) (by omega)) ?_
                        refine wp_lt (fun o48 eo48 => ?_)
                        have hIo48 : IvX7 o48 := by rw [eo48]; exact hI_me_4
                        have ko48_v : (gA o48 4 w47.toNatClampNeg).toInt = w46.toInt := by rw [eo48]; exact congrArg Int32.toInt (upd_eq (g := gA o_me_4 4) (i := w47) (v := w46))
                        have hkpo48 : Kp [] [3] [] o_me o48 := hkp_me_4.trans (by rw [eo48]; exact Kp.tA (by decide) (by decide))
                        unfold bk_X7_crownAll_76
                        refine wp_lt (fun x49 ex49 => ?_)
                        have tx49 : x49.toInt = v3_4.toInt + 1 := by rw [ex49]; exact i32_add rfl (by decide) (by omega) (by omega)
                        exact ih4 v1_4 v2_4 x49 o48 o_me_court_machine_4 hIo48 hkpo48 hI_me_court_machine_4 hkp_me_court_machine_4 ⟨by omega, by omega⟩ ⟨by omega, by omega⟩ ⟨by omega, by omega⟩ (by omega) (by omega) (by omega) (by omega) (by omega) (by omega) (by omega) (by omega) (by omega) (by omega)
                      · have c45 := cv_ne (a := v2_4.toInt) (b := 4) rfl (by decide) c45
                        refine wp_bd (s_X7_bestFrom   o_me_4 o_me_court_isles v2_4 v3_4  hI_me_4 hI_me_court_isles  ⟨by omega, by omega⟩ ⟨by omega, by omega⟩) (fun z50 hz50 => ?_)
                        obtain ⟨w51, ew51⟩ : ∃ z : Int32, z = (v2_4 * (128 : Int32)) + v3_4 := ⟨_, rfl⟩
                        have tw51 : w51.toInt = ((v2_4 * (128 : Int32)) + v3_4).toInt := by rw [ew51]
                        rw [show bk_X7_crownAll_75 o_me_court o_me_court_isles o_me_court_isles_now o_pool (lp_X7_crownAll_30 o_me_court o_me_court_isles o_me_court_isles_now o_pool  N2) (lp_X7_crownAll_36 o_me_court o_me_court_isles o_me_court_isles_now o_pool (lp_X7_crownAll_30 o_me_court o_me_court_isles o_me_court_isles_now o_pool  N2) N4) v1_4 v2_4 v3_4 z50 ((v2_4 * (128 : Int32)) + v3_4) o_me_4 o_me_court_machine_4 = bk_X7_crownAll_75 o_me_court o_me_court_isles o_me_court_isles_now o_pool (lp_X7_crownAll_30 o_me_court o_me_court_isles o_me_court_isles_now o_pool  N2) (lp_X7_crownAll_36 o_me_court o_me_court_isles o_me_court_isles_now o_pool (lp_X7_crownAll_30 o_me_court o_me_court_isles o_me_court_isles_now o_pool  N2) N4) v1_4 v2_4 v3_4 z50 w51 o_me_4 o_me_court_machine_4 from by rw [ew51]]
                        unfold bk_X7_crownAll_75
                        refine wp_gd (zin_of (m := 640) rfl (by omega) (by omega)) ?_
                        refine wp_lt (fun o52 eo52 => ?_)
                        have hIo52 : IvX7 o52 := by rw [eo52]; exact hI_me_4
                        have ko52_v : (gA o52 4 w51.toNatClampNeg).toInt = z50.toInt := by rw [eo52]; exact congrArg Int32.toInt (upd_eq (g := gA o_me_4 4) (i := w51) (v := z50))
                        have hkpo52 : Kp [] [3] [] o_me o52 := hkp_me_4.trans (by rw [eo52]; exact Kp.tA (by decide) (by decide))
                        unfold bk_X7_crownAll_76
                        refine wp_lt (fun x53 ex53 => ?_)
                        have tx53 : x53.toInt = v3_4.toInt + 1 := by rw [ex53]; exact i32_add rfl (by decide) (by omega) (by omega)
                        exact ih4 v1_4 v2_4 x53 o52 o_me_court_machine_4 hIo52 hkpo52 hI_me_court_machine_4 hkp_me_court_machine_4 ⟨by omega, by omega⟩ ⟨by omega, by omega⟩ ⟨by omega, by omega⟩ (by omega) (by omega) (by omega) (by omega) (by omega) (by omega) (by omega) (by omega) (by omega) (by omega)
              exact lp4 zfu v1_2 v2_2 (0 : Int32) o_me_2 o_me_court_machine_2 hI_me_2 hkp_me_2 hI_me_court_machine_2 hkp_me_court_machine_2 ⟨by omega, by omega⟩ ⟨by omega, by omega⟩ ⟨by decide, by decide⟩ (by omega) (by omega) (by omega) (by omega) (by omega) (by omega) (by omega) (by omega) (by omega) (by show _ < 100000; omega)
        exact lp2 zfu x5 (4 : Int32) o_me_1 o_me_court_machine_1 hI_me_1 hkp_me_1 hI_me_court_machine_1 hkp_me_court_machine_1 ⟨by omega, by omega⟩ ⟨by decide, by decide⟩ (by omega) (by omega) (by show _ < 100000; omega)
      · have c2 := cv_nge (a := v1_1.toInt) (b := 4) rfl (by decide) c2
        refine wp_bd (s_X7_setScores   o_me_1 o_me_court o_me_court_isles o_me_court_isles_now o_me_court_machine_1 o_pool v1_1  hI_me_1 hI_me_court hI_me_court_isles hI_me_court_isles_now hI_me_court_machine_1 hI_pool  ⟨by omega, by omega⟩) (fun z54 hz54 => ?_)
        obtain ⟨hz54_0, hz54_1, hz54_2, hz54_3⟩ := hz54
        have hkpz54_me : Kp [] [3] [] o_me z54.1 := hkp_me_1.trans (hz54_1.mono (by decide) (by decide) (by decide))
        have hkpz54_me_court_machine : Kp [] [] [] o_me_court_machine z54.2 := hkp_me_court_machine_1.trans (hz54_3.mono (by decide) (by decide) (by decide))
        refine wp_lt (fun x55 ex55 => ?_)
        have tx55 : x55.toInt = v1_1.toInt + 1 := by rw [ex55]; exact i32_add rfl (by decide) (by omega) (by omega)
        exact ih1 x55 z54.1 z54.2 hz54_0 hkpz54_me hz54_2 hkpz54_me_court_machine ⟨by omega, by omega⟩ (by omega)
  exact lp1 zfu (0 : Int32) o_me o_me_court_machine hI_me Kp.rf hI_me_court_machine Kp.rf ⟨by decide, by decide⟩ (by show _ < 100000; omega)

