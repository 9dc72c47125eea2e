set_option maxHeartbeats 4000000 in
set_option maxRecDepth 100000 in
theorem s_X9_begin (o_me : Ob) (hI_me : IvX9 o_me)  : wp (f_X9_begin   o_me) (fun (y : Ob) => IvX9 y ∧ Kp [8, 13, 20, 21, 23, 26, 29, 30, 34, 38, 43, 59, 62] [3, 7, 10, 12, 22, 24, 25, 27, 28, 42, 48, 50, 51, 55] [(3, (0 : Int32))] o_me y ∧ ((gI y 15).toInt ≤ (gI y 13).toInt + 0)) := by
  have li0 : (-1 : Int32).toInt = (-1) := by decide
  have li1 : (0 : Int32).toInt = 0 := by decide
  unfold f_X9_begin
  refine wp_lt (fun o1 eo1 => ?_)
  have hIo1 : IvX9 o1 := by rw [eo1]; exact ipX9_15 hI_me ⟨by decide, by decide⟩
  have ko1_v : (gI o1 15).toInt = 0 := by rw [eo1]; exact (show ((0 : Int32)).toInt = _ from by decide)
  have hkpo1 : Kp [8, 13, 20, 21, 23, 26, 29, 30, 34, 38, 43, 59, 62] [3, 7, 10, 12, 22, 24, 25, 27, 28, 42, 48, 50, 51, 55] [(3, (0 : Int32))] o_me o1 := Kp.rf.trans (by rw [eo1]; exact Kp.sI (by decide))
  refine wp_lt (fun o2 eo2 => ?_)
  have hIo2 : IvX9 o2 := by rw [eo2]; exact ipX9_19 hIo1 ⟨by decide, by decide⟩
  have ko2_k3 : (gI o2 15).toInt = (gI o1 15).toInt := by rw [eo2]; rfl
  have ko2_v : (gI o2 19).toInt = 0 := by rw [eo2]; exact (show ((0 : Int32)).toInt = _ from by decide)
  have hkpo2 : Kp [8, 13, 20, 21, 23, 26, 29, 30, 34, 38, 43, 59, 62] [3, 7, 10, 12, 22, 24, 25, 27, 28, 42, 48, 50, 51, 55] [(3, (0 : Int32))] o_me o2 := hkpo1.trans (by rw [eo2]; exact Kp.sI (by decide))
  refine wp_lt (fun o4 eo4 => ?_)
  have hIo4 : IvX9 o4 := by rw [eo4]; exact hIo2
  have ko4_k5 : (gI o4 15).toInt = (gI o2 15).toInt := by rw [eo4]; rfl
  have ko4_k6 : (gI o4 19).toInt = (gI o2 19).toInt := by rw [eo4]; rfl
  have ko4_v : (gI o4 18).toInt = (-1) := by rw [eo4]; exact (show ((-1 : Int32)).toInt = _ from by decide)
  have hkpo4 : Kp [8, 13, 20, 21, 23, 26, 29, 30, 34, 38, 43, 59, 62] [3, 7, 10, 12, 22, 24, 25, 27, 28, 42, 48, 50, 51, 55] [(3, (0 : Int32))] o_me o4 := hkpo2.trans (by rw [eo4]; exact Kp.sI (by decide))
  have t8 := igX9_13 hIo4
  refine wp_bd (s_X9_next   o4  hIo4  (by omega)) (fun z7 hz7 => ?_)
  obtain ⟨hz7_0, hz7_1, hz7_2⟩ := hz7
  have hkpz7_me : Kp [8, 13, 20, 21, 23, 26, 29, 30, 34, 38, 43, 59, 62] [3, 7, 10, 12, 22, 24, 25, 27, 28, 42, 48, 50, 51, 55] [(3, (0 : Int32))] o_me z7 := hkpo4.trans (hz7_1.mono (by decide) (by decide) (by decide))
  have kz7_k9 : (gI z7 13).toInt = (gI o4 13).toInt := congrArg Int32.toInt (hz7_1.1 13 (by decide))
  have kz7_k10 : (gI z7 19).toInt = (gI o4 19).toInt := congrArg Int32.toInt (hz7_1.1 19 (by decide))
  refine wp_some ?_
  have t11 := igX9_15 hz7_0
  exact (show IvX9 z7 ∧ Kp [8, 13, 20, 21, 23, 26, 29, 30, 34, 38, 43, 59, 62] [3, 7, 10, 12, 22, 24, 25, 27, 28, 42, 48, 50, 51, 55] [(3, (0 : Int32))] o_me z7 ∧ ((gI z7 15).toInt ≤ (gI z7 13).toInt + 0) from ⟨hz7_0, hkpz7_me, (by omega)⟩)

set_option maxHeartbeats 4000000 in
set_option maxRecDepth 100000 in
theorem s_X9_beginText (o_me : Ob) (p0 : Int32) (hI_me : IvX9 o_me) (q0 : 0 ≤ p0.toInt ∧ p0.toInt ≤ 1) : wp (f_X9_beginText   o_me p0) (fun (y : Ob) => IvX9 y ∧ Kp [8, 13, 29, 30, 34, 38, 43, 59, 62] [3, 7, 10, 12, 22, 24, 25, 27, 28, 42, 48, 50, 51, 55] [(3, (0 : Int32))] o_me y ∧ ((gI y 15).toInt ≤ (gI y 13).toInt + 0)) := by
  have li0 : (0 : Int32).toInt = 0 := by decide
  unfold f_X9_beginText
  refine wp_gd (zbo_of (by omega) (by omega)) ?_
  refine wp_lt (fun o1 eo1 => ?_)
  have hIo1 : IvX9 o1 := by rw [eo1]; exact ipX9_20 hI_me ⟨by omega, by omega⟩
  have ko1_v : (gI o1 20).toInt = p0.toInt := by rw [eo1]; rfl
  have hkpo1 : Kp [8, 13, 29, 30, 34, 38, 43, 59, 62] [3, 7, 10, 12, 22, 24, 25, 27, 28, 42, 48, 50, 51, 55] [(3, (0 : Int32))] o_me o1 := Kp.rf.trans (by rw [eo1]; exact Kp.sI (by decide))
  refine wp_bd (s_X9_begin   o1  hIo1  ) (fun z2 hz2 => ?_)
  obtain ⟨hz2_0, hz2_1, hz2_2⟩ := hz2
  have hkpz2_me : Kp [8, 13, 29, 30, 34, 38, 43, 59, 62] [3, 7, 10, 12, 22, 24, 25, 27, 28, 42, 48, 50, 51, 55] [(3, (0 : Int32))] o_me z2 := hkpo1.trans (hz2_1.mono (by decide) (by decide) (by decide))
  have kz2_k3 : (gI z2 20).toInt = (gI o1 20).toInt := congrArg Int32.toInt (hz2_1.1 20 (by decide))
  refine wp_lt (fun o4 eo4 => ?_)
  have hIo4 : IvX9 o4 := by rw [eo4]; exact ipX9_21 hz2_0 ⟨by decide, by decide⟩
  have ko4_k5 : (gI o4 13).toInt = (gI z2 13).toInt := by rw [eo4]; rfl
  have ko4_k6 : (gI o4 15).toInt = (gI z2 15).toInt := by rw [eo4]; rfl
  have ko4_k7 : (gI o4 20).toInt = (gI z2 20).toInt := by rw [eo4]; rfl
  have ko4_v : (gI o4 21).toInt = 0 := by rw [eo4]; exact (show ((0 : Int32)).toInt = _ from by decide)
  have hkpo4 : Kp [8, 13, 29, 30, 34, 38, 43, 59, 62] [3, 7, 10, 12, 22, 24, 25, 27, 28, 42, 48, 50, 51, 55] [(3, (0 : Int32))] o_me o4 := hkpz2_me.trans (by rw [eo4]; exact Kp.sI (by decide))
  refine wp_lt (fun o8 eo8 => ?_)
  have hIo8 : IvX9 o8 := by rw [eo8]; exact ipX9_23 hIo4 ⟨by decide, by decide⟩
  have ko8_k9 : (gI o8 13).toInt = (gI o4 13).toInt := by rw [eo8]; rfl
  have ko8_k10 : (gI o8 15).toInt = (gI o4 15).toInt := by rw [eo8]; rfl
  have ko8_k11 : (gI o8 20).toInt = (gI o4 20).toInt := by rw [eo8]; rfl
  have ko8_k12 : (gI o8 21).toInt = (gI o4 21).toInt := by rw [eo8]; rfl
  have ko8_v : (gI o8 23).toInt = 0 := by rw [eo8]; exact (show ((0 : Int32)).toInt = _ from by decide)
  have hkpo8 : Kp [8, 13, 29, 30, 34, 38, 43, 59, 62] [3, 7, 10, 12, 22, 24, 25, 27, 28, 42, 48, 50, 51, 55] [(3, (0 : Int32))] o_me o8 := hkpo4.trans (by rw [eo8]; exact Kp.sI (by decide))
  refine wp_lt (fun o13 eo13 => ?_)
  have hIo13 : IvX9 o13 := by rw [eo13]; exact ipX9_26 hIo8 ⟨by decide, by decide⟩
  have ko13_k14 : (gI o13 13).toInt = (gI o8 13).toInt := by rw [eo13]; rfl
  have ko13_k15 : (gI o13 15).toInt = (gI o8 15).toInt := by rw [eo13]; rfl
  have ko13_k16 : (gI o13 20).toInt = (gI o8 20).toInt := by rw [eo13]; rfl
  have ko13_k17 : (gI o13 21).toInt = (gI o8 21).toInt := by rw [eo13]; rfl
  have ko13_k18 : (gI o13 23).toInt = (gI o8 23).toInt := by rw [eo13]; rfl
  have ko13_v : (gI o13 26).toInt = 0 := by rw [eo13]; exact (show ((0 : Int32)).toInt = _ from by decide)
  have hkpo13 : Kp [8, 13, 29, 30, 34, 38, 43, 59, 62] [3, 7, 10, 12, 22, 24, 25, 27, 28, 42, 48, 50, 51, 55] [(3, (0 : Int32))] o_me o13 := hkpo8.trans (by rw [eo13]; exact Kp.sI (by decide))
  refine wp_some ?_
  have t19 := igX9_15 hIo13
  have t20 := igX9_13 hIo13
  exact (show IvX9 o13 ∧ Kp [8, 13, 29, 30, 34, 38, 43, 59, 62] [3, 7, 10, 12, 22, 24, 25, 27, 28, 42, 48, 50, 51, 55] [(3, (0 : Int32))] o_me o13 ∧ ((gI o13 15).toInt ≤ (gI o13 13).toInt + 0) from ⟨hIo13, hkpo13, (by omega)⟩)

set_option maxHeartbeats 4000000 in
set_option maxRecDepth 100000 in
theorem s_X9_isSign (o_me : Ob) (p0 : Int32) (hI_me : IvX9 o_me)  : wp (f_X9_isSign   o_me p0) (fun (y : Int32) => (0 ≤ y.toInt ∧ y.toInt ≤ 1)) := by
  have li0 : (0 : Int32).toInt = 0 := by decide
  have li1 : (1 : Int32).toInt = 1 := by decide
  have li2 : (3 : Int32).toInt = 3 := by decide
  unfold f_X9_isSign
  have t1 := igX9_16 hI_me
  refine wp_if (fun c2 => ?_) (fun c2 => ?_)
  · have c2 := cv_eq (a := (gI o_me 16).toInt) (b := 3) rfl (by decide) c2
    have rg3 := i32_rg p0
    have t4 : p0.toInt64.toInt = p0.toInt := Int32.toInt_toInt64 _
    refine wp_if (fun c5 => ?_) (fun c5 => ?_)
    · have c5 := cvl_eq (a := (gL o_me 17).toInt) (b := p0.toInt64.toInt) rfl rfl c5
      refine wp_some ?_
      exact (show (0 ≤ (1 : Int32).toInt ∧ (1 : Int32).toInt ≤ 1) from ⟨by decide, by decide⟩)
    · have c5 := cvl_ne (a := (gL o_me 17).toInt) (b := p0.toInt64.toInt) rfl rfl c5
      refine wp_some ?_
      exact (show (0 ≤ (0 : Int32).toInt ∧ (0 : Int32).toInt ≤ 1) from ⟨by decide, by decide⟩)
  · have c2 := cv_ne (a := (gI o_me 16).toInt) (b := 3) rfl (by decide) c2
    refine wp_some ?_
    exact (show (0 ≤ (0 : Int32).toInt ∧ (0 : Int32).toInt ≤ 1) from ⟨by decide, by decide⟩)

set_option maxHeartbeats 4000000 in
set_option maxRecDepth 100000 in
theorem s_X9_inner (o_me : Ob) (hI_me : IvX9 o_me)  : wp (f_X9_inner   o_me) (fun (y : Int32) => ((-1) ≤ y.toInt ∧ y.toInt ≤ 2147483647)) := by
  have li0 : (-1 : Int32).toInt = (-1) := by decide
  have li1 : (0 : Int32).toInt = 0 := by decide
  have li2 : (31 : Int32).toInt = 31 := by decide
  unfold f_X9_inner
  have lp1 : ∀ (N1 : Nat) (v1_1 : Int32) (v2_1 : Int32), ((-1) ≤ v1_1.toInt ∧ v1_1.toInt ≤ 2147483647) → (0 ≤ v2_1.toInt ∧ v2_1.toInt ≤ 400) → (400 - v2_1.toInt).toNat < N1 → wp (lp_X9_inner_4 o_me  N1 (v1_1, v2_1)) (fun (y : Int32) => ((-1) ≤ y.toInt ∧ y.toInt ≤ 2147483647)) := by
    intro N1
    induction N1 with
    | zero =>
      intro v1_1 v2_1 hh1 hh2 hN1
      exact absurd hN1 (Nat.not_lt_zero _)
    | succ N1 ihx =>
      have ih1 := ihx
      intro v1_1 v2_1 hh1 hh2 hN1
      show wp (lb_X9_inner_4 o_me  (lp_X9_inner_4 o_me  N1) v1_1 v2_1) (fun (y : Int32) => ((-1) ≤ y.toInt ∧ y.toInt ≤ 2147483647))
      unfold lb_X9_inner_4
      have t3 := igX9_29 hI_me
      refine wp_if (fun c4 => ?_) (fun c4 => ?_)
      · have c4 := cv_ge (a := v2_1.toInt) (b := (gI o_me 29).toInt) rfl rfl c4
        refine wp_some ?_
        have rg5 := i32_rg v1_1
        exact (show ((-1) ≤ v1_1.toInt ∧ v1_1.toInt ≤ 2147483647) from ⟨by omega, by omega⟩)
      · have c4 := cv_nge (a := v2_1.toInt) (b := (gI o_me 29).toInt) rfl rfl c4
        refine wp_gd (zin_of (m := 400) rfl (by omega) (by omega)) ?_
        refine wp_if (fun c6 => ?_) (fun c6 => ?_)
        · have c6 := cv_lt (a := (gA o_me 27 v2_1.toNatClampNeg).toInt) (b := 31) rfl (by decide) c6
          unfold bk_X9_inner_33
          refine wp_lt (fun x7 ex7 => ?_)
          have tx7 : x7.toInt = v2_1.toInt + 1 := by rw [ex7]; exact i32_add rfl (by decide) (by omega) (by omega)
          have rg8 := i32_rg v1_1
          exact ih1 v1_1 x7  ⟨by omega, by omega⟩ ⟨by omega, by omega⟩ (by omega)
        · have c6 := cv_nlt (a := (gA o_me 27 v2_1.toNatClampNeg).toInt) (b := 31) rfl (by decide) c6
          refine wp_gd (zin_of (m := 400) rfl (by omega) (by omega)) ?_
          obtain ⟨w9, ew9⟩ : ∃ z : Int32, z = gA o_me 27 v2_1.toNatClampNeg := ⟨_, rfl⟩
          have tw9 : w9.toInt = (gA o_me 27 v2_1.toNatClampNeg).toInt := by rw [ew9]
          rw [show bk_X9_inner_33 o_me (lp_X9_inner_4 o_me  N1) v2_1 (gA o_me 27 v2_1.toNatClampNeg) = bk_X9_inner_33 o_me (lp_X9_inner_4 o_me  N1) v2_1 w9 from by rw [ew9]]
          unfold bk_X9_inner_33
          refine wp_lt (fun x10 ex10 => ?_)
          have tx10 : x10.toInt = v2_1.toInt + 1 := by rw [ex10]; exact i32_add rfl (by decide) (by omega) (by omega)
          have rg11 := i32_rg w9
          exact ih1 w9 x10  ⟨by omega, by omega⟩ ⟨by omega, by omega⟩ (by omega)
  exact lp1 zfu (-1 : Int32) (0 : Int32)  ⟨by decide, by decide⟩ ⟨by decide, by decide⟩ (by show _ < 100000; omega)

set_option maxHeartbeats 4000000 in
set_option maxRecDepth 100000 in
theorem s_X9_isCompared (o_me : Ob) (hI_me : IvX9 o_me)  : wp (f_X9_isCompared   o_me) (fun (y : Int32) => (0 ≤ y.toInt ∧ y.toInt ≤ 1)) := by
  have li0 : (0 : Int32).toInt = 0 := by decide
  have li1 : (1 : Int32).toInt = 1 := by decide
  have li2 : (20 : Int64).toInt = 20 := by decide
  have li3 : (24 : Int64).toInt = 24 := by decide
  have li4 : (25 : Int64).toInt = 25 := by decide
  have li5 : (27 : Int64).toInt = 27 := by decide
  unfold f_X9_isCompared
  have t1 := igX9_29 hI_me
  have t2 : ((gI o_me 29) - (1 : Int32)).toInt = (gI o_me 29).toInt - 1 := i32_sub rfl (by decide) (by omega) (by omega)
  refine wp_lt (fun x3 ex3 => ?_)
  have tx3 : x3.toInt = ((gI o_me 29) - (1 : Int32)).toInt := by rw [ex3]
  have lp1 : ∀ (N1 : Nat) (v1_1 : Int32), ((-1) ≤ v1_1.toInt ∧ v1_1.toInt ≤ 399) → (v1_1.toInt ≤ x3.toInt + 0) → (v1_1.toInt ≤ (gI o_me 29).toInt + (-1)) → (v1_1.toInt - (-1)).toNat < N1 → wp (lp_X9_isCompared_7 o_me  N1 v1_1) (fun (y : Int32) => (0 ≤ y.toInt ∧ y.toInt ≤ 1)) := by
    intro N1
    induction N1 with
    | zero =>
      intro v1_1 hh4 hh5 hh6 hN1
      exact absurd hN1 (Nat.not_lt_zero _)
    | succ N1 ihx =>
      have ih1 := ihx
      intro v1_1 hh4 hh5 hh6 hN1
      show wp (lb_X9_isCompared_7 o_me  (lp_X9_isCompared_7 o_me  N1) v1_1) (fun (y : Int32) => (0 ≤ y.toInt ∧ y.toInt ≤ 1))
      unfold lb_X9_isCompared_7
      refine wp_if (fun c7 => ?_) (fun c7 => ?_)
      · have c7 := cv_lt (a := v1_1.toInt) (b := 0) rfl (by decide) c7
        unfold bk_X9_isCompared_36
        refine wp_if (fun c8 => ?_) (fun c8 => ?_)
        · have c8 := cv_lt (a := v1_1.toInt) (b := 0) rfl (by decide) c8
          refine wp_some ?_
          exact (show (0 ≤ (0 : Int32).toInt ∧ (0 : Int32).toInt ≤ 1) from ⟨by decide, by decide⟩)
        · have c8 := cv_nlt (a := v1_1.toInt) (b := 0) rfl (by decide) c8
          exfalso; omega
      · have c7 := cv_nlt (a := v1_1.toInt) (b := 0) rfl (by decide) c7
        refine wp_gd (zin_of (m := 400) rfl (by omega) (by omega)) ?_
        have rg9 := i32_rg (gA o_me 27 v1_1.toNatClampNeg)
        have t10 : ((gA o_me 27 v1_1.toNatClampNeg).toInt64).toInt = (gA o_me 27 v1_1.toNatClampNeg).toInt := Int32.toInt_toInt64 _
        refine wp_bd (s_X9_in   ((gA o_me 27 v1_1.toNatClampNeg).toInt64) (20 : Int64) (24 : Int64)    ) (fun z11 hz11 => ?_)
        obtain ⟨hz11_0, hz11_1⟩ := hz11
        refine wp_if (fun c12 => ?_) (fun c12 => ?_)
        · have c12 := cv_eq (a := z11.toInt) (b := 0) rfl (by decide) c12
          unfold bk_X9_isCompared_36
          refine wp_if (fun c13 => ?_) (fun c13 => ?_)
          · have c13 := cv_lt (a := v1_1.toInt) (b := 0) rfl (by decide) c13
            exfalso; omega
          · have c13 := cv_nlt (a := v1_1.toInt) (b := 0) rfl (by decide) c13
            refine wp_gd (zin_of (m := 400) rfl (by omega) (by omega)) ?_
            have t14 : ((gA o_me 27 v1_1.toNatClampNeg).toInt64).toInt = (gA o_me 27 v1_1.toNatClampNeg).toInt := Int32.toInt_toInt64 _
            refine wp_bd (s_X9_in   ((gA o_me 27 v1_1.toNatClampNeg).toInt64) (25 : Int64) (27 : Int64)    ) (fun z15 hz15 => ?_)
            obtain ⟨hz15_0, hz15_1⟩ := hz15
            refine wp_if (fun c16 => ?_) (fun c16 => ?_)
            · have c16 := cv_eq (a := z15.toInt) (b := 0) rfl (by decide) c16
              refine wp_some ?_
              exact (show (0 ≤ (0 : Int32).toInt ∧ (0 : Int32).toInt ≤ 1) from ⟨by decide, by decide⟩)
            · have c16z := c16
              have c16i := hz15_1 c16
              have c16 := cv_ne (a := z15.toInt) (b := 0) rfl (by decide) c16
              refine wp_some ?_
              exact (show (0 ≤ (1 : Int32).toInt ∧ (1 : Int32).toInt ≤ 1) from ⟨by decide, by decide⟩)
        · have c12z := c12
          have c12i := hz11_1 c12
          have c12 := cv_ne (a := z11.toInt) (b := 0) rfl (by decide) c12
          refine wp_lt (fun x17 ex17 => ?_)
          have tx17 : x17.toInt = v1_1.toInt + (-1) := by rw [ex17]; exact i32_add rfl (by decide) (by omega) (by omega)
          exact ih1 x17  ⟨by omega, by omega⟩ (by omega) (by omega) (by omega)
  exact lp1 zfu x3  ⟨by omega, by omega⟩ (by omega) (by omega) (by show _ < 100000; omega)

set_option maxHeartbeats 4000000 in
set_option maxRecDepth 100000 in
theorem s_X9_must (o_me : Ob) (p0 : Int32) (hI_me : IvX9 o_me) (q0 : 0 ≤ p0.toInt ∧ p0.toInt ≤ 1) (r0 : (gI o_me 15).toInt ≤ (gI o_me 13).toInt + 0) : wp (f_X9_must   o_me p0) (fun (y : Ob) => IvX9 y ∧ Kp [8, 13, 20, 21, 23, 26, 29, 30, 34, 38, 43, 59, 62] [3, 7, 10, 12, 22, 24, 25, 27, 28, 42, 48, 50, 51, 55] [(3, (0 : Int32))] o_me y ∧ ((gI y 15).toInt ≤ (gI y 13).toInt + 0)) := by
  have li0 : (1 : Int32).toInt = 1 := by decide
  unfold f_X9_must
  have t1 := igX9_19 hI_me
  refine wp_if (fun c2 => ?_) (fun c2 => ?_)
  · have c2 := cv_eq (a := (gI o_me 19).toInt) (b := 0) rfl (by decide) c2
    refine wp_if (fun c3 => ?_) (fun c3 => ?_)
    · have c3 := cv_eq (a := p0.toInt) (b := 0) rfl (by decide) c3
      refine wp_lt (fun o4 eo4 => ?_)
      have hIo4 : IvX9 o4 := by rw [eo4]; exact ipX9_19 hI_me ⟨by decide, by decide⟩
      have ko4_k5 : (gI o4 13).toInt = (gI o_me 13).toInt := by rw [eo4]; rfl
      have ko4_k6 : (gI o4 15).toInt = (gI o_me 15).toInt := by rw [eo4]; rfl
      have ko4_v : (gI o4 19).toInt = 1 := by rw [eo4]; exact (show ((1 : Int32)).toInt = _ from by decide)
      have hkpo4 : Kp [8, 13, 20, 21, 23, 26, 29, 30, 34, 38, 43, 59, 62] [3, 7, 10, 12, 22, 24, 25, 27, 28, 42, 48, 50, 51, 55] [(3, (0 : Int32))] o_me o4 := Kp.rf.trans (by rw [eo4]; exact Kp.sI (by decide))
      have t7 := igX9_14 hIo4
      refine wp_lt (fun o8 eo8 => ?_)
      have hIo8 : IvX9 o8 := by rw [eo8]; exact hIo4
      have ko8_k9 : (gI o8 13).toInt = (gI o4 13).toInt := by rw [eo8]; rfl
      have ko8_k10 : (gI o8 14).toInt = (gI o4 14).toInt := by rw [eo8]; rfl
      have ko8_k11 : (gI o8 15).toInt = (gI o4 15).toInt := by rw [eo8]; rfl
      have ko8_k12 : (gI o8 19).toInt = (gI o4 19).toInt := by rw [eo8]; rfl
      have ko8_v : (gI o8 18).toInt = (gI o4 14).toInt := by rw [eo8]; rfl
      have hkpo8 : Kp [8, 13, 20, 21, 23, 26, 29, 30, 34, 38, 43, 59, 62] [3, 7, 10, 12, 22, 24, 25, 27, 28, 42, 48, 50, 51, 55] [(3, (0 : Int32))] o_me o8 := hkpo4.trans (by rw [eo8]; exact Kp.sI (by decide))
      unfold bk_X9_must_24
      refine wp_if (fun c13 => ?_) (fun c13 => ?_)
      · have c13 := cv_eq (a := (gI o8 19).toInt) (b := 0) rfl (by decide) c13
        exfalso; omega
      · have c13z := c13
        have c13 := cv_ne (a := (gI o8 19).toInt) (b := 0) rfl (by decide) c13
        refine wp_some ?_
        have t14 := igX9_15 hIo8
        have t15 := igX9_13 hIo8
        exact (show IvX9 o8 ∧ Kp [8, 13, 20, 21, 23, 26, 29, 30, 34, 38, 43, 59, 62] [3, 7, 10, 12, 22, 24, 25, 27, 28, 42, 48, 50, 51, 55] [(3, (0 : Int32))] o_me o8 ∧ ((gI o8 15).toInt ≤ (gI o8 13).toInt + 0) from ⟨hIo8, hkpo8, (by omega)⟩)
    · have c3z := c3
      have c3 := cv_ne (a := p0.toInt) (b := 0) rfl (by decide) c3
      unfold bk_X9_must_24
      refine wp_if (fun c16 => ?_) (fun c16 => ?_)
      · have c16 := cv_eq (a := (gI o_me 19).toInt) (b := 0) rfl (by decide) c16
        have t18 := igX9_15 hI_me
        have t19 := igX9_13 hI_me
        refine wp_bd (s_X9_next   o_me  hI_me  (by omega)) (fun z17 hz17 => ?_)
        obtain ⟨hz17_0, hz17_1, hz17_2⟩ := hz17
        have hkpz17_me : Kp [8, 13, 20, 21, 23, 26, 29, 30, 34, 38, 43, 59, 62] [3, 7, 10, 12, 22, 24, 25, 27, 28, 42, 48, 50, 51, 55] [(3, (0 : Int32))] o_me z17 := Kp.rf.trans (hz17_1.mono (by decide) (by decide) (by decide))
        have kz17_k20 : (gI z17 13).toInt = (gI o_me 13).toInt := congrArg Int32.toInt (hz17_1.1 13 (by decide))
        have kz17_k21 : (gI z17 19).toInt = (gI o_me 19).toInt := congrArg Int32.toInt (hz17_1.1 19 (by decide))
        refine wp_some ?_
        have t22 := igX9_15 hz17_0
        exact (show IvX9 z17 ∧ Kp [8, 13, 20, 21, 23, 26, 29, 30, 34, 38, 43, 59, 62] [3, 7, 10, 12, 22, 24, 25, 27, 28, 42, 48, 50, 51, 55] [(3, (0 : Int32))] o_me z17 ∧ ((gI z17 15).toInt ≤ (gI z17 13).toInt + 0) from ⟨hz17_0, hkpz17_me, (by omega)⟩)
      · have c16z := c16
        have c16 := cv_ne (a := (gI o_me 19).toInt) (b := 0) rfl (by decide) c16
        exfalso; omega
  · have c2z := c2
    have c2 := cv_ne (a := (gI o_me 19).toInt) (b := 0) rfl (by decide) c2
    unfold bk_X9_must_24
    refine wp_if (fun c23 => ?_) (fun c23 => ?_)
    · have c23 := cv_eq (a := (gI o_me 19).toInt) (b := 0) rfl (by decide) c23
      exfalso; omega
    · have c23z := c23
      have c23 := cv_ne (a := (gI o_me 19).toInt) (b := 0) rfl (by decide) c23
      refine wp_some ?_
      have t24 := igX9_15 hI_me
      have t25 := igX9_13 hI_me
      exact (show IvX9 o_me ∧ Kp [8, 13, 20, 21, 23, 26, 29, 30, 34, 38, 43, 59, 62] [3, 7, 10, 12, 22, 24, 25, 27, 28, 42, 48, 50, 51, 55] [(3, (0 : Int32))] o_me o_me ∧ ((gI o_me 15).toInt ≤ (gI o_me 13).toInt + 0) from ⟨hI_me, Kp.rf, (by omega)⟩)

set_option maxHeartbeats 4000000 in
set_option maxRecDepth 100000 in
theorem s_X9_binds (p0 : Int32)   : wp (f_X9_binds   p0) (fun (y : Int32) => (0 ≤ y.toInt ∧ y.toInt ≤ 6)) := by
  have li0 : (0 : Int32).toInt = 0 := by decide
  have li1 : (1 : Int32).toInt = 1 := by decide
  have li2 : (2 : Int32).toInt = 2 := by decide
  have li3 : (22 : Int32).toInt = 22 := by decide
  have li4 : (25 : Int32).toInt = 25 := by decide
  have li5 : (28 : Int32).toInt = 28 := by decide
  have li6 : (29 : Int32).toInt = 29 := by decide
  have li7 : (3 : Int32).toInt = 3 := by decide
  have li8 : (30 : Int32).toInt = 30 := by decide
  have li9 : (31 : Int32).toInt = 31 := by decide
  have li10 : (4 : Int32).toInt = 4 := by decide
  have li11 : (5 : Int32).toInt = 5 := by decide
  have li12 : (6 : Int32).toInt = 6 := by decide
  unfold f_X9_binds
  refine wp_if (fun c1 => ?_) (fun c1 => ?_)
  · have c1 := cv_lt (a := p0.toInt) (b := 31) rfl (by decide) c1
    refine wp_if (fun c2 => ?_) (fun c2 => ?_)
    · have c2 := cv_eq (a := p0.toInt) (b := 30) rfl (by decide) c2
      refine wp_some ?_
      exact (show (0 ≤ (1 : Int32).toInt ∧ (1 : Int32).toInt ≤ 6) from ⟨by decide, by decide⟩)
    · have c2 := cv_ne (a := p0.toInt) (b := 30) rfl (by decide) c2
      refine wp_if (fun c3 => ?_) (fun c3 => ?_)
      · have c3 := cv_eq (a := p0.toInt) (b := 29) rfl (by decide) c3
        refine wp_some ?_
        exact (show (0 ≤ (2 : Int32).toInt ∧ (2 : Int32).toInt ≤ 6) from ⟨by decide, by decide⟩)
      · have c3 := cv_ne (a := p0.toInt) (b := 29) rfl (by decide) c3
        refine wp_if (fun c4 => ?_) (fun c4 => ?_)
        · have c4 := cv_eq (a := p0.toInt) (b := 28) rfl (by decide) c4
          refine wp_some ?_
          exact (show (0 ≤ (3 : Int32).toInt ∧ (3 : Int32).toInt ≤ 6) from ⟨by decide, by decide⟩)
        · have c4 := cv_ne (a := p0.toInt) (b := 28) rfl (by decide) c4
          refine wp_if (fun c5 => ?_) (fun c5 => ?_)
          · have c5 := cv_lt (a := p0.toInt) (b := 25) rfl (by decide) c5
            refine wp_if (fun c6 => ?_) (fun c6 => ?_)
            · have c6 := cv_lt (a := p0.toInt) (b := 22) rfl (by decide) c6
              refine wp_some ?_
              exact (show (0 ≤ (5 : Int32).toInt ∧ (5 : Int32).toInt ≤ 6) from ⟨by decide, by decide⟩)
            · have c6 := cv_nlt (a := p0.toInt) (b := 22) rfl (by decide) c6
              refine wp_some ?_
              exact (show (0 ≤ (6 : Int32).toInt ∧ (6 : Int32).toInt ≤ 6) from ⟨by decide, by decide⟩)
          · have c5 := cv_nlt (a := p0.toInt) (b := 25) rfl (by decide) c5
            refine wp_some ?_
            exact (show (0 ≤ (4 : Int32).toInt ∧ (4 : Int32).toInt ≤ 6) from ⟨by decide, by decide⟩)
  · have c1 := cv_nlt (a := p0.toInt) (b := 31) rfl (by decide) c1
    refine wp_some ?_
    exact (show (0 ≤ (0 : Int32).toInt ∧ (0 : Int32).toInt ≤ 6) from ⟨by decide, by decide⟩)

set_option maxHeartbeats 4000000 in
set_option maxRecDepth 100000 in
theorem s_X9_isWord (o_me : Ob) (p0 : Int64) (hI_me : IvX9 o_me)  : wp (f_X9_isWord   o_me p0) (fun (y : Int32) => (0 ≤ y.toInt ∧ y.toInt ≤ 1)) := by
  have li0 : (0 : Int32).toInt = 0 := by decide
  have li1 : (1 : Int32).toInt = 1 := by decide
  unfold f_X9_isWord
  have t1 := igX9_16 hI_me
  refine wp_if (fun c2 => ?_) (fun c2 => ?_)
  · have c2 := cv_eq (a := (gI o_me 16).toInt) (b := 1) rfl (by decide) c2
    refine wp_if (fun c3 => ?_) (fun c3 => ?_)
    · have c3 := cvl_eq (a := (gL o_me 17).toInt) (b := p0.toInt) rfl rfl c3
      refine wp_some ?_
      exact (show (0 ≤ (1 : Int32).toInt ∧ (1 : Int32).toInt ≤ 1) from ⟨by decide, by decide⟩)
    · have c3 := cvl_ne (a := (gL o_me 17).toInt) (b := p0.toInt) rfl rfl c3
      refine wp_some ?_
      exact (show (0 ≤ (0 : Int32).toInt ∧ (0 : Int32).toInt ≤ 1) from ⟨by decide, by decide⟩)
  · have c2 := cv_ne (a := (gI o_me 16).toInt) (b := 1) rfl (by decide) c2
    refine wp_some ?_
    exact (show (0 ≤ (0 : Int32).toInt ∧ (0 : Int32).toInt ≤ 1) from ⟨by decide, by decide⟩)

set_option maxHeartbeats 4000000 in
set_option maxRecDepth 100000 in
theorem s_X9_blots (o_me : Ob) (hI_me : IvX9 o_me)  : wp (f_X9_blots   o_me) (fun (y : Int32 × Ob) => IvX9 y.2 ∧ Kp [8, 13, 14, 15, 16, 19, 20, 21, 23, 26, 29, 30, 34, 38, 43, 59, 62] [3, 7, 10, 12, 22, 24, 25, 27, 28, 42, 48, 50, 51, 55] [(3, (0 : Int32))] o_me y.2) := by
  have li0 : (0 : Int32).toInt = 0 := by decide
  unfold f_X9_blots
  refine wp_lt (fun o1 eo1 => ?_)
  have hIo1 : IvX9 o1 := by rw [eo1]; exact hI_me
  have ko1_v : (gI o1 0).toInt = 0 := by rw [eo1]; exact (show ((0 : Int32)).toInt = _ from by decide)
  have hkpo1 : Kp [8, 13, 14, 15, 16, 19, 20, 21, 23, 26, 29, 30, 34, 38, 43, 59, 62] [3, 7, 10, 12, 22, 24, 25, 27, 28, 42, 48, 50, 51, 55] [(3, (0 : Int32))] o_me o1 := Kp.rf.trans (by rw [eo1]; exact Kp.sI (by decide))
  refine wp_some ?_
  exact (show IvX9 o1 ∧ Kp [8, 13, 14, 15, 16, 19, 20, 21, 23, 26, 29, 30, 34, 38, 43, 59, 62] [3, 7, 10, 12, 22, 24, 25, 27, 28, 42, 48, 50, 51, 55] [(3, (0 : Int32))] o_me o1 from ⟨hIo1, hkpo1⟩)

set_option maxHeartbeats 4000000 in
set_option maxRecDepth 100000 in
theorem s_X9_thatCanBe (o_me : Ob) (hI_me : IvX9 o_me) (q0 : 0 ≤ (gI o_me 20).toInt ∧ (gI o_me 20).toInt ≤ 0) : wp (f_X9_thatCanBe   o_me) (fun (y : Int32 × Ob) => (0 ≤ y.1.toInt ∧ y.1.toInt ≤ 127) ∧ IvX9 y.2 ∧ Kp [8, 13, 14, 15, 16, 19, 20, 21, 23, 26, 29, 30, 43, 59, 62] [3, 7, 10, 12, 22, 24, 25, 27, 28, 42, 48, 50, 51, 55] [(3, (0 : Int32))] o_me y.2) := by
  have li0 : (0 : Int32).toInt = 0 := by decide
  have li1 : (1 : Int32).toInt = 1 := by decide
  have li2 : (2 : Int32).toInt = 2 := by decide
  have li3 : (71 : Int32).toInt = 71 := by decide
  unfold f_X9_thatCanBe
  have lp1 : ∀ (N1 : Nat) (v1_1 : Int32) (v2_1 : Int32) (o_me_1 : Ob), IvX9 o_me_1 → Kp [8, 13, 14, 15, 16, 19, 20, 21, 23, 26, 29, 30, 43, 59, 62] [3, 7, 10, 12, 22, 24, 25, 27, 28, 42, 48, 50, 51, 55] [(3, (0 : Int32))] o_me o_me_1 → (0 ≤ v1_1.toInt ∧ v1_1.toInt ≤ 127) → (0 ≤ v2_1.toInt ∧ v2_1.toInt ≤ 7) → (0 ≤ (gI o_me_1 20).toInt ∧ (gI o_me_1 20).toInt ≤ 0) → (7 - v2_1.toInt).toNat < N1 → wp (lp_X9_thatCanBe_4   N1 (v1_1, v2_1, o_me_1)) (fun (y : Int32 × Ob) => (0 ≤ y.1.toInt ∧ y.1.toInt ≤ 127) ∧ IvX9 y.2 ∧ Kp [8, 13, 14, 15, 16, 19, 20, 21, 23, 26, 29, 30, 43, 59, 62] [3, 7, 10, 12, 22, 24, 25, 27, 28, 42, 48, 50, 51, 55] [(3, (0 : Int32))] o_me y.2) := by
    intro N1
    induction N1 with
    | zero =>
      intro v1_1 v2_1 o_me_1 hI_me_1 hkp_me_1 hh2 hh3 hh4 hN1
      exact absurd hN1 (Nat.not_lt_zero _)
    | succ N1 ihx =>
      have ih1 := ihx
      intro v1_1 v2_1 o_me_1 hI_me_1 hkp_me_1 hh2 hh3 hh4 hN1
      show wp (lb_X9_thatCanBe_4   (lp_X9_thatCanBe_4   N1) v1_1 v2_1 o_me_1) (fun (y : Int32 × Ob) => (0 ≤ y.1.toInt ∧ y.1.toInt ≤ 127) ∧ IvX9 y.2 ∧ Kp [8, 13, 14, 15, 16, 19, 20, 21, 23, 26, 29, 30, 43, 59, 62] [3, 7, 10, 12, 22, 24, 25, 27, 28, 42, 48, 50, 51, 55] [(3, (0 : Int32))] o_me y.2)
      unfold lb_X9_thatCanBe_4
      have kc5 : (gA o_me_1 3 (0 : Int32).toNatClampNeg).toInt = (gA o_me 3 (0 : Int32).toNatClampNeg).toInt := congrArg Int32.toInt (hkp_me_1.2.2 (3, (0 : Int32)) (by decide))
      have t6 := iaX9_3_0 hI_me_1 (j := (0 : Int32)) (by decide) (by decide)
      refine wp_if (fun c7 => ?_) (fun c7 => ?_)
      · have c7 := cv_ge (a := v2_1.toInt) (b := (gA o_me_1 3 (0 : Int32).toNatClampNeg).toInt) rfl rfl c7
        refine wp_some ?_
        exact (show (0 ≤ v1_1.toInt ∧ v1_1.toInt ≤ 127) ∧ IvX9 o_me_1 ∧ Kp [8, 13, 14, 15, 16, 19, 20, 21, 23, 26, 29, 30, 43, 59, 62] [3, 7, 10, 12, 22, 24, 25, 27, 28, 42, 48, 50, 51, 55] [(3, (0 : Int32))] o_me o_me_1 from ⟨⟨by omega, by omega⟩, hI_me_1, hkp_me_1⟩)
      · have c7 := cv_nge (a := v2_1.toInt) (b := (gA o_me_1 3 (0 : Int32).toNatClampNeg).toInt) rfl rfl c7
        have lp2 : ∀ (N2 : Nat) (v1_2 : Int32) (v2_2 : Int32) (v3_2 : Int32) (v4_2 : Int32) (o_me_2 : Ob), IvX9 o_me_2 → Kp [8, 13, 14, 15, 16, 19, 20, 21, 23, 26, 29, 30, 43, 59, 62] [3, 7, 10, 12, 22, 24, 25, 27, 28, 42, 48, 50, 51, 55] [(3, (0 : Int32))] o_me o_me_2 → (0 ≤ v1_2.toInt ∧ v1_2.toInt ≤ 127) → (0 ≤ v2_2.toInt ∧ v2_2.toInt ≤ 6) → (0 ≤ v3_2.toInt ∧ v3_2.toInt ≤ 1) → (0 ≤ v4_2.toInt ∧ v4_2.toInt ≤ 6) → (0 ≤ (gI o_me_2 20).toInt ∧ (gI o_me_2 20).toInt ≤ 0) → (v1_2.toInt ≤ v1_1.toInt + 0) → (v1_1.toInt ≤ v1_2.toInt + 0) → (v2_2.toInt ≤ v2_1.toInt + 0) → (v2_1.toInt ≤ v2_2.toInt + 0) → (6 - v4_2.toInt).toNat < N2 → wp (lp_X9_thatCanBe_19  (lp_X9_thatCanBe_4   N1) N2 (v1_2, v2_2, v3_2, v4_2, o_me_2)) (fun (y : Int32 × Ob) => (0 ≤ y.1.toInt ∧ y.1.toInt ≤ 127) ∧ IvX9 y.2 ∧ Kp [8, 13, 14, 15, 16, 19, 20, 21, 23, 26, 29, 30, 43, 59, 62] [3, 7, 10, 12, 22, 24, 25, 27, 28, 42, 48, 50, 51, 55] [(3, (0 : Int32))] o_me y.2) := by
          intro N2
          induction N2 with
          | zero =>
            intro v1_2 v2_2 v3_2 v4_2 o_me_2 hI_me_2 hkp_me_2 hh9 hh10 hh11 hh12 hh13 hh14 hh15 hh16 hh17 hN2
            exact absurd hN2 (Nat.not_lt_zero _)
          | succ N2 ihx =>
            have ih2 := ihx
            intro v1_2 v2_2 v3_2 v4_2 o_me_2 hI_me_2 hkp_me_2 hh9 hh10 hh11 hh12 hh13 hh14 hh15 hh16 hh17 hN2
            show wp (lb_X9_thatCanBe_19  (lp_X9_thatCanBe_4   N1) (lp_X9_thatCanBe_19  (lp_X9_thatCanBe_4   N1) N2) v1_2 v2_2 v3_2 v4_2 o_me_2) (fun (y : Int32 × Ob) => (0 ≤ y.1.toInt ∧ y.1.toInt ≤ 127) ∧ IvX9 y.2 ∧ Kp [8, 13, 14, 15, 16, 19, 20, 21, 23, 26, 29, 30, 43, 59, 62] [3, 7, 10, 12, 22, 24, 25, 27, 28, 42, 48, 50, 51, 55] [(3, (0 : Int32))] o_me y.2)
            unfold lb_X9_thatCanBe_19
            have t18 := iaX9_3_1 hI_me_2 (j := (1 : Int32)) (by decide) (by decide)
            refine wp_if (fun c19 => ?_) (fun c19 => ?_)
            · have c19 := cv_ge (a := v4_2.toInt) (b := (gA o_me_2 3 (1 : Int32).toNatClampNeg).toInt) rfl rfl c19
              unfold bk_X9_thatCanBe_80
              refine wp_if (fun c20 => ?_) (fun c20 => ?_)
              · have c20 := cv_eq (a := v3_2.toInt) (b := 0) rfl (by decide) c20
                obtain ⟨w21, ew21⟩ : ∃ z : Int32, z = (0 : Int32) := ⟨_, rfl⟩
                have tw21 : w21.toInt = 0 := by rw [ew21]; decide
                rw [show bk_X9_thatCanBe_92  (lp_X9_thatCanBe_4   N1) v2_2 (0 : Int32) v1_2 o_me_2 = bk_X9_thatCanBe_92  (lp_X9_thatCanBe_4   N1) v2_2 w21 v1_2 o_me_2 from by rw [ew21]]
                unfold bk_X9_thatCanBe_92
                have t22 := i32_or7 (x := v1_2) (y := w21) ⟨by omega, by omega⟩ ⟨by omega, by omega⟩
                refine wp_lt (fun x23 ex23 => ?_)
                have tx23 : x23.toInt = (v1_2 ||| w21).toInt := by rw [ex23]
                refine wp_lt (fun x24 ex24 => ?_)
                have tx24 : x24.toInt = v2_2.toInt + 1 := by rw [ex24]; exact i32_add rfl (by decide) (by omega) (by omega)
                exact ih1 x23 x24 o_me_2 hI_me_2 hkp_me_2 ⟨by omega, by omega⟩ ⟨by omega, by omega⟩ ⟨by omega, by omega⟩ (by omega)
              · have c20z := c20
                have c20 := cv_ne (a := v3_2.toInt) (b := 0) rfl (by decide) c20
                have t25 : 1 ≤ ((1 : Int32) <<< (v2_2 &&& 31)).toInt ∧ ((1 : Int32) <<< (v2_2 &&& 31)).toInt ≤ 64 := i32_shl6 (p := v2_2) (by omega) (by omega)
                obtain ⟨w26, ew26⟩ : ∃ z : Int32, z = (1 : Int32) <<< (v2_2 &&& 31) := ⟨_, rfl⟩
                have tw26 : w26.toInt = ((1 : Int32) <<< (v2_2 &&& 31)).toInt := by rw [ew26]
                rw [show bk_X9_thatCanBe_92  (lp_X9_thatCanBe_4   N1) v2_2 ((1 : Int32) <<< (v2_2 &&& 31)) v1_2 o_me_2 = bk_X9_thatCanBe_92  (lp_X9_thatCanBe_4   N1) v2_2 w26 v1_2 o_me_2 from by rw [ew26]]
                unfold bk_X9_thatCanBe_92
                have t27 := i32_or7 (x := v1_2) (y := w26) ⟨by omega, by omega⟩ ⟨by omega, by omega⟩
                refine wp_lt (fun x28 ex28 => ?_)
                have tx28 : x28.toInt = (v1_2 ||| w26).toInt := by rw [ex28]
                refine wp_lt (fun x29 ex29 => ?_)
                have tx29 : x29.toInt = v2_2.toInt + 1 := by rw [ex29]; exact i32_add rfl (by decide) (by omega) (by omega)
                exact ih1 x28 x29 o_me_2 hI_me_2 hkp_me_2 ⟨by omega, by omega⟩ ⟨by omega, by omega⟩ ⟨by omega, by omega⟩ (by omega)
            · have c19 := cv_nge (a := v4_2.toInt) (b := (gA o_me_2 3 (1 : Int32).toNatClampNeg).toInt) rfl rfl c19
              refine wp_if (fun c30 => ?_) (fun c30 => ?_)
              · have c30 := cv_eq (a := v3_2.toInt) (b := 0) rfl (by decide) c30
                unfold bk_X9_thatCanBe_80
                refine wp_if (fun c31 => ?_) (fun c31 => ?_)
                · have c31 := cv_eq (a := v3_2.toInt) (b := 0) rfl (by decide) c31
                  obtain ⟨w32, ew32⟩ : ∃ z : Int32, z = (0 : Int32) := ⟨_, rfl⟩
                  have tw32 : w32.toInt = 0 := by rw [ew32]; decide
                  rw [show bk_X9_thatCanBe_92  (lp_X9_thatCanBe_4   N1) v2_2 (0 : Int32) v1_2 o_me_2 = bk_X9_thatCanBe_92  (lp_X9_thatCanBe_4   N1) v2_2 w32 v1_2 o_me_2 from by rw [ew32]]
                  unfold bk_X9_thatCanBe_92
                  have t33 := i32_or7 (x := v1_2) (y := w32) ⟨by omega, by omega⟩ ⟨by omega, by omega⟩
                  refine wp_lt (fun x34 ex34 => ?_)
                  have tx34 : x34.toInt = (v1_2 ||| w32).toInt := by rw [ex34]
                  refine wp_lt (fun x35 ex35 => ?_)
                  have tx35 : x35.toInt = v2_2.toInt + 1 := by rw [ex35]; exact i32_add rfl (by decide) (by omega) (by omega)
                  exact ih1 x34 x35 o_me_2 hI_me_2 hkp_me_2 ⟨by omega, by omega⟩ ⟨by omega, by omega⟩ ⟨by omega, by omega⟩ (by omega)
                · have c31z := c31
                  have c31 := cv_ne (a := v3_2.toInt) (b := 0) rfl (by decide) c31
                  exfalso; omega
              · have c30z := c30
                have c30 := cv_ne (a := v3_2.toInt) (b := 0) rfl (by decide) c30
                have t36 : ((2 : Int32) * v4_2).toInt = 2 * v4_2.toInt := i32_mul (by decide) rfl (by omega) (by omega)
                have t37 : ((71 : Int32) + ((2 : Int32) * v4_2)).toInt = 71 + ((2 : Int32) * v4_2).toInt := i32_add (by decide) rfl (by omega) (by omega)
                refine wp_gd (zin_of (m := 5484) rfl (by omega) (by omega)) ?_
                have t38 := iaX9_3_8 hI_me_2 (j := (71 : Int32) + ((2 : Int32) * v4_2)) (by omega) (by omega)
                refine wp_bd (s_X9_turnsOf   o_me_2 v2_2 (gA o_me_2 3 ((71 : Int32) + ((2 : Int32) * v4_2)).toNatClampNeg)  hI_me_2  ⟨by omega, by omega⟩ ⟨by omega, by omega⟩ ⟨by omega, by omega⟩) (fun z39 hz39 => ?_)
                obtain ⟨hz39_0, hz39_1, hz39_2⟩ := hz39
                have hkpz39_me : Kp [8, 13, 14, 15, 16, 19, 20, 21, 23, 26, 29, 30, 43, 59, 62] [3, 7, 10, 12, 22, 24, 25, 27, 28, 42, 48, 50, 51, 55] [(3, (0 : Int32))] o_me z39.2 := hkp_me_2.trans (hz39_2.mono (by decide) (by decide) (by decide))
                have kz39_k40 : (gA z39.2 3 ((71 : Int32) + ((2 : Int32) * v4_2)).toNatClampNeg).toInt = (gA o_me_2 3 ((71 : Int32) + ((2 : Int32) * v4_2)).toNatClampNeg).toInt := congrArg (fun g => (g ((71 : Int32) + ((2 : Int32) * v4_2)).toNatClampNeg).toInt) (hz39_2.2.1 3 (by decide))
                have kz39_k41 : (gA z39.2 3 (1 : Int32).toNatClampNeg).toInt = (gA o_me_2 3 (1 : Int32).toNatClampNeg).toInt := congrArg (fun g => (g (1 : Int32).toNatClampNeg).toInt) (hz39_2.2.1 3 (by decide))
                have kz39_k42 : (gI z39.2 20).toInt = (gI o_me_2 20).toInt := congrArg Int32.toInt (hz39_2.1 20 (by decide))
                have t43 : (((71 : Int32) + ((2 : Int32) * v4_2)) + (1 : Int32)).toInt = ((71 : Int32) + ((2 : Int32) * v4_2)).toInt + 1 := i32_add rfl (by decide) (by omega) (by omega)
                refine wp_gd (zin_of (m := 5484) rfl (by omega) (by omega)) ?_
                have t44 := iaX9_3_8 hz39_1 (j := ((71 : Int32) + ((2 : Int32) * v4_2)) + (1 : Int32)) (by omega) (by omega)
                refine wp_if (fun c45 => ?_) (fun c45 => ?_)
                · have c45 := cv_eq (a := z39.1.toInt) (b := (gA z39.2 3 (((71 : Int32) + ((2 : Int32) * v4_2)) + (1 : Int32)).toNatClampNeg).toInt) rfl rfl c45
                  obtain ⟨w46, ew46⟩ : ∃ z : Int32, z = (1 : Int32) := ⟨_, rfl⟩
                  have tw46 : w46.toInt = 1 := by rw [ew46]; decide
                  rw [show bk_X9_thatCanBe_73  (lp_X9_thatCanBe_4   N1) (lp_X9_thatCanBe_19  (lp_X9_thatCanBe_4   N1) N2) v1_2 v2_2 v4_2 (1 : Int32) z39.2 = bk_X9_thatCanBe_73  (lp_X9_thatCanBe_4   N1) (lp_X9_thatCanBe_19  (lp_X9_thatCanBe_4   N1) N2) v1_2 v2_2 v4_2 w46 z39.2 from by rw [ew46]]
                  unfold bk_X9_thatCanBe_73
                  refine wp_lt (fun x47 ex47 => ?_)
                  have tx47 : x47.toInt = v4_2.toInt + 1 := by rw [ex47]; exact i32_add rfl (by decide) (by omega) (by omega)
                  exact ih2 v1_2 v2_2 w46 x47 z39.2 hz39_1 hkpz39_me ⟨by omega, by omega⟩ ⟨by omega, by omega⟩ ⟨by omega, by omega⟩ ⟨by omega, by omega⟩ ⟨by omega, by omega⟩ (by omega) (by omega) (by omega) (by omega) (by omega)
                · have c45 := cv_ne (a := z39.1.toInt) (b := (gA z39.2 3 (((71 : Int32) + ((2 : Int32) * v4_2)) + (1 : Int32)).toNatClampNeg).toInt) rfl rfl c45
                  obtain ⟨w48, ew48⟩ : ∃ z : Int32, z = (0 : Int32) := ⟨_, rfl⟩
                  have tw48 : w48.toInt = 0 := by rw [ew48]; decide
                  rw [show bk_X9_thatCanBe_73  (lp_X9_thatCanBe_4   N1) (lp_X9_thatCanBe_19  (lp_X9_thatCanBe_4   N1) N2) v1_2 v2_2 v4_2 (0 : Int32) z39.2 = bk_X9_thatCanBe_73  (lp_X9_thatCanBe_4   N1) (lp_X9_thatCanBe_19  (lp_X9_thatCanBe_4   N1) N2) v1_2 v2_2 v4_2 w48 z39.2 from by rw [ew48]]
                  unfold bk_X9_thatCanBe_73
                  refine wp_lt (fun x49 ex49 => ?_)
                  have tx49 : x49.toInt = v4_2.toInt + 1 := by rw [ex49]; exact i32_add rfl (by decide) (by omega) (by omega)
                  exact ih2 v1_2 v2_2 w48 x49 z39.2 hz39_1 hkpz39_me ⟨by omega, by omega⟩ ⟨by omega, by omega⟩ ⟨by omega, by omega⟩ ⟨by omega, by omega⟩ ⟨by omega, by omega⟩ (by omega) (by omega) (by omega) (by omega) (by omega)
        exact lp2 zfu v1_1 v2_1 (1 : Int32) (0 : Int32) o_me_1 hI_me_1 hkp_me_1 ⟨by omega, by omega⟩ ⟨by omega, by omega⟩ ⟨by decide, by decide⟩ ⟨by decide, by decide⟩ ⟨by omega, by omega⟩ (by omega) (by omega) (by omega) (by omega) (by show _ < 100000; omega)
  exact lp1 zfu (0 : Int32) (0 : Int32) o_me hI_me Kp.rf ⟨by decide, by decide⟩ ⟨by decide, by decide⟩ ⟨by omega, by omega⟩ (by show _ < 100000; omega)

set_option maxHeartbeats 4000000 in
set_option maxRecDepth 100000 in
theorem s_X9_canBe (o_me : Ob) (hI_me : IvX9 o_me) (q0 : 0 ≤ (gI o_me 20).toInt ∧ (gI o_me 20).toInt ≤ 0) : wp (f_X9_canBe   o_me) (fun (y : Int32 × Ob) => (0 ≤ y.1.toInt ∧ y.1.toInt ≤ 127) ∧ IvX9 y.2 ∧ Kp [8, 13, 14, 15, 16, 19, 20, 21, 23, 26, 29, 30, 43, 59, 62] [3, 7, 10, 12, 22, 24, 25, 27, 28, 42, 48, 50, 51, 55] [(3, (0 : Int32))] o_me y.2) := by
  have li0 : (0 : Int32).toInt = 0 := by decide
  unfold f_X9_canBe
  refine wp_lt (fun o1 eo1 => ?_)
  have hIo1 : IvX9 o1 := by rw [eo1]; exact hI_me
  have ko1_k2 : (gI o1 20).toInt = (gI o_me 20).toInt := by rw [eo1]; rfl
  have ko1_v : (gI o1 0).toInt = 0 := by rw [eo1]; exact (show ((0 : Int32)).toInt = _ from by decide)
  have hkpo1 : Kp [8, 13, 14, 15, 16, 19, 20, 21, 23, 26, 29, 30, 43, 59, 62] [3, 7, 10, 12, 22, 24, 25, 27, 28, 42, 48, 50, 51, 55] [(3, (0 : Int32))] o_me o1 := Kp.rf.trans (by rw [eo1]; exact Kp.sI (by decide))
  refine wp_bd (s_X9_thatCanBe   o1  hIo1  ⟨by omega, by omega⟩) (fun z3 hz3 => ?_)
  obtain ⟨hz3_0, hz3_1, hz3_2⟩ := hz3
  have hkpz3_me : Kp [8, 13, 14, 15, 16, 19, 20, 21, 23, 26, 29, 30, 43, 59, 62] [3, 7, 10, 12, 22, 24, 25, 27, 28, 42, 48, 50, 51, 55] [(3, (0 : Int32))] o_me z3.2 := hkpo1.trans (hz3_2.mono (by decide) (by decide) (by decide))
  have kz3_k4 : (gI z3.2 20).toInt = (gI o1 20).toInt := congrArg Int32.toInt (hz3_2.1 20 (by decide))
  refine wp_some ?_
  exact (show (0 ≤ z3.1.toInt ∧ z3.1.toInt ≤ 127) ∧ IvX9 z3.2 ∧ Kp [8, 13, 14, 15, 16, 19, 20, 21, 23, 26, 29, 30, 43, 59, 62] [3, 7, 10, 12, 22, 24, 25, 27, 28, 42, 48, 50, 51, 55] [(3, (0 : Int32))] o_me z3.2 from ⟨⟨by omega, by omega⟩, hz3_1, hkpz3_me⟩)

set_option maxHeartbeats 4000000 in
set_option maxRecDepth 100000 in
theorem s_X9_putBack (o_me : Ob) (p0 : Int32) (hI_me : IvX9 o_me) (q0 : 0 ≤ p0.toInt ∧ p0.toInt ≤ 17) : wp (f_X9_putBack   o_me p0) (fun (y : Ob) => IvX9 y ∧ Kp [8, 13, 14, 15, 16, 19, 20, 21, 23, 26, 29, 30, 34, 38, 43, 59, 62] [7, 10, 12, 22, 24, 25, 27, 28, 42, 48, 50, 51, 55] [(3, (0 : Int32))] o_me y) := by
  have li0 : (0 : Int32).toInt = 0 := by decide
  have li1 : (25 : Int32).toInt = 25 := by decide
  have li2 : (4 : Int32).toInt = 4 := by decide
  unfold f_X9_putBack
  have lp1 : ∀ (N1 : Nat) (v1_1 : Int32) (v2_1 : Int32) (o_me_1 : Ob), IvX9 o_me_1 → Kp [8, 13, 14, 15, 16, 19, 20, 21, 23, 26, 29, 30, 34, 38, 43, 59, 62] [7, 10, 12, 22, 24, 25, 27, 28, 42, 48, 50, 51, 55] [(3, (0 : Int32))] o_me o_me_1 → (0 ≤ v1_1.toInt ∧ v1_1.toInt ≤ 17) → (0 ≤ v2_1.toInt ∧ v2_1.toInt ≤ 25) → (v1_1.toInt ≤ p0.toInt + 0) → (p0.toInt ≤ v1_1.toInt + 0) → (25 - v2_1.toInt).toNat < N1 → wp (lp_X9_putBack_2   N1 (v1_1, v2_1, o_me_1)) (fun (y : Ob) => IvX9 y ∧ Kp [8, 13, 14, 15, 16, 19, 20, 21, 23, 26, 29, 30, 34, 38, 43, 59, 62] [7, 10, 12, 22, 24, 25, 27, 28, 42, 48, 50, 51, 55] [(3, (0 : Int32))] o_me y) := by
    intro N1
    induction N1 with
    | zero =>
      intro v1_1 v2_1 o_me_1 hI_me_1 hkp_me_1 hh1 hh2 hh3 hh4 hN1
      exact absurd hN1 (Nat.not_lt_zero _)
    | succ N1 ihx =>
      have ih1 := ihx
      intro v1_1 v2_1 o_me_1 hI_me_1 hkp_me_1 hh1 hh2 hh3 hh4 hN1
      show wp (lb_X9_putBack_2   (lp_X9_putBack_2   N1) v1_1 v2_1 o_me_1) (fun (y : Ob) => IvX9 y ∧ Kp [8, 13, 14, 15, 16, 19, 20, 21, 23, 26, 29, 30, 34, 38, 43, 59, 62] [7, 10, 12, 22, 24, 25, 27, 28, 42, 48, 50, 51, 55] [(3, (0 : Int32))] o_me y)
      unfold lb_X9_putBack_2
      refine wp_if (fun c5 => ?_) (fun c5 => ?_)
      · have c5 := cv_ge (a := v2_1.toInt) (b := 25) rfl (by decide) c5
        refine wp_some ?_
        exact (show IvX9 o_me_1 ∧ Kp [8, 13, 14, 15, 16, 19, 20, 21, 23, 26, 29, 30, 34, 38, 43, 59, 62] [7, 10, 12, 22, 24, 25, 27, 28, 42, 48, 50, 51, 55] [(3, (0 : Int32))] o_me o_me_1 from ⟨hI_me_1, hkp_me_1⟩)
      · have c5 := cv_nge (a := v2_1.toInt) (b := 25) rfl (by decide) c5
        have t6 : ((4 : Int32) + v2_1).toInt = 4 + v2_1.toInt := i32_add (by decide) rfl (by omega) (by omega)
        have t7 : ((25 : Int32) * v1_1).toInt = 25 * v1_1.toInt := i32_mul (by decide) rfl (by omega) (by omega)
        have t8 : (((25 : Int32) * v1_1) + v2_1).toInt = ((25 : Int32) * v1_1).toInt + v2_1.toInt := i32_add rfl rfl (by omega) (by omega)
        refine wp_gd (zin_of (m := 450) rfl (by omega) (by omega)) ?_
        refine wp_gd (zin_of (m := 5484) rfl (by omega) (by omega)) ?_
        refine wp_lt (fun o9 eo9 => ?_)
        have hIo9 : IvX9 o9 := by rw [eo9]; exact spX9_put hI_me_1 ⟨by omega, by omega⟩ ⟨by omega, by omega⟩
        have ko9_v : (gA o9 3 ((4 : Int32) + v2_1).toNatClampNeg).toInt = (gA o_me_1 6 (((25 : Int32) * v1_1) + v2_1).toNatClampNeg).toInt := by rw [eo9]; exact congrArg Int32.toInt (upd_eq (g := gA o_me_1 3) (i := ((4 : Int32) + v2_1)) (v := (gA o_me_1 6 (((25 : Int32) * v1_1) + v2_1).toNatClampNeg)))
        have hkpo9 : Kp [8, 13, 14, 15, 16, 19, 20, 21, 23, 26, 29, 30, 34, 38, 43, 59, 62] [7, 10, 12, 22, 24, 25, 27, 28, 42, 48, 50, 51, 55] [(3, (0 : Int32))] o_me o9 := hkp_me_1.trans (by rw [eo9]; exact kp_tA0 (by decide) (by omega))
        refine wp_lt (fun x10 ex10 => ?_)
        have tx10 : x10.toInt = v2_1.toInt + 1 := by rw [ex10]; exact i32_add rfl (by decide) (by omega) (by omega)
        exact ih1 v1_1 x10 o9 hIo9 hkpo9 ⟨by omega, by omega⟩ ⟨by omega, by omega⟩ (by omega) (by omega) (by omega)
  exact lp1 zfu p0 (0 : Int32) o_me hI_me Kp.rf ⟨by omega, by omega⟩ ⟨by decide, by decide⟩ (by omega) (by omega) (by show _ < 100000; omega)

set_option maxHeartbeats 4000000 in
set_option maxRecDepth 100000 in
theorem s_X9_draw (o_me : Ob) (p0 : Int32) (hI_me : IvX9 o_me) (q0 : 1 ≤ p0.toInt ∧ p0.toInt ≤ 7) : wp (f_X9_draw   o_me p0) (fun (y : Int32 × Ob) => (0 ≤ y.1.toInt ∧ y.1.toInt ≤ 6) ∧ IvX9 y.2 ∧ Kp [8, 13, 14, 15, 16, 19, 20, 21, 23, 26, 29, 30, 34, 38, 43, 59, 62] [3, 7, 10, 12, 22, 24, 25, 27, 28, 42, 48, 50, 51, 55] [(3, (0 : Int32))] o_me y.2 ∧ (y.1.toInt ≤ p0.toInt + (-1))) := by
  sorry

set_option maxHeartbeats 4000000 in
set_option maxRecDepth 100000 in
theorem s_X9_centuries (o_me : Ob) (p0 : Int32) (p1 : Int32) (hI_me : IvX9 o_me) (q0 : 0 ≤ (gI o_me 20).toInt ∧ (gI o_me 20).toInt ≤ 0) : wp (f_X9_centuries   o_me p0 p1) (fun (y : Int32 × Ob) => ((-6) ≤ y.1.toInt ∧ y.1.toInt ≤ 2147483647) ∧ IvX9 y.2 ∧ Kp [8, 13, 14, 15, 16, 19, 20, 21, 23, 26, 29, 30, 59] [7, 10, 12, 22, 24, 25, 27, 28, 48, 50, 51, 55] [(3, (0 : Int32))] o_me y.2) := by
  have li0 : (-1 : Int32).toInt = (-1) := by decide
  have li1 : (-3 : Int32).toInt = (-3) := by decide
  have li2 : (0 : Int32).toInt = 0 := by decide
  have li3 : (0 : Int64).toInt = 0 := by decide
  have li4 : (1 : Int32).toInt = 1 := by decide
  have li5 : (1 : Int64).toInt = 1 := by decide
  have li6 : (1000000 : Int64).toInt = 1000000 := by decide
  have li7 : (16 : Int32).toInt = 16 := by decide
  have li8 : (2 : Int32).toInt = 2 := by decide
  have li9 : (22 : Int32).toInt = 22 := by decide
  have li10 : (25 : Int32).toInt = 25 := by decide
  have li11 : (3 : Int32).toInt = 3 := by decide
  have li12 : (4 : Int32).toInt = 4 := by decide
  have li13 : (60 : Int64).toInt = 60 := by decide
  have li14 : (999 : Int32).toInt = 999 := by decide
  unfold f_X9_centuries
  refine wp_lt (fun o1 eo1 => ?_)
  have hIo1 : IvX9 o1 := by rw [eo1]; exact hI_me
  have ko1_k2 : (gI o1 20).toInt = (gI o_me 20).toInt := by rw [eo1]; rfl
  have ko1_v : (gI o1 0).toInt = 0 := by rw [eo1]; exact (show ((0 : Int32)).toInt = _ from by decide)
  have hkpo1 : Kp [8, 13, 14, 15, 16, 19, 20, 21, 23, 26, 29, 30, 59] [7, 10, 12, 22, 24, 25, 27, 28, 48, 50, 51, 55] [(3, (0 : Int32))] o_me o1 := Kp.rf.trans (by rw [eo1]; exact Kp.sI (by decide))
  have rg3 := i32_rg p0
  have t4 : p0.toInt64.toInt = p0.toInt := Int32.toInt_toInt64 _
  refine wp_bd (s_X9_in   p0.toInt64 (0 : Int64) (1000000 : Int64)    ) (fun z5 hz5 => ?_)
  obtain ⟨hz5_0, hz5_1⟩ := hz5
  refine wp_if (fun c6 => ?_) (fun c6 => ?_)
  · have c6 := cv_eq (a := z5.toInt) (b := 0) rfl (by decide) c6
    unfold bk_X9_centuries_29
    refine wp_bd (s_X9_tell   o1 (-1 : Int32)  hIo1  ⟨by decide, by decide⟩) (fun z7 hz7 => ?_)
    obtain ⟨hz7_0, hz7_1, hz7_2⟩ := hz7
    have hkpz7_me : Kp [8, 13, 14, 15, 16, 19, 20, 21, 23, 26, 29, 30, 59] [7, 10, 12, 22, 24, 25, 27, 28, 48, 50, 51, 55] [(3, (0 : Int32))] o_me z7.2 := hkpo1.trans (hz7_2.mono (by decide) (by decide) (by decide))
    have kz7_k8 : (gI z7.2 20).toInt = (gI o1 20).toInt := congrArg Int32.toInt (hz7_2.1 20 (by decide))
    refine wp_some ?_
    have rg9 := i32_rg z7.1
    exact (show ((-6) ≤ z7.1.toInt ∧ z7.1.toInt ≤ 2147483647) ∧ IvX9 z7.2 ∧ Kp [8, 13, 14, 15, 16, 19, 20, 21, 23, 26, 29, 30, 59] [7, 10, 12, 22, 24, 25, 27, 28, 48, 50, 51, 55] [(3, (0 : Int32))] o_me z7.2 from ⟨⟨by omega, by omega⟩, hz7_1, hkpz7_me⟩)
  · have c6z := c6
    have c6i := hz5_1 c6
    have c6 := cv_ne (a := z5.toInt) (b := 0) rfl (by decide) c6
    have rg10 := i32_rg p1
    have t11 : p1.toInt64.toInt = p1.toInt := Int32.toInt_toInt64 _
    refine wp_bd (s_X9_in   p1.toInt64 (1 : Int64) (60 : Int64)    ) (fun z12 hz12 => ?_)
    obtain ⟨hz12_0, hz12_1⟩ := hz12
    refine wp_if (fun c13 => ?_) (fun c13 => ?_)
    · have c13 := cv_eq (a := z12.toInt) (b := 0) rfl (by decide) c13
      unfold bk_X9_centuries_29
      refine wp_bd (s_X9_tell   o1 (-1 : Int32)  hIo1  ⟨by decide, by decide⟩) (fun z14 hz14 => ?_)
      obtain ⟨hz14_0, hz14_1, hz14_2⟩ := hz14
      have hkpz14_me : Kp [8, 13, 14, 15, 16, 19, 20, 21, 23, 26, 29, 30, 59] [7, 10, 12, 22, 24, 25, 27, 28, 48, 50, 51, 55] [(3, (0 : Int32))] o_me z14.2 := hkpo1.trans (hz14_2.mono (by decide) (by decide) (by decide))
      have kz14_k15 : (gI z14.2 20).toInt = (gI o1 20).toInt := congrArg Int32.toInt (hz14_2.1 20 (by decide))
      refine wp_some ?_
      have rg16 := i32_rg z14.1
      exact (show ((-6) ≤ z14.1.toInt ∧ z14.1.toInt ≤ 2147483647) ∧ IvX9 z14.2 ∧ Kp [8, 13, 14, 15, 16, 19, 20, 21, 23, 26, 29, 30, 59] [7, 10, 12, 22, 24, 25, 27, 28, 48, 50, 51, 55] [(3, (0 : Int32))] o_me z14.2 from ⟨⟨by omega, by omega⟩, hz14_1, hkpz14_me⟩)
    · have c13z := c13
      have c13i := hz12_1 c13
      have c13 := cv_ne (a := z12.toInt) (b := 0) rfl (by decide) c13
      have kc17 : (gA o1 3 (0 : Int32).toNatClampNeg).toInt = (gA o_me 3 (0 : Int32).toNatClampNeg).toInt := congrArg Int32.toInt (hkpo1.2.2 (3, (0 : Int32)) (by decide))
      have t18 := iaX9_3_0 hIo1 (j := (0 : Int32)) (by decide) (by decide)
      refine wp_if (fun c19 => ?_) (fun c19 => ?_)
      · have c19 := cv_eq (a := (gA o1 3 (0 : Int32).toNatClampNeg).toInt) (b := 0) rfl (by decide) c19
        refine wp_bd (s_X9_tell   o1 (-3 : Int32)  hIo1  ⟨by decide, by decide⟩) (fun z20 hz20 => ?_)
        obtain ⟨hz20_0, hz20_1, hz20_2⟩ := hz20
        have hkpz20_me : Kp [8, 13, 14, 15, 16, 19, 20, 21, 23, 26, 29, 30, 59] [7, 10, 12, 22, 24, 25, 27, 28, 48, 50, 51, 55] [(3, (0 : Int32))] o_me z20.2 := hkpo1.trans (hz20_2.mono (by decide) (by decide) (by decide))
        have kz20_k21 : (gA z20.2 3 (0 : Int32).toNatClampNeg).toInt = (gA o1 3 (0 : Int32).toNatClampNeg).toInt := congrArg (fun g => (g (0 : Int32).toNatClampNeg).toInt) (hz20_2.2.1 3 (by decide))
        have kz20_k22 : (gI z20.2 20).toInt = (gI o1 20).toInt := congrArg Int32.toInt (hz20_2.1 20 (by decide))
        refine wp_some ?_
        have rg23 := i32_rg z20.1
        exact (show ((-6) ≤ z20.1.toInt ∧ z20.1.toInt ≤ 2147483647) ∧ IvX9 z20.2 ∧ Kp [8, 13, 14, 15, 16, 19, 20, 21, 23, 26, 29, 30, 59] [7, 10, 12, 22, 24, 25, 27, 28, 48, 50, 51, 55] [(3, (0 : Int32))] o_me z20.2 from ⟨⟨by omega, by omega⟩, hz20_1, hkpz20_me⟩)
      · have c19z := c19
        have c19 := cv_ne (a := (gA o1 3 (0 : Int32).toNatClampNeg).toInt) (b := 0) rfl (by decide) c19
        refine wp_bd (s_X9_keepAll   o1 (16 : Int32)  hIo1  ⟨by decide, by decide⟩) (fun z24 hz24 => ?_)
        obtain ⟨hz24_0, hz24_1⟩ := hz24
        have hkpz24_me : Kp [8, 13, 14, 15, 16, 19, 20, 21, 23, 26, 29, 30, 59] [7, 10, 12, 22, 24, 25, 27, 28, 48, 50, 51, 55] [(3, (0 : Int32))] o_me z24 := hkpo1.trans (hz24_1.mono (by decide) (by decide) (by decide))
        have kz24_k25 : (gA z24 3 (0 : Int32).toNatClampNeg).toInt = (gA o1 3 (0 : Int32).toNatClampNeg).toInt := congrArg (fun g => (g (0 : Int32).toNatClampNeg).toInt) (hz24_1.2.1 3 (by decide))
        have kz24_k26 : (gI z24 20).toInt = (gI o1 20).toInt := congrArg Int32.toInt (hz24_1.1 20 (by decide))
        have t27 : p0.toInt64.toInt = p0.toInt := Int32.toInt_toInt64 _
        refine wp_lt (fun o28 eo28 => ?_)
        have hIo28 : IvX9 o28 := by rw [eo28]; exact ilX9_60 hz24_0 ⟨by omega, by omega⟩
        have ko28_k29 : (gA o28 3 (0 : Int32).toNatClampNeg).toInt = (gA z24 3 (0 : Int32).toNatClampNeg).toInt := by rw [eo28]; rfl
        have ko28_k30 : (gI o28 20).toInt = (gI z24 20).toInt := by rw [eo28]; rfl
        have ko28_v : (gL o28 60).toInt = p0.toInt64.toInt := by rw [eo28]; rfl
        have hkpo28 : Kp [8, 13, 14, 15, 16, 19, 20, 21, 23, 26, 29, 30, 59] [7, 10, 12, 22, 24, 25, 27, 28, 48, 50, 51, 55] [(3, (0 : Int32))] o_me o28 := hkpz24_me.trans (by rw [eo28]; exact Kp.sL)
        have t31 := igX9_43 hIo28
        have lp1 : ∀ (N1 : Nat) (v2_1 : Int32) (v3_1 : Int32) (v4_1 : Int32) (o_me_1 : Ob), IvX9 o_me_1 → Kp [8, 13, 14, 15, 16, 19, 20, 21, 23, 26, 29, 30, 59] [7, 10, 12, 22, 24, 25, 27, 28, 48, 50, 51, 55] [(3, (0 : Int32))] o_me o_me_1 → (1 ≤ v2_1.toInt ∧ v2_1.toInt ≤ 60) → (0 ≤ v3_1.toInt ∧ v3_1.toInt ≤ 60) → (0 ≤ v4_1.toInt ∧ v4_1.toInt ≤ 60) → (0 ≤ (gI o_me_1 20).toInt ∧ (gI o_me_1 20).toInt ≤ 0) → (0 ≤ (gI o_me_1 43).toInt ∧ (gI o_me_1 43).toInt ≤ 7) → (v3_1.toInt ≤ v2_1.toInt + 0) → (v3_1.toInt ≤ v4_1.toInt + 0) → (v4_1.toInt ≤ v2_1.toInt + 0) → (60 - v4_1.toInt).toNat < N1 → wp (lp_X9_centuries_68   N1 (v2_1, v3_1, v4_1, o_me_1)) (fun (y : Int32 × Ob) => ((-6) ≤ y.1.toInt ∧ y.1.toInt ≤ 2147483647) ∧ IvX9 y.2 ∧ Kp [8, 13, 14, 15, 16, 19, 20, 21, 23, 26, 29, 30, 59] [7, 10, 12, 22, 24, 25, 27, 28, 48, 50, 51, 55] [(3, (0 : Int32))] o_me y.2) := by
          intro N1
          induction N1 with
          | zero =>
            intro v2_1 v3_1 v4_1 o_me_1 hI_me_1 hkp_me_1 hh34 hh35 hh36 hh37 hh38 hh39 hh40 hh41 hN1
            exact absurd hN1 (Nat.not_lt_zero _)
          | succ N1 ihx =>
            have ih1 := ihx
            intro v2_1 v3_1 v4_1 o_me_1 hI_me_1 hkp_me_1 hh34 hh35 hh36 hh37 hh38 hh39 hh40 hh41 hN1
            show wp (lb_X9_centuries_68   (lp_X9_centuries_68   N1) v2_1 v3_1 v4_1 o_me_1) (fun (y : Int32 × Ob) => ((-6) ≤ y.1.toInt ∧ y.1.toInt ≤ 2147483647) ∧ IvX9 y.2 ∧ Kp [8, 13, 14, 15, 16, 19, 20, 21, 23, 26, 29, 30, 59] [7, 10, 12, 22, 24, 25, 27, 28, 48, 50, 51, 55] [(3, (0 : Int32))] o_me y.2)
            unfold lb_X9_centuries_68
            refine wp_if (fun c42 => ?_) (fun c42 => ?_)
            · have c42 := cv_ge (a := v4_1.toInt) (b := v2_1.toInt) rfl rfl c42
              unfold bk_X9_centuries_192
              have lp2 : ∀ (N2 : Nat) (v3_2 : Int32) (v4_2 : Int32) (o_me_2 : Ob), IvX9 o_me_2 → Kp [8, 13, 14, 15, 16, 19, 20, 21, 23, 26, 29, 30, 59] [7, 10, 12, 22, 24, 25, 27, 28, 48, 50, 51, 55] [(3, (0 : Int32))] o_me o_me_2 → (0 ≤ v3_2.toInt ∧ v3_2.toInt ≤ 60) → (0 ≤ v4_2.toInt ∧ v4_2.toInt ≤ 25) → (0 ≤ (gI o_me_2 20).toInt ∧ (gI o_me_2 20).toInt ≤ 0) → (0 ≤ (gI o_me_2 43).toInt ∧ (gI o_me_2 43).toInt ≤ 7) → (v3_2.toInt ≤ v4_1.toInt + 0) → (v3_2.toInt ≤ v3_1.toInt + 0) → (v3_1.toInt ≤ v3_2.toInt + 0) → (v3_2.toInt ≤ v2_1.toInt + 0) → (25 - v4_2.toInt).toNat < N2 → wp (lp_X9_centuries_195   N2 (v3_2, v4_2, o_me_2)) (fun (y : Int32 × Ob) => ((-6) ≤ y.1.toInt ∧ y.1.toInt ≤ 2147483647) ∧ IvX9 y.2 ∧ Kp [8, 13, 14, 15, 16, 19, 20, 21, 23, 26, 29, 30, 59] [7, 10, 12, 22, 24, 25, 27, 28, 48, 50, 51, 55] [(3, (0 : Int32))] o_me y.2) := by
                intro N2
                induction N2 with
                | zero =>
                  intro v3_2 v4_2 o_me_2 hI_me_2 hkp_me_2 hh45 hh46 hh47 hh48 hh49 hh50 hh51 hh52 hN2
                  exact absurd hN2 (Nat.not_lt_zero _)
                | succ N2 ihx =>
                  have ih2 := ihx
                  intro v3_2 v4_2 o_me_2 hI_me_2 hkp_me_2 hh45 hh46 hh47 hh48 hh49 hh50 hh51 hh52 hN2
                  show wp (lb_X9_centuries_195   (lp_X9_centuries_195   N2) v3_2 v4_2 o_me_2) (fun (y : Int32 × Ob) => ((-6) ≤ y.1.toInt ∧ y.1.toInt ≤ 2147483647) ∧ IvX9 y.2 ∧ Kp [8, 13, 14, 15, 16, 19, 20, 21, 23, 26, 29, 30, 59] [7, 10, 12, 22, 24, 25, 27, 28, 48, 50, 51, 55] [(3, (0 : Int32))] o_me y.2)
                  unfold lb_X9_centuries_195
                  refine wp_if (fun c53 => ?_) (fun c53 => ?_)
                  · have c53 := cv_ge (a := v4_2.toInt) (b := 25) rfl (by decide) c53
                    have kc54 : (gA o_me_2 3 (0 : Int32).toNatClampNeg).toInt = (gA o_me 3 (0 : Int32).toNatClampNeg).toInt := congrArg Int32.toInt (hkp_me_2.2.2 (3, (0 : Int32)) (by decide))
                    have t55 := iaX9_3_0 hI_me_2 (j := (0 : Int32)) (by decide) (by decide)
                    refine wp_lt (fun o56 eo56 => ?_)
                    have hIo56 : IvX9 o56 := by rw [eo56]; exact ipX9_62 hI_me_2 ⟨by omega, by omega⟩
                    have ko56_k57 : (gA o56 3 (0 : Int32).toNatClampNeg).toInt = (gA o_me_2 3 (0 : Int32).toNatClampNeg).toInt := by rw [eo56]; rfl
                    have ko56_k58 : (gI o56 20).toInt = (gI o_me_2 20).toInt := by rw [eo56]; rfl
                    have ko56_k59 : (gI o56 43).toInt = (gI o_me_2 43).toInt := by rw [eo56]; rfl
                    have ko56_v : (gI o56 62).toInt = (gA o_me_2 3 (0 : Int32).toNatClampNeg).toInt := by rw [eo56]; rfl
                    have hkpo56 : Kp [8, 13, 14, 15, 16, 19, 20, 21, 23, 26, 29, 30, 59] [7, 10, 12, 22, 24, 25, 27, 28, 48, 50, 51, 55] [(3, (0 : Int32))] o_me o56 := hkp_me_2.trans (by rw [eo56]; exact Kp.sI (by decide))
                    refine wp_bd (s_X9_putBack   o56 (16 : Int32)  hIo56  ⟨by decide, by decide⟩) (fun z60 hz60 => ?_)
                    obtain ⟨hz60_0, hz60_1⟩ := hz60
                    have hkpz60_me : Kp [8, 13, 14, 15, 16, 19, 20, 21, 23, 26, 29, 30, 59] [7, 10, 12, 22, 24, 25, 27, 28, 48, 50, 51, 55] [(3, (0 : Int32))] o_me z60 := hkpo56.trans (hz60_1.mono (by decide) (by decide) (by decide))
                    have kz60_k61 : (gI z60 20).toInt = (gI o56 20).toInt := congrArg Int32.toInt (hz60_1.1 20 (by decide))
                    have kz60_k62 : (gI z60 43).toInt = (gI o56 43).toInt := congrArg Int32.toInt (hz60_1.1 43 (by decide))
                    have kz60_k63 : (gI z60 62).toInt = (gI o56 62).toInt := congrArg Int32.toInt (hz60_1.1 62 (by decide))
                    have rg65 := i32_rg v3_2
                    refine wp_bd (s_X9_tell   z60 v3_2  hz60_0  ⟨by omega, by omega⟩) (fun z64 hz64 => ?_)
                    obtain ⟨hz64_0, hz64_1, hz64_2⟩ := hz64
                    have hkpz64_me : Kp [8, 13, 14, 15, 16, 19, 20, 21, 23, 26, 29, 30, 59] [7, 10, 12, 22, 24, 25, 27, 28, 48, 50, 51, 55] [(3, (0 : Int32))] o_me z64.2 := hkpz60_me.trans (hz64_2.mono (by decide) (by decide) (by decide))
                    have kz64_k66 : (gI z64.2 20).toInt = (gI z60 20).toInt := congrArg Int32.toInt (hz64_2.1 20 (by decide))
                    have kz64_k67 : (gI z64.2 43).toInt = (gI z60 43).toInt := congrArg Int32.toInt (hz64_2.1 43 (by decide))
                    have kz64_k68 : (gI z64.2 62).toInt = (gI z60 62).toInt := congrArg Int32.toInt (hz64_2.1 62 (by decide))
                    refine wp_some ?_
                    have rg69 := i32_rg z64.1
                    exact (show ((-6) ≤ z64.1.toInt ∧ z64.1.toInt ≤ 2147483647) ∧ IvX9 z64.2 ∧ Kp [8, 13, 14, 15, 16, 19, 20, 21, 23, 26, 29, 30, 59] [7, 10, 12, 22, 24, 25, 27, 28, 48, 50, 51, 55] [(3, (0 : Int32))] o_me z64.2 from ⟨⟨by omega, by omega⟩, hz64_1, hkpz64_me⟩)
                  · have c53 := cv_nge (a := v4_2.toInt) (b := 25) rfl (by decide) c53
                    have t70 : ((4 : Int32) + v4_2).toInt = 4 + v4_2.toInt := i32_add (by decide) rfl (by omega) (by omega)
                    refine wp_gd (zin_of (m := 5484) rfl (by omega) (by omega)) ?_
                    refine wp_gd (zin_of (m := 25) rfl (by omega) (by omega)) ?_
                    refine wp_lt (fun o71 eo71 => ?_)
                    have hIo71 : IvX9 o71 := by rw [eo71]; exact hI_me_2
                    have ko71_k72 : (gI o71 20).toInt = (gI o_me_2 20).toInt := by rw [eo71]; rfl
                    have ko71_k73 : (gI o71 43).toInt = (gI o_me_2 43).toInt := by rw [eo71]; rfl
                    have ko71_v : (gA o71 61 v4_2.toNatClampNeg).toInt = (gA o_me_2 3 ((4 : Int32) + v4_2).toNatClampNeg).toInt := by rw [eo71]; exact congrArg Int32.toInt (upd_eq (g := gA o_me_2 61) (i := v4_2) (v := (gA o_me_2 3 ((4 : Int32) + v4_2).toNatClampNeg)))
                    have hkpo71 : Kp [8, 13, 14, 15, 16, 19, 20, 21, 23, 26, 29, 30, 59] [7, 10, 12, 22, 24, 25, 27, 28, 48, 50, 51, 55] [(3, (0 : Int32))] o_me o71 := hkp_me_2.trans (by rw [eo71]; exact Kp.tA (by decide) (by decide))
                    refine wp_lt (fun x74 ex74 => ?_)
                    have tx74 : x74.toInt = v4_2.toInt + 1 := by rw [ex74]; exact i32_add rfl (by decide) (by omega) (by omega)
                    exact ih2 v3_2 x74 o71 hIo71 hkpo71 ⟨by omega, by omega⟩ ⟨by omega, by omega⟩ ⟨by omega, by omega⟩ ⟨by omega, by omega⟩ (by omega) (by omega) (by omega) (by omega) (by omega)
              exact lp2 zfu v3_1 (0 : Int32) o_me_1 hI_me_1 hkp_me_1 ⟨by omega, by omega⟩ ⟨by decide, by decide⟩ ⟨by omega, by omega⟩ ⟨by omega, by omega⟩ (by omega) (by omega) (by omega) (by omega) (by show _ < 100000; omega)
            · have c42 := cv_nge (a := v4_1.toInt) (b := v2_1.toInt) rfl rfl c42
              refine wp_if (fun c75 => ?_) (fun c75 => ?_)
              · have c75 := cv_ge (a := (gA o_me_1 3 (4 : Int32).toNatClampNeg).toInt) (b := 999) rfl (by decide) c75
                unfold bk_X9_centuries_192
                have lp3 : ∀ (N3 : Nat) (v3_3 : Int32) (v4_3 : Int32) (o_me_3 : Ob), IvX9 o_me_3 → Kp [8, 13, 14, 15, 16, 19, 20, 21, 23, 26, 29, 30, 59] [7, 10, 12, 22, 24, 25, 27, 28, 48, 50, 51, 55] [(3, (0 : Int32))] o_me o_me_3 → (0 ≤ v3_3.toInt ∧ v3_3.toInt ≤ 59) → (0 ≤ v4_3.toInt ∧ v4_3.toInt ≤ 25) → (0 ≤ (gI o_me_3 20).toInt ∧ (gI o_me_3 20).toInt ≤ 0) → (0 ≤ (gI o_me_3 43).toInt ∧ (gI o_me_3 43).toInt ≤ 7) → (v3_3.toInt ≤ v4_1.toInt + 0) → (v3_3.toInt ≤ v3_1.toInt + 0) → (v3_1.toInt ≤ v3_3.toInt + 0) → (v3_3.toInt ≤ v2_1.toInt + (-1)) → (25 - v4_3.toInt).toNat < N3 → wp (lp_X9_centuries_195   N3 (v3_3, v4_3, o_me_3)) (fun (y : Int32 × Ob) => ((-6) ≤ y.1.toInt ∧ y.1.toInt ≤ 2147483647) ∧ IvX9 y.2 ∧ Kp [8, 13, 14, 15, 16, 19, 20, 21, 23, 26, 29, 30, 59] [7, 10, 12, 22, 24, 25, 27, 28, 48, 50, 51, 55] [(3, (0 : Int32))] o_me y.2) := by
                  intro N3
                  induction N3 with
                  | zero =>
                    intro v3_3 v4_3 o_me_3 hI_me_3 hkp_me_3 hh78 hh79 hh80 hh81 hh82 hh83 hh84 hh85 hN3
                    exact absurd hN3 (Nat.not_lt_zero _)
                  | succ N3 ihx =>
                    have ih3 := ihx
                    intro v3_3 v4_3 o_me_3 hI_me_3 hkp_me_3 hh78 hh79 hh80 hh81 hh82 hh83 hh84 hh85 hN3
                    show wp (lb_X9_centuries_195   (lp_X9_centuries_195   N3) v3_3 v4_3 o_me_3) (fun (y : Int32 × Ob) => ((-6) ≤ y.1.toInt ∧ y.1.toInt ≤ 2147483647) ∧ IvX9 y.2 ∧ Kp [8, 13, 14, 15, 16, 19, 20, 21, 23, 26, 29, 30, 59] [7, 10, 12, 22, 24, 25, 27, 28, 48, 50, 51, 55] [(3, (0 : Int32))] o_me y.2)
                    unfold lb_X9_centuries_195
                    refine wp_if (fun c86 => ?_) (fun c86 => ?_)
                    · have c86 := cv_ge (a := v4_3.toInt) (b := 25) rfl (by decide) c86
                      have kc87 : (gA o_me_3 3 (0 : Int32).toNatClampNeg).toInt = (gA o_me 3 (0 : Int32).toNatClampNeg).toInt := congrArg Int32.toInt (hkp_me_3.2.2 (3, (0 : Int32)) (by decide))
                      have t88 := iaX9_3_0 hI_me_3 (j := (0 : Int32)) (by decide) (by decide)
                      refine wp_lt (fun o89 eo89 => ?_)
                      have hIo89 : IvX9 o89 := by rw [eo89]; exact ipX9_62 hI_me_3 ⟨by omega, by omega⟩
                      have ko89_k90 : (gA o89 3 (0 : Int32).toNatClampNeg).toInt = (gA o_me_3 3 (0 : Int32).toNatClampNeg).toInt := by rw [eo89]; rfl
                      have ko89_k91 : (gI o89 20).toInt = (gI o_me_3 20).toInt := by rw [eo89]; rfl
                      have ko89_k92 : (gI o89 43).toInt = (gI o_me_3 43).toInt := by rw [eo89]; rfl
                      have ko89_v : (gI o89 62).toInt = (gA o_me_3 3 (0 : Int32).toNatClampNeg).toInt := by rw [eo89]; rfl
                      have hkpo89 : Kp [8, 13, 14, 15, 16, 19, 20, 21, 23, 26, 29, 30, 59] [7, 10, 12, 22, 24, 25, 27, 28, 48, 50, 51, 55] [(3, (0 : Int32))] o_me o89 := hkp_me_3.trans (by rw [eo89]; exact Kp.sI (by decide))
                      refine wp_bd (s_X9_putBack   o89 (16 : Int32)  hIo89  ⟨by decide, by decide⟩) (fun z93 hz93 => ?_)
                      obtain ⟨hz93_0, hz93_1⟩ := hz93
                      have hkpz93_me : Kp [8, 13, 14, 15, 16, 19, 20, 21, 23, 26, 29, 30, 59] [7, 10, 12, 22, 24, 25, 27, 28, 48, 50, 51, 55] [(3, (0 : Int32))] o_me z93 := hkpo89.trans (hz93_1.mono (by decide) (by decide) (by decide))
                      have kz93_k94 : (gI z93 20).toInt = (gI o89 20).toInt := congrArg Int32.toInt (hz93_1.1 20 (by decide))
                      have kz93_k95 : (gI z93 43).toInt = (gI o89 43).toInt := congrArg Int32.toInt (hz93_1.1 43 (by decide))
                      have kz93_k96 : (gI z93 62).toInt = (gI o89 62).toInt := congrArg Int32.toInt (hz93_1.1 62 (by decide))
                      have rg98 := i32_rg v3_3
                      refine wp_bd (s_X9_tell   z93 v3_3  hz93_0  ⟨by omega, by omega⟩) (fun z97 hz97 => ?_)
                      obtain ⟨hz97_0, hz97_1, hz97_2⟩ := hz97
                      have hkpz97_me : Kp [8, 13, 14, 15, 16, 19, 20, 21, 23, 26, 29, 30, 59] [7, 10, 12, 22, 24, 25, 27, 28, 48, 50, 51, 55] [(3, (0 : Int32))] o_me z97.2 := hkpz93_me.trans (hz97_2.mono (by decide) (by decide) (by decide))
                      have kz97_k99 : (gI z97.2 20).toInt = (gI z93 20).toInt := congrArg Int32.toInt (hz97_2.1 20 (by decide))
                      have kz97_k100 : (gI z97.2 43).toInt = (gI z93 43).toInt := congrArg Int32.toInt (hz97_2.1 43 (by decide))
                      have kz97_k101 : (gI z97.2 62).toInt = (gI z93 62).toInt := congrArg Int32.toInt (hz97_2.1 62 (by decide))
                      refine wp_some ?_
                      have rg102 := i32_rg z97.1
                      exact (show ((-6) ≤ z97.1.toInt ∧ z97.1.toInt ≤ 2147483647) ∧ IvX9 z97.2 ∧ Kp [8, 13, 14, 15, 16, 19, 20, 21, 23, 26, 29, 30, 59] [7, 10, 12, 22, 24, 25, 27, 28, 48, 50, 51, 55] [(3, (0 : Int32))] o_me z97.2 from ⟨⟨by omega, by omega⟩, hz97_1, hkpz97_me⟩)
                    · have c86 := cv_nge (a := v4_3.toInt) (b := 25) rfl (by decide) c86
                      have t103 : ((4 : Int32) + v4_3).toInt = 4 + v4_3.toInt := i32_add (by decide) rfl (by omega) (by omega)
                      refine wp_gd (zin_of (m := 5484) rfl (by omega) (by omega)) ?_
                      refine wp_gd (zin_of (m := 25) rfl (by omega) (by omega)) ?_
                      refine wp_lt (fun o104 eo104 => ?_)
                      have hIo104 : IvX9 o104 := by rw [eo104]; exact hI_me_3
                      have ko104_k105 : (gI o104 20).toInt = (gI o_me_3 20).toInt := by rw [eo104]; rfl
                      have ko104_k106 : (gI o104 43).toInt = (gI o_me_3 43).toInt := by rw [eo104]; rfl
                      have ko104_v : (gA o104 61 v4_3.toNatClampNeg).toInt = (gA o_me_3 3 ((4 : Int32) + v4_3).toNatClampNeg).toInt := by rw [eo104]; exact congrArg Int32.toInt (upd_eq (g := gA o_me_3 61) (i := v4_3) (v := (gA o_me_3 3 ((4 : Int32) + v4_3).toNatClampNeg)))
                      have hkpo104 : Kp [8, 13, 14, 15, 16, 19, 20, 21, 23, 26, 29, 30, 59] [7, 10, 12, 22, 24, 25, 27, 28, 48, 50, 51, 55] [(3, (0 : Int32))] o_me o104 := hkp_me_3.trans (by rw [eo104]; exact Kp.tA (by decide) (by decide))
                      refine wp_lt (fun x107 ex107 => ?_)
                      have tx107 : x107.toInt = v4_3.toInt + 1 := by rw [ex107]; exact i32_add rfl (by decide) (by omega) (by omega)
                      exact ih3 v3_3 x107 o104 hIo104 hkpo104 ⟨by omega, by omega⟩ ⟨by omega, by omega⟩ ⟨by omega, by omega⟩ ⟨by omega, by omega⟩ (by omega) (by omega) (by omega) (by omega) (by omega)
                exact lp3 zfu v3_1 (0 : Int32) o_me_1 hI_me_1 hkp_me_1 ⟨by omega, by omega⟩ ⟨by decide, by decide⟩ ⟨by omega, by omega⟩ ⟨by omega, by omega⟩ (by omega) (by omega) (by omega) (by omega) (by show _ < 100000; omega)
              · have c75 := cv_nge (a := (gA o_me_1 3 (4 : Int32).toNatClampNeg).toInt) (b := 999) rfl (by decide) c75
                have kc108 : (gA o_me_1 3 (0 : Int32).toNatClampNeg).toInt = (gA o_me 3 (0 : Int32).toNatClampNeg).toInt := congrArg Int32.toInt (hkp_me_1.2.2 (3, (0 : Int32)) (by decide))
                have t109 := iaX9_3_0 hI_me_1 (j := (0 : Int32)) (by decide) (by decide)
                refine wp_bd (s_X9_draw   o_me_1 (gA o_me_1 3 (0 : Int32).toNatClampNeg)  hI_me_1  ⟨by omega, by omega⟩) (fun z110 hz110 => ?_)
                obtain ⟨hz110_0, hz110_1, hz110_2, hz110_3⟩ := hz110
                have hkpz110_me : Kp [8, 13, 14, 15, 16, 19, 20, 21, 23, 26, 29, 30, 59] [7, 10, 12, 22, 24, 25, 27, 28, 48, 50, 51, 55] [(3, (0 : Int32))] o_me z110.2 := hkp_me_1.trans (hz110_2.mono (by decide) (by decide) (by decide))
                have kz110_k111 : (gA z110.2 3 (0 : Int32).toNatClampNeg).toInt = (gA o_me_1 3 (0 : Int32).toNatClampNeg).toInt := congrArg (fun g => (g (0 : Int32).toNatClampNeg).toInt) (hz110_2.2.1 3 (by decide))
                have kz110_k112 : (gA z110.2 3 (4 : Int32).toNatClampNeg).toInt = (gA o_me_1 3 (4 : Int32).toNatClampNeg).toInt := congrArg (fun g => (g (4 : Int32).toNatClampNeg).toInt) (hz110_2.2.1 3 (by decide))
                have kz110_k113 : (gI z110.2 20).toInt = (gI o_me_1 20).toInt := congrArg Int32.toInt (hz110_2.1 20 (by decide))
                have kz110_k114 : (gI z110.2 43).toInt = (gI o_me_1 43).toInt := congrArg Int32.toInt (hz110_2.1 43 (by decide))
                refine wp_bd (s_X9_draw   z110.2 (4 : Int32)  hz110_1  ⟨by decide, by decide⟩) (fun z115 hz115 => ?_)
                obtain ⟨hz115_0, hz115_1, hz115_2, hz115_3⟩ := hz115
                have hkpz115_me : Kp [8, 13, 14, 15, 16, 19, 20, 21, 23, 26, 29, 30, 59] [7, 10, 12, 22, 24, 25, 27, 28, 48, 50, 51, 55] [(3, (0 : Int32))] o_me z115.2 := hkpz110_me.trans (hz115_2.mono (by decide) (by decide) (by decide))
                have kz115_k116 : (gA z115.2 3 (0 : Int32).toNatClampNeg).toInt = (gA z110.2 3 (0 : Int32).toNatClampNeg).toInt := congrArg (fun g => (g (0 : Int32).toNatClampNeg).toInt) (hz115_2.2.1 3 (by decide))
                have kz115_k117 : (gA z115.2 3 (4 : Int32).toNatClampNeg).toInt = (gA z110.2 3 (4 : Int32).toNatClampNeg).toInt := congrArg (fun g => (g (4 : Int32).toNatClampNeg).toInt) (hz115_2.2.1 3 (by decide))
                have kz115_k118 : (gI z115.2 20).toInt = (gI z110.2 20).toInt := congrArg Int32.toInt (hz115_2.1 20 (by decide))
                have kz115_k119 : (gI z115.2 43).toInt = (gI z110.2 43).toInt := congrArg Int32.toInt (hz115_2.1 43 (by decide))
                refine wp_bd (s_X9_draw   z115.2 (4 : Int32)  hz115_1  ⟨by decide, by decide⟩) (fun z120 hz120 => ?_)
                obtain ⟨hz120_0, hz120_1, hz120_2, hz120_3⟩ := hz120
                have hkpz120_me : Kp [8, 13, 14, 15, 16, 19, 20, 21, 23, 26, 29, 30, 59] [7, 10, 12, 22, 24, 25, 27, 28, 48, 50, 51, 55] [(3, (0 : Int32))] o_me z120.2 := hkpz115_me.trans (hz120_2.mono (by decide) (by decide) (by decide))
                have kz120_k121 : (gA z120.2 3 (0 : Int32).toNatClampNeg).toInt = (gA z115.2 3 (0 : Int32).toNatClampNeg).toInt := congrArg (fun g => (g (0 : Int32).toNatClampNeg).toInt) (hz120_2.2.1 3 (by decide))
                have kz120_k122 : (gA z120.2 3 (4 : Int32).toNatClampNeg).toInt = (gA z115.2 3 (4 : Int32).toNatClampNeg).toInt := congrArg (fun g => (g (4 : Int32).toNatClampNeg).toInt) (hz120_2.2.1 3 (by decide))
                have kz120_k123 : (gI z120.2 20).toInt = (gI z115.2 20).toInt := congrArg Int32.toInt (hz120_2.1 20 (by decide))
                have kz120_k124 : (gI z120.2 43).toInt = (gI z115.2 43).toInt := congrArg Int32.toInt (hz120_2.1 43 (by decide))
                refine wp_if (fun c125 => ?_) (fun c125 => ?_)
                · have c125 := cv_ge (a := z120.1.toInt) (b := 2) rfl (by decide) c125
                  unfold bk_X9_centuries_140
                  refine wp_if (fun c126 => ?_) (fun c126 => ?_)
                  · have c126 := cv_eq (a := z120.1.toInt) (b := 2) rfl (by decide) c126
                    refine wp_bd (s_X9_layPlaces   z120.2 z115.1  hz120_1  ⟨by omega, by omega⟩ ⟨by omega, by omega⟩) (fun z127 hz127 => ?_)
                    obtain ⟨hz127_0, hz127_1⟩ := hz127
                    have hkpz127_me : Kp [8, 13, 14, 15, 16, 19, 20, 21, 23, 26, 29, 30, 59] [7, 10, 12, 22, 24, 25, 27, 28, 48, 50, 51, 55] [(3, (0 : Int32))] o_me z127 := hkpz120_me.trans (hz127_1.mono (by decide) (by decide) (by decide))
                    have kz127_k128 : (gA z127 3 (0 : Int32).toNatClampNeg).toInt = (gA z120.2 3 (0 : Int32).toNatClampNeg).toInt := congrArg (fun g => (g (0 : Int32).toNatClampNeg).toInt) (hz127_1.2.1 3 (by decide))
                    have kz127_k129 : (gA z127 3 (4 : Int32).toNatClampNeg).toInt = (gA z120.2 3 (4 : Int32).toNatClampNeg).toInt := congrArg (fun g => (g (4 : Int32).toNatClampNeg).toInt) (hz127_1.2.1 3 (by decide))
                    have kz127_k130 : (gI z127 20).toInt = (gI z120.2 20).toInt := congrArg Int32.toInt (hz127_1.1 20 (by decide))
                    have t131 := igX9_43 hz127_0
                    refine wp_if (fun c132 => ?_) (fun c132 => ?_)
                    · have c132 := cv_le (a := (gI z127 43).toInt) (b := 0) rfl (by decide) c132
                      unfold bk_X9_centuries_169
                      refine wp_if (fun c133 => ?_) (fun c133 => ?_)
                      · have c133 := cv_eq (a := z120.1.toInt) (b := 3) rfl (by decide) c133
                        exfalso; omega
                      · have c133 := cv_ne (a := z120.1.toInt) (b := 3) rfl (by decide) c133
                        unfold bk_X9_centuries_181
                        refine wp_bd (s_X9_passIt   z127  hz127_0  ⟨by omega, by omega⟩) (fun z134 hz134 => ?_)
                        obtain ⟨hz134_0, hz134_1, hz134_2⟩ := hz134
                        have hkpz134_me : Kp [8, 13, 14, 15, 16, 19, 20, 21, 23, 26, 29, 30, 59] [7, 10, 12, 22, 24, 25, 27, 28, 48, 50, 51, 55] [(3, (0 : Int32))] o_me z134.2 := hkpz127_me.trans (hz134_2.mono (by decide) (by decide) (by decide))
                        have kz134_k135 : (gI z134.2 20).toInt = (gI z127 20).toInt := congrArg Int32.toInt (hz134_2.1 20 (by decide))
                        have kz134_k136 : (gI z134.2 43).toInt = (gI z127 43).toInt := congrArg Int32.toInt (hz134_2.1 43 (by decide))
                        refine wp_lt (fun x137 ex137 => ?_)
                        have tx137 : x137.toInt = v4_1.toInt + 1 := by rw [ex137]; exact i32_add rfl (by decide) (by omega) (by omega)
                        exact ih1 v2_1 v3_1 x137 z134.2 hz134_1 hkpz134_me ⟨by omega, by omega⟩ ⟨by omega, by omega⟩ ⟨by omega, by omega⟩ ⟨by omega, by omega⟩ ⟨by omega, by omega⟩ (by omega) (by omega) (by omega) (by omega)
                    · have c132 := cv_nle (a := (gI z127 43).toInt) (b := 0) rfl (by decide) c132
                      refine wp_bd (s_X9_raceIt   z127 z115.1  hz127_0  ⟨by omega, by omega⟩ ⟨by omega, by omega⟩) (fun z138 hz138 => ?_)
                      obtain ⟨hz138_0, hz138_1, hz138_2⟩ := hz138
                      have hkpz138_me : Kp [8, 13, 14, 15, 16, 19, 20, 21, 23, 26, 29, 30, 59] [7, 10, 12, 22, 24, 25, 27, 28, 48, 50, 51, 55] [(3, (0 : Int32))] o_me z138.2 := hkpz127_me.trans (hz138_2.mono (by decide) (by decide) (by decide))
                      have kz138_k139 : (gI z138.2 20).toInt = (gI z127 20).toInt := congrArg Int32.toInt (hz138_2.1 20 (by decide))
                      have kz138_k140 : (gI z138.2 43).toInt = (gI z127 43).toInt := congrArg Int32.toInt (hz138_2.1 43 (by decide))
                      refine wp_lt (fun x141 ex141 => ?_)
                      have tx141 : x141.toInt = v3_1.toInt + 1 := by rw [ex141]; exact i32_add rfl (by decide) (by omega) (by omega)
                      unfold bk_X9_centuries_169
                      refine wp_if (fun c142 => ?_) (fun c142 => ?_)
                      · have c142 := cv_eq (a := z120.1.toInt) (b := 3) rfl (by decide) c142
                        exfalso; omega
                      · have c142 := cv_ne (a := z120.1.toInt) (b := 3) rfl (by decide) c142
                        unfold bk_X9_centuries_181
                        refine wp_bd (s_X9_passIt   z138.2  hz138_1  ⟨by omega, by omega⟩) (fun z143 hz143 => ?_)
                        obtain ⟨hz143_0, hz143_1, hz143_2⟩ := hz143
                        have hkpz143_me : Kp [8, 13, 14, 15, 16, 19, 20, 21, 23, 26, 29, 30, 59] [7, 10, 12, 22, 24, 25, 27, 28, 48, 50, 51, 55] [(3, (0 : Int32))] o_me z143.2 := hkpz138_me.trans (hz143_2.mono (by decide) (by decide) (by decide))
                        have kz143_k144 : (gI z143.2 20).toInt = (gI z138.2 20).toInt := congrArg Int32.toInt (hz143_2.1 20 (by decide))
                        have kz143_k145 : (gI z143.2 43).toInt = (gI z138.2 43).toInt := congrArg Int32.toInt (hz143_2.1 43 (by decide))
                        refine wp_lt (fun x146 ex146 => ?_)
                        have tx146 : x146.toInt = v4_1.toInt + 1 := by rw [ex146]; exact i32_add rfl (by decide) (by omega) (by omega)
                        exact ih1 v2_1 x141 x146 z143.2 hz143_1 hkpz143_me ⟨by omega, by omega⟩ ⟨by omega, by omega⟩ ⟨by omega, by omega⟩ ⟨by omega, by omega⟩ ⟨by omega, by omega⟩ (by omega) (by omega) (by omega) (by omega)
                  · have c126 := cv_ne (a := z120.1.toInt) (b := 2) rfl (by decide) c126
                    unfold bk_X9_centuries_169
                    refine wp_if (fun c147 => ?_) (fun c147 => ?_)
                    · have c147 := cv_eq (a := z120.1.toInt) (b := 3) rfl (by decide) c147
                      refine wp_bd (s_X9_takeIt   z120.2 z110.1  hz120_1  ⟨by omega, by omega⟩) (fun z148 hz148 => ?_)
                      obtain ⟨hz148_0, hz148_1⟩ := hz148
                      have hkpz148_me : Kp [8, 13, 14, 15, 16, 19, 20, 21, 23, 26, 29, 30, 59] [7, 10, 12, 22, 24, 25, 27, 28, 48, 50, 51, 55] [(3, (0 : Int32))] o_me z148 := hkpz120_me.trans (hz148_1.mono (by decide) (by decide) (by decide))
                      have kz148_k149 : (gI z148 20).toInt = (gI z120.2 20).toInt := congrArg Int32.toInt (hz148_1.1 20 (by decide))
                      have kz148_k150 : (gI z148 43).toInt = (gI z120.2 43).toInt := congrArg Int32.toInt (hz148_1.1 43 (by decide))
                      unfold bk_X9_centuries_181
                      refine wp_bd (s_X9_passIt   z148  hz148_0  ⟨by omega, by omega⟩) (fun z151 hz151 => ?_)
                      obtain ⟨hz151_0, hz151_1, hz151_2⟩ := hz151
                      have hkpz151_me : Kp [8, 13, 14, 15, 16, 19, 20, 21, 23, 26, 29, 30, 59] [7, 10, 12, 22, 24, 25, 27, 28, 48, 50, 51, 55] [(3, (0 : Int32))] o_me z151.2 := hkpz148_me.trans (hz151_2.mono (by decide) (by decide) (by decide))
                      have kz151_k152 : (gI z151.2 20).toInt = (gI z148 20).toInt := congrArg Int32.toInt (hz151_2.1 20 (by decide))
                      have kz151_k153 : (gI z151.2 43).toInt = (gI z148 43).toInt := congrArg Int32.toInt (hz151_2.1 43 (by decide))
                      refine wp_lt (fun x154 ex154 => ?_)
                      have tx154 : x154.toInt = v4_1.toInt + 1 := by rw [ex154]; exact i32_add rfl (by decide) (by omega) (by omega)
                      exact ih1 v2_1 v3_1 x154 z151.2 hz151_1 hkpz151_me ⟨by omega, by omega⟩ ⟨by omega, by omega⟩ ⟨by omega, by omega⟩ ⟨by omega, by omega⟩ ⟨by omega, by omega⟩ (by omega) (by omega) (by omega) (by omega)
                    · have c147 := cv_ne (a := z120.1.toInt) (b := 3) rfl (by decide) c147
                      exfalso; omega
                · have c125 := cv_nge (a := z120.1.toInt) (b := 2) rfl (by decide) c125
                  have t155 : ((22 : Int32) + z110.1).toInt = 22 + z110.1.toInt := i32_add (by decide) rfl (by omega) (by omega)
                  refine wp_gd (zin_of (m := 5484) rfl (by omega) (by omega)) ?_
                  have t156 := iaX9_3_6 hz120_1 (j := (22 : Int32) + z110.1) (by omega) (by omega)
                  have t157 : ((1 : Int32) - (gA z120.2 3 ((22 : Int32) + z110.1).toNatClampNeg)).toInt = 1 - (gA z120.2 3 ((22 : Int32) + z110.1).toNatClampNeg).toInt := i32_sub (by decide) rfl (by omega) (by omega)
                  refine wp_gd (zin_of (m := 5484) rfl (by omega) (by omega)) ?_
                  refine wp_lt (fun o158 eo158 => ?_)
                  have hIo158 : IvX9 o158 := by rw [eo158]; exact ibX9_3 hz120_1 (by omega) (by omega) (Or.inr (Or.inl (by first | omega | decide))) (Or.inr (Or.inl (by first | omega | decide))) (Or.inr (Or.inl (by first | omega | decide))) (Or.inr (Or.inl (by first | omega | decide))) (Or.inr (Or.inl (by first | omega | decide))) (Or.inr (Or.inl (by first | omega | decide))) (Or.inr (Or.inr ⟨by omega, by omega⟩)) (Or.inl (by first | omega | decide)) (Or.inl (by first | omega | decide))
                  have ko158_k159 : (gA o158 3 (0 : Int32).toNatClampNeg).toInt = (gA z120.2 3 (0 : Int32).toNatClampNeg).toInt := by rw [eo158]; exact congrArg Int32.toInt (upd_ne (g := gA z120.2 3) (i := ((22 : Int32) + z110.1)) (j := (0 : Int32)) (v := ((1 : Int32) - (gA z120.2 3 ((22 : Int32) + z110.1).toNatClampNeg))) (by omega) (by decide) (by omega))
                  have ko158_k160 : (gA o158 3 (4 : Int32).toNatClampNeg).toInt = (gA z120.2 3 (4 : Int32).toNatClampNeg).toInt := by rw [eo158]; exact congrArg Int32.toInt (upd_ne (g := gA z120.2 3) (i := ((22 : Int32) + z110.1)) (j := (4 : Int32)) (v := ((1 : Int32) - (gA z120.2 3 ((22 : Int32) + z110.1).toNatClampNeg))) (by omega) (by decide) (by omega))
                  have ko158_k161 : (gI o158 20).toInt = (gI z120.2 20).toInt := by rw [eo158]; rfl
                  have ko158_k162 : (gI o158 43).toInt = (gI z120.2 43).toInt := by rw [eo158]; rfl
                  have ko158_v : (gA o158 3 ((22 : Int32) + z110.1).toNatClampNeg).toInt = ((1 : Int32) - (gA z120.2 3 ((22 : Int32) + z110.1).toNatClampNeg)).toInt := by rw [eo158]; exact congrArg Int32.toInt (upd_eq (g := gA z120.2 3) (i := ((22 : Int32) + z110.1)) (v := ((1 : Int32) - (gA z120.2 3 ((22 : Int32) + z110.1).toNatClampNeg))))
                  have hkpo158 : Kp [8, 13, 14, 15, 16, 19, 20, 21, 23, 26, 29, 30, 59] [7, 10, 12, 22, 24, 25, 27, 28, 48, 50, 51, 55] [(3, (0 : Int32))] o_me o158 := hkpz120_me.trans (by rw [eo158]; exact kp_tA0 (by decide) (by omega))
                  unfold bk_X9_centuries_140
                  refine wp_if (fun c163 => ?_) (fun c163 => ?_)
                  · have c163 := cv_eq (a := z120.1.toInt) (b := 2) rfl (by decide) c163
                    exfalso; omega
                  · have c163 := cv_ne (a := z120.1.toInt) (b := 2) rfl (by decide) c163
                    unfold bk_X9_centuries_169
                    refine wp_if (fun c164 => ?_) (fun c164 => ?_)
                    · have c164 := cv_eq (a := z120.1.toInt) (b := 3) rfl (by decide) c164
                      exfalso; omega
                    · have c164 := cv_ne (a := z120.1.toInt) (b := 3) rfl (by decide) c164
                      unfold bk_X9_centuries_181
                      refine wp_bd (s_X9_passIt   o158  hIo158  ⟨by omega, by omega⟩) (fun z165 hz165 => ?_)
                      obtain ⟨hz165_0, hz165_1, hz165_2⟩ := hz165
                      have hkpz165_me : Kp [8, 13, 14, 15, 16, 19, 20, 21, 23, 26, 29, 30, 59] [7, 10, 12, 22, 24, 25, 27, 28, 48, 50, 51, 55] [(3, (0 : Int32))] o_me z165.2 := hkpo158.trans (hz165_2.mono (by decide) (by decide) (by decide))
                      have kz165_k166 : (gI z165.2 20).toInt = (gI o158 20).toInt := congrArg Int32.toInt (hz165_2.1 20 (by decide))
                      have kz165_k167 : (gI z165.2 43).toInt = (gI o158 43).toInt := congrArg Int32.toInt (hz165_2.1 43 (by decide))
                      refine wp_lt (fun x168 ex168 => ?_)
                      have tx168 : x168.toInt = v4_1.toInt + 1 := by rw [ex168]; exact i32_add rfl (by decide) (by omega) (by omega)
                      exact ih1 v2_1 v3_1 x168 z165.2 hz165_1 hkpz165_me ⟨by omega, by omega⟩ ⟨by omega, by omega⟩ ⟨by omega, by omega⟩ ⟨by omega, by omega⟩ ⟨by omega, by omega⟩ (by omega) (by omega) (by omega) (by omega)
        exact lp1 zfu p1 (0 : Int32) (0 : Int32) o28 hIo28 hkpo28 ⟨by omega, by omega⟩ ⟨by decide, by decide⟩ ⟨by decide, by decide⟩ ⟨by omega, by omega⟩ ⟨by omega, by omega⟩ (by omega) (by omega) (by omega) (by show _ < 100000; omega)

set_option maxHeartbeats 4000000 in
set_option maxRecDepth 100000 in
theorem s_X9_change (o_me : Ob) (p0 : Int32) (p1 : Int32) (hI_me : IvX9 o_me) (q0 : 36 ≤ p0.toInt ∧ p0.toInt ≤ 63) : wp (f_X9_change   o_me p0 p1) (fun (y : Int32 × Ob) => IvX9 y.2 ∧ Kp [8, 13, 14, 15, 16, 19, 20, 21, 23, 26, 29, 30, 34, 38, 43, 59, 62] [7, 10, 12, 22, 24, 25, 27, 28, 42, 48, 50, 51, 55] [(3, (0 : Int32))] o_me y.2) := by
  have li0 : (0 : Int32).toInt = 0 := by decide
  unfold f_X9_change
  refine wp_gd (zin_of (m := 5484) rfl (by omega) (by omega)) ?_
  refine wp_lt (fun x1 ex1 => ?_)
  have tx1 : x1.toInt = (gA o_me 3 p0.toNatClampNeg).toInt := by rw [ex1]
  refine wp_gd (zin_of (m := 5484) rfl (by omega) (by omega)) ?_
  refine wp_lt (fun o2 eo2 => ?_)
  have hIo2 : IvX9 o2 := by rw [eo2]; exact ibX9_3 hI_me (by omega) (by omega) (Or.inr (Or.inl (by first | omega | decide))) (Or.inr (Or.inl (by first | omega | decide))) (Or.inr (Or.inl (by first | omega | decide))) (Or.inr (Or.inl (by first | omega | decide))) (Or.inr (Or.inl (by first | omega | decide))) (Or.inr (Or.inl (by first | omega | decide))) (Or.inr (Or.inl (by first | omega | decide))) (Or.inr (Or.inl (by first | omega | decide))) (Or.inl (by first | omega | decide))
  have ko2_v : (gA o2 3 p0.toNatClampNeg).toInt = p1.toInt := by rw [eo2]; exact congrArg Int32.toInt (upd_eq (g := gA o_me 3) (i := p0) (v := p1))
  have hkpo2 : Kp [8, 13, 14, 15, 16, 19, 20, 21, 23, 26, 29, 30, 34, 38, 43, 59, 62] [7, 10, 12, 22, 24, 25, 27, 28, 42, 48, 50, 51, 55] [(3, (0 : Int32))] o_me o2 := Kp.rf.trans (by rw [eo2]; exact kp_tA0 (by decide) (by omega))
  refine wp_lt (fun o3 eo3 => ?_)
  have hIo3 : IvX9 o3 := by rw [eo3]; exact hIo2
  have ko3_k4 : (gA o3 3 p0.toNatClampNeg).toInt = (gA o2 3 p0.toNatClampNeg).toInt := by rw [eo3]; rfl
  have ko3_v : (gI o3 1).toInt = 0 := by rw [eo3]; exact (show ((0 : Int32)).toInt = _ from by decide)
  have hkpo3 : Kp [8, 13, 14, 15, 16, 19, 20, 21, 23, 26, 29, 30, 34, 38, 43, 59, 62] [7, 10, 12, 22, 24, 25, 27, 28, 42, 48, 50, 51, 55] [(3, (0 : Int32))] o_me o3 := hkpo2.trans (by rw [eo3]; exact Kp.sI (by decide))
  refine wp_some ?_
  exact (show IvX9 o3 ∧ Kp [8, 13, 14, 15, 16, 19, 20, 21, 23, 26, 29, 30, 34, 38, 43, 59, 62] [7, 10, 12, 22, 24, 25, 27, 28, 42, 48, 50, 51, 55] [(3, (0 : Int32))] o_me o3 from ⟨hIo3, hkpo3⟩)

set_option maxHeartbeats 4000000 in
set_option maxRecDepth 100000 in
theorem s_X9_circles (o_me : Ob) (hI_me : IvX9 o_me)  : wp (f_X9_circles   o_me) (fun (y : Int32 × Ob) => IvX9 y.2 ∧ Kp [8, 13, 14, 15, 16, 19, 20, 21, 23, 26, 29, 30, 34, 38, 43, 59, 62] [3, 7, 10, 12, 22, 24, 25, 27, 28, 42, 48, 50, 51, 55] [(3, (0 : Int32))] o_me y.2) := by
  have li0 : (0 : Int32).toInt = 0 := by decide
  have li1 : (1 : Int32).toInt = 1 := by decide
  have li2 : (64 : Int32).toInt = 64 := by decide
  unfold f_X9_circles
  refine wp_lt (fun o1 eo1 => ?_)
  have hIo1 : IvX9 o1 := by rw [eo1]; exact hI_me
  have ko1_v : (gI o1 0).toInt = 0 := by rw [eo1]; exact (show ((0 : Int32)).toInt = _ from by decide)
  have hkpo1 : Kp [8, 13, 14, 15, 16, 19, 20, 21, 23, 26, 29, 30, 34, 38, 43, 59, 62] [3, 7, 10, 12, 22, 24, 25, 27, 28, 42, 48, 50, 51, 55] [(3, (0 : Int32))] o_me o1 := Kp.rf.trans (by rw [eo1]; exact Kp.sI (by decide))
  have lp1 : ∀ (N1 : Nat) (v1_1 : Int32) (v2_1 : Int32) (o_me_1 : Ob), IvX9 o_me_1 → Kp [8, 13, 14, 15, 16, 19, 20, 21, 23, 26, 29, 30, 34, 38, 43, 59, 62] [3, 7, 10, 12, 22, 24, 25, 27, 28, 42, 48, 50, 51, 55] [(3, (0 : Int32))] o_me o_me_1 → (0 ≤ v2_1.toInt ∧ v2_1.toInt ≤ 7) → (7 - v2_1.toInt).toNat < N1 → wp (lp_X9_circles_9   N1 (v1_1, v2_1, o_me_1)) (fun (y : Int32 × Ob) => IvX9 y.2 ∧ Kp [8, 13, 14, 15, 16, 19, 20, 21, 23, 26, 29, 30, 34, 38, 43, 59, 62] [3, 7, 10, 12, 22, 24, 25, 27, 28, 42, 48, 50, 51, 55] [(3, (0 : Int32))] o_me y.2) := by
    intro N1
    induction N1 with
    | zero =>
      intro v1_1 v2_1 o_me_1 hI_me_1 hkp_me_1 hh2 hN1
      exact absurd hN1 (Nat.not_lt_zero _)
    | succ N1 ihx =>
      have ih1 := ihx
      intro v1_1 v2_1 o_me_1 hI_me_1 hkp_me_1 hh2 hN1
      show wp (lb_X9_circles_9   (lp_X9_circles_9   N1) v1_1 v2_1 o_me_1) (fun (y : Int32 × Ob) => IvX9 y.2 ∧ Kp [8, 13, 14, 15, 16, 19, 20, 21, 23, 26, 29, 30, 34, 38, 43, 59, 62] [3, 7, 10, 12, 22, 24, 25, 27, 28, 42, 48, 50, 51, 55] [(3, (0 : Int32))] o_me y.2)
      unfold lb_X9_circles_9
      have kc3 : (gA o_me_1 3 (0 : Int32).toNatClampNeg).toInt = (gA o_me 3 (0 : Int32).toNatClampNeg).toInt := congrArg Int32.toInt (hkp_me_1.2.2 (3, (0 : Int32)) (by decide))
      have t4 := iaX9_3_0 hI_me_1 (j := (0 : Int32)) (by decide) (by decide)
      refine wp_if (fun c5 => ?_) (fun c5 => ?_)
      · have c5 := cv_ge (a := v2_1.toInt) (b := (gA o_me_1 3 (0 : Int32).toNatClampNeg).toInt) rfl rfl c5
        refine wp_some ?_
        exact (show IvX9 o_me_1 ∧ Kp [8, 13, 14, 15, 16, 19, 20, 21, 23, 26, 29, 30, 34, 38, 43, 59, 62] [3, 7, 10, 12, 22, 24, 25, 27, 28, 42, 48, 50, 51, 55] [(3, (0 : Int32))] o_me o_me_1 from ⟨hI_me_1, hkp_me_1⟩)
      · have c5 := cv_nge (a := v2_1.toInt) (b := (gA o_me_1 3 (0 : Int32).toNatClampNeg).toInt) rfl rfl c5
        have t6 : (v2_1 + (1 : Int32)).toInt = v2_1.toInt + 1 := i32_add rfl (by decide) (by omega) (by omega)
        refine wp_lt (fun x7 ex7 => ?_)
        have tx7 : x7.toInt = (v2_1 + (1 : Int32)).toInt := by rw [ex7]
        have lp2 : ∀ (N2 : Nat) (v1_2 : Int32) (v2_2 : Int32) (v3_2 : Int32) (o_me_2 : Ob), IvX9 o_me_2 → Kp [8, 13, 14, 15, 16, 19, 20, 21, 23, 26, 29, 30, 34, 38, 43, 59, 62] [3, 7, 10, 12, 22, 24, 25, 27, 28, 42, 48, 50, 51, 55] [(3, (0 : Int32))] o_me o_me_2 → (0 ≤ v2_2.toInt ∧ v2_2.toInt ≤ 6) → (1 ≤ v3_2.toInt ∧ v3_2.toInt ≤ 7) → (v2_2.toInt ≤ v3_2.toInt + (-1)) → (v2_2.toInt ≤ v2_1.toInt + 0) → (v2_1.toInt ≤ v2_2.toInt + 0) → (v2_2.toInt ≤ x7.toInt + (-1)) → (x7.toInt ≤ v2_2.toInt + 1) → (v2_1.toInt ≤ v3_2.toInt + (-1)) → (x7.toInt ≤ v3_2.toInt + 0) → (7 - v3_2.toInt).toNat < N2 → wp (lp_X9_circles_23  (lp_X9_circles_9   N1) N2 (v1_2, v2_2, v3_2, o_me_2)) (fun (y : Int32 × Ob) => IvX9 y.2 ∧ Kp [8, 13, 14, 15, 16, 19, 20, 21, 23, 26, 29, 30, 34, 38, 43, 59, 62] [3, 7, 10, 12, 22, 24, 25, 27, 28, 42, 48, 50, 51, 55] [(3, (0 : Int32))] o_me y.2) := by
          intro N2
          induction N2 with
          | zero =>
            intro v1_2 v2_2 v3_2 o_me_2 hI_me_2 hkp_me_2 hh8 hh9 hh10 hh11 hh12 hh13 hh14 hh15 hh16 hN2
            exact absurd hN2 (Nat.not_lt_zero _)
          | succ N2 ihx =>
            have ih2 := ihx
            intro v1_2 v2_2 v3_2 o_me_2 hI_me_2 hkp_me_2 hh8 hh9 hh10 hh11 hh12 hh13 hh14 hh15 hh16 hN2
            show wp (lb_X9_circles_23  (lp_X9_circles_9   N1) (lp_X9_circles_23  (lp_X9_circles_9   N1) N2) v1_2 v2_2 v3_2 o_me_2) (fun (y : Int32 × Ob) => IvX9 y.2 ∧ Kp [8, 13, 14, 15, 16, 19, 20, 21, 23, 26, 29, 30, 34, 38, 43, 59, 62] [3, 7, 10, 12, 22, 24, 25, 27, 28, 42, 48, 50, 51, 55] [(3, (0 : Int32))] o_me y.2)
            unfold lb_X9_circles_23
            have kc17 : (gA o_me_2 3 (0 : Int32).toNatClampNeg).toInt = (gA o_me 3 (0 : Int32).toNatClampNeg).toInt := congrArg Int32.toInt (hkp_me_2.2.2 (3, (0 : Int32)) (by decide))
            have t18 := iaX9_3_0 hI_me_2 (j := (0 : Int32)) (by decide) (by decide)
            refine wp_if (fun c19 => ?_) (fun c19 => ?_)
            · have c19 := cv_ge (a := v3_2.toInt) (b := (gA o_me_2 3 (0 : Int32).toNatClampNeg).toInt) rfl rfl c19
              refine wp_lt (fun x20 ex20 => ?_)
              have tx20 : x20.toInt = v2_2.toInt + 1 := by rw [ex20]; exact i32_add rfl (by decide) (by omega) (by omega)
              exact ih1 v1_2 x20 o_me_2 hI_me_2 hkp_me_2 ⟨by omega, by omega⟩ (by omega)
            · have c19 := cv_nge (a := v3_2.toInt) (b := (gA o_me_2 3 (0 : Int32).toNatClampNeg).toInt) rfl rfl c19
              have t21 : (v2_2 + (1 : Int32)).toInt = v2_2.toInt + 1 := i32_add rfl (by decide) (by omega) (by omega)
              refine wp_lt (fun x22 ex22 => ?_)
              have tx22 : x22.toInt = (v2_2 + (1 : Int32)).toInt := by rw [ex22]
              have lp3 : ∀ (N3 : Nat) (v1_3 : Int32) (v2_3 : Int32) (v3_3 : Int32) (v4_3 : Int32) (o_me_3 : Ob), IvX9 o_me_3 → Kp [8, 13, 14, 15, 16, 19, 20, 21, 23, 26, 29, 30, 34, 38, 43, 59, 62] [3, 7, 10, 12, 22, 24, 25, 27, 28, 42, 48, 50, 51, 55] [(3, (0 : Int32))] o_me o_me_3 → (0 ≤ v2_3.toInt ∧ v2_3.toInt ≤ 5) → (1 ≤ v3_3.toInt ∧ v3_3.toInt ≤ 6) → (1 ≤ v4_3.toInt ∧ v4_3.toInt ≤ 7) → (v2_3.toInt ≤ v3_3.toInt + (-1)) → (v2_3.toInt ≤ v4_3.toInt + (-1)) → (v2_3.toInt ≤ v2_2.toInt + 0) → (v2_2.toInt ≤ v2_3.toInt + 0) → (v2_3.toInt ≤ x7.toInt + (-1)) → (x7.toInt ≤ v2_3.toInt + 1) → (v2_3.toInt ≤ x22.toInt + (-1)) → (x22.toInt ≤ v2_3.toInt + 1) → (v2_3.toInt ≤ v3_2.toInt + (-1)) → (v2_3.toInt ≤ v2_1.toInt + 0) → (v2_1.toInt ≤ v2_3.toInt + 0) → (v2_2.toInt ≤ v3_3.toInt + (-1)) → (x7.toInt ≤ v3_3.toInt + 0) → (x22.toInt ≤ v3_3.toInt + 0) → (v3_3.toInt ≤ v3_2.toInt + 0) → (v3_2.toInt ≤ v3_3.toInt + 0) → (v2_1.toInt ≤ v3_3.toInt + (-1)) → (v2_2.toInt ≤ v4_3.toInt + (-1)) → (x7.toInt ≤ v4_3.toInt + 0) → (x22.toInt ≤ v4_3.toInt + 0) → (v2_1.toInt ≤ v4_3.toInt + (-1)) → (7 - v4_3.toInt).toNat < N3 → wp (lp_X9_circles_38  (lp_X9_circles_9   N1) (lp_X9_circles_23  (lp_X9_circles_9   N1) N2) N3 (v1_3, v2_3, v3_3, v4_3, o_me_3)) (fun (y : Int32 × Ob) => IvX9 y.2 ∧ Kp [8, 13, 14, 15, 16, 19, 20, 21, 23, 26, 29, 30, 34, 38, 43, 59, 62] [3, 7, 10, 12, 22, 24, 25, 27, 28, 42, 48, 50, 51, 55] [(3, (0 : Int32))] o_me y.2) := by
                intro N3
                induction N3 with
                | zero =>
                  intro v1_3 v2_3 v3_3 v4_3 o_me_3 hI_me_3 hkp_me_3 hh23 hh24 hh25 hh26 hh27 hh28 hh29 hh30 hh31 hh32 hh33 hh34 hh35 hh36 hh37 hh38 hh39 hh40 hh41 hh42 hh43 hh44 hh45 hh46 hN3
                  exact absurd hN3 (Nat.not_lt_zero _)
                | succ N3 ihx =>
                  have ih3 := ihx
                  intro v1_3 v2_3 v3_3 v4_3 o_me_3 hI_me_3 hkp_me_3 hh23 hh24 hh25 hh26 hh27 hh28 hh29 hh30 hh31 hh32 hh33 hh34 hh35 hh36 hh37 hh38 hh39 hh40 hh41 hh42 hh43 hh44 hh45 hh46 hN3
                  show wp (lb_X9_circles_38  (lp_X9_circles_9   N1) (lp_X9_circles_23  (lp_X9_circles_9   N1) N2) (lp_X9_circles_38  (lp_X9_circles_9   N1) (lp_X9_circles_23  (lp_X9_circles_9   N1) N2) N3) v1_3 v2_3 v3_3 v4_3 o_me_3) (fun (y : Int32 × Ob) => IvX9 y.2 ∧ Kp [8, 13, 14, 15, 16, 19, 20, 21, 23, 26, 29, 30, 34, 38, 43, 59, 62] [3, 7, 10, 12, 22, 24, 25, 27, 28, 42, 48, 50, 51, 55] [(3, (0 : Int32))] o_me y.2)
                  unfold lb_X9_circles_38
                  have kc47 : (gA o_me_3 3 (0 : Int32).toNatClampNeg).toInt = (gA o_me 3 (0 : Int32).toNatClampNeg).toInt := congrArg Int32.toInt (hkp_me_3.2.2 (3, (0 : Int32)) (by decide))
                  have t48 := iaX9_3_0 hI_me_3 (j := (0 : Int32)) (by decide) (by decide)
                  refine wp_if (fun c49 => ?_) (fun c49 => ?_)
                  · have c49 := cv_ge (a := v4_3.toInt) (b := (gA o_me_3 3 (0 : Int32).toNatClampNeg).toInt) rfl rfl c49
                    refine wp_lt (fun x50 ex50 => ?_)
                    have tx50 : x50.toInt = v3_3.toInt + 1 := by rw [ex50]; exact i32_add rfl (by decide) (by omega) (by omega)
                    exact ih2 v1_3 v2_3 x50 o_me_3 hI_me_3 hkp_me_3 ⟨by omega, by omega⟩ ⟨by omega, by omega⟩ (by omega) (by omega) (by omega) (by omega) (by omega) (by omega) (by omega) (by omega)
                  · have c49 := cv_nge (a := v4_3.toInt) (b := (gA o_me_3 3 (0 : Int32).toNatClampNeg).toInt) rfl rfl c49
                    refine wp_if (fun c51 => ?_) (fun c51 => ?_)
                    · have c51 := cv_eq (a := v3_3.toInt) (b := v4_3.toInt) rfl rfl c51
                      unfold bk_X9_circles_110
                      obtain ⟨w52, ew52⟩ : ∃ z : Int32, z = (0 : Int32) := ⟨_, rfl⟩
                      have tw52 : w52.toInt = 0 := by rw [ew52]; decide
                      rw [show bk_X9_circles_111  (lp_X9_circles_9   N1) (lp_X9_circles_23  (lp_X9_circles_9   N1) N2) (lp_X9_circles_38  (lp_X9_circles_9   N1) (lp_X9_circles_23  (lp_X9_circles_9   N1) N2) N3) v2_3 v3_3 v4_3 (0 : Int32) v1_3 o_me_3 = bk_X9_circles_111  (lp_X9_circles_9   N1) (lp_X9_circles_23  (lp_X9_circles_9   N1) N2) (lp_X9_circles_38  (lp_X9_circles_9   N1) (lp_X9_circles_23  (lp_X9_circles_9   N1) N2) N3) v2_3 v3_3 v4_3 w52 v1_3 o_me_3 from by rw [ew52]]
                      unfold bk_X9_circles_111
                      have rg54 := i32_rg v1_3
                      have t53 : (v1_3 + w52).toInt = v1_3.toInt + w52.toInt := i32_add rfl rfl (by omega) (by omega)
                      refine wp_lt (fun x55 ex55 => ?_)
                      have tx55 : x55.toInt = (v1_3 + w52).toInt := by rw [ex55]
                      refine wp_lt (fun x56 ex56 => ?_)
                      have tx56 : x56.toInt = v4_3.toInt + 1 := by rw [ex56]; exact i32_add rfl (by decide) (by omega) (by omega)
                      exact ih3 x55 v2_3 v3_3 x56 o_me_3 hI_me_3 hkp_me_3 ⟨by omega, by omega⟩ ⟨by omega, by omega⟩ ⟨by omega, by omega⟩ (by omega) (by omega) (by omega) (by omega) (by omega) (by omega) (by omega) (by omega) (by omega) (by omega) (by omega) (by omega) (by omega) (by omega) (by omega) (by omega) (by omega) (by omega) (by omega) (by omega) (by omega) (by omega)
                    · have c51 := cv_ne (a := v3_3.toInt) (b := v4_3.toInt) rfl rfl c51
                      have t57 : ((64 : Int32) + v2_3).toInt = 64 + v2_3.toInt := i32_add (by decide) rfl (by omega) (by omega)
                      refine wp_gd (zin_of (m := 5484) rfl (by omega) (by omega)) ?_
                      refine wp_bd (s_X9_is   (gA o_me_3 3 ((64 : Int32) + v2_3).toNatClampNeg) v3_3    ) (fun z58 hz58 => ?_)
                      have hz58_0 := hz58
                      refine wp_if (fun c59 => ?_) (fun c59 => ?_)
                      · have c59 := cv_eq (a := z58.toInt) (b := 0) rfl (by decide) c59
                        unfold bk_X9_circles_110
                        obtain ⟨w60, ew60⟩ : ∃ z : Int32, z = (0 : Int32) := ⟨_, rfl⟩
                        have tw60 : w60.toInt = 0 := by rw [ew60]; decide
                        rw [show bk_X9_circles_111  (lp_X9_circles_9   N1) (lp_X9_circles_23  (lp_X9_circles_9   N1) N2) (lp_X9_circles_38  (lp_X9_circles_9   N1) (lp_X9_circles_23  (lp_X9_circles_9   N1) N2) N3) v2_3 v3_3 v4_3 (0 : Int32) v1_3 o_me_3 = bk_X9_circles_111  (lp_X9_circles_9   N1) (lp_X9_circles_23  (lp_X9_circles_9   N1) N2) (lp_X9_circles_38  (lp_X9_circles_9   N1) (lp_X9_circles_23  (lp_X9_circles_9   N1) N2) N3) v2_3 v3_3 v4_3 w60 v1_3 o_me_3 from by rw [ew60]]
                        unfold bk_X9_circles_111
                        have rg62 := i32_rg v1_3
                        have t61 : (v1_3 + w60).toInt = v1_3.toInt + w60.toInt := i32_add rfl rfl (by omega) (by omega)
                        refine wp_lt (fun x63 ex63 => ?_)
                        have tx63 : x63.toInt = (v1_3 + w60).toInt := by rw [ex63]
                        refine wp_lt (fun x64 ex64 => ?_)
                        have tx64 : x64.toInt = v4_3.toInt + 1 := by rw [ex64]; exact i32_add rfl (by decide) (by omega) (by omega)
                        exact ih3 x63 v2_3 v3_3 x64 o_me_3 hI_me_3 hkp_me_3 ⟨by omega, by omega⟩ ⟨by omega, by omega⟩ ⟨by omega, by omega⟩ (by omega) (by omega) (by omega) (by omega) (by omega) (by omega) (by omega) (by omega) (by omega) (by omega) (by omega) (by omega) (by omega) (by omega) (by omega) (by omega) (by omega) (by omega) (by omega) (by omega) (by omega) (by omega)
                      · have c59z := c59
                        have c59 := cv_ne (a := z58.toInt) (b := 0) rfl (by decide) c59
                        have t65 : ((64 : Int32) + v3_3).toInt = 64 + v3_3.toInt := i32_add (by decide) rfl (by omega) (by omega)
                        refine wp_gd (zin_of (m := 5484) rfl (by omega) (by omega)) ?_
                        refine wp_bd (s_X9_is   (gA o_me_3 3 ((64 : Int32) + v3_3).toNatClampNeg) v4_3    ) (fun z66 hz66 => ?_)
                        have hz66_0 := hz66
                        refine wp_if (fun c67 => ?_) (fun c67 => ?_)
                        · have c67 := cv_eq (a := z66.toInt) (b := 0) rfl (by decide) c67
                          unfold bk_X9_circles_110
                          obtain ⟨w68, ew68⟩ : ∃ z : Int32, z = (0 : Int32) := ⟨_, rfl⟩
                          have tw68 : w68.toInt = 0 := by rw [ew68]; decide
                          rw [show bk_X9_circles_111  (lp_X9_circles_9   N1) (lp_X9_circles_23  (lp_X9_circles_9   N1) N2) (lp_X9_circles_38  (lp_X9_circles_9   N1) (lp_X9_circles_23  (lp_X9_circles_9   N1) N2) N3) v2_3 v3_3 v4_3 (0 : Int32) v1_3 o_me_3 = bk_X9_circles_111  (lp_X9_circles_9   N1) (lp_X9_circles_23  (lp_X9_circles_9   N1) N2) (lp_X9_circles_38  (lp_X9_circles_9   N1) (lp_X9_circles_23  (lp_X9_circles_9   N1) N2) N3) v2_3 v3_3 v4_3 w68 v1_3 o_me_3 from by rw [ew68]]
                          unfold bk_X9_circles_111
                          have rg70 := i32_rg v1_3
                          have t69 : (v1_3 + w68).toInt = v1_3.toInt + w68.toInt := i32_add rfl rfl (by omega) (by omega)
                          refine wp_lt (fun x71 ex71 => ?_)
                          have tx71 : x71.toInt = (v1_3 + w68).toInt := by rw [ex71]
                          refine wp_lt (fun x72 ex72 => ?_)
                          have tx72 : x72.toInt = v4_3.toInt + 1 := by rw [ex72]; exact i32_add rfl (by decide) (by omega) (by omega)
                          exact ih3 x71 v2_3 v3_3 x72 o_me_3 hI_me_3 hkp_me_3 ⟨by omega, by omega⟩ ⟨by omega, by omega⟩ ⟨by omega, by omega⟩ (by omega) (by omega) (by omega) (by omega) (by omega) (by omega) (by omega) (by omega) (by omega) (by omega) (by omega) (by omega) (by omega) (by omega) (by omega) (by omega) (by omega) (by omega) (by omega) (by omega) (by omega) (by omega)
                        · have c67z := c67
                          have c67 := cv_ne (a := z66.toInt) (b := 0) rfl (by decide) c67
                          have t73 : ((64 : Int32) + v4_3).toInt = 64 + v4_3.toInt := i32_add (by decide) rfl (by omega) (by omega)
                          refine wp_gd (zin_of (m := 5484) rfl (by omega) (by omega)) ?_
                          refine wp_bd (s_X9_is   (gA o_me_3 3 ((64 : Int32) + v4_3).toNatClampNeg) v2_3    ) (fun z74 hz74 => ?_)
                          have hz74_0 := hz74
                          refine wp_if (fun c75 => ?_) (fun c75 => ?_)
                          · have c75 := cv_eq (a := z74.toInt) (b := 0) rfl (by decide) c75
                            unfold bk_X9_circles_110
                            obtain ⟨w76, ew76⟩ : ∃ z : Int32, z = (0 : Int32) := ⟨_, rfl⟩
                            have tw76 : w76.toInt = 0 := by rw [ew76]; decide
                            rw [show bk_X9_circles_111  (lp_X9_circles_9   N1) (lp_X9_circles_23  (lp_X9_circles_9   N1) N2) (lp_X9_circles_38  (lp_X9_circles_9   N1) (lp_X9_circles_23  (lp_X9_circles_9   N1) N2) N3) v2_3 v3_3 v4_3 (0 : Int32) v1_3 o_me_3 = bk_X9_circles_111  (lp_X9_circles_9   N1) (lp_X9_circles_23  (lp_X9_circles_9   N1) N2) (lp_X9_circles_38  (lp_X9_circles_9   N1) (lp_X9_circles_23  (lp_X9_circles_9   N1) N2) N3) v2_3 v3_3 v4_3 w76 v1_3 o_me_3 from by rw [ew76]]
                            unfold bk_X9_circles_111
                            have rg78 := i32_rg v1_3
                            have t77 : (v1_3 + w76).toInt = v1_3.toInt + w76.toInt := i32_add rfl rfl (by omega) (by omega)
                            refine wp_lt (fun x79 ex79 => ?_)
                            have tx79 : x79.toInt = (v1_3 + w76).toInt := by rw [ex79]
                            refine wp_lt (fun x80 ex80 => ?_)
                            have tx80 : x80.toInt = v4_3.toInt + 1 := by rw [ex80]; exact i32_add rfl (by decide) (by omega) (by omega)
                            exact ih3 x79 v2_3 v3_3 x80 o_me_3 hI_me_3 hkp_me_3 ⟨by omega, by omega⟩ ⟨by omega, by omega⟩ ⟨by omega, by omega⟩ (by omega) (by omega) (by omega) (by omega) (by omega) (by omega) (by omega) (by omega) (by omega) (by omega) (by omega) (by omega) (by omega) (by omega) (by omega) (by omega) (by omega) (by omega) (by omega) (by omega) (by omega) (by omega)
                          · have c75z := c75
                            have c75 := cv_ne (a := z74.toInt) (b := 0) rfl (by decide) c75
                            obtain ⟨w81, ew81⟩ : ∃ z : Int32, z = (1 : Int32) := ⟨_, rfl⟩
                            have tw81 : w81.toInt = 1 := by rw [ew81]; decide
                            rw [show bk_X9_circles_111  (lp_X9_circles_9   N1) (lp_X9_circles_23  (lp_X9_circles_9   N1) N2) (lp_X9_circles_38  (lp_X9_circles_9   N1) (lp_X9_circles_23  (lp_X9_circles_9   N1) N2) N3) v2_3 v3_3 v4_3 (1 : Int32) v1_3 o_me_3 = bk_X9_circles_111  (lp_X9_circles_9   N1) (lp_X9_circles_23  (lp_X9_circles_9   N1) N2) (lp_X9_circles_38  (lp_X9_circles_9   N1) (lp_X9_circles_23  (lp_X9_circles_9   N1) N2) N3) v2_3 v3_3 v4_3 w81 v1_3 o_me_3 from by rw [ew81]]
                            unfold bk_X9_circles_111
                            refine wp_lt (fun x82 ex82 => ?_)
                            have tx82 : x82.toInt = (v1_3 + w81).toInt := by rw [ex82]
                            refine wp_lt (fun x83 ex83 => ?_)
                            have tx83 : x83.toInt = v4_3.toInt + 1 := by rw [ex83]; exact i32_add rfl (by decide) (by omega) (by omega)
                            exact ih3 x82 v2_3 v3_3 x83 o_me_3 hI_me_3 hkp_me_3 ⟨by omega, by omega⟩ ⟨by omega, by omega⟩ ⟨by omega, by omega⟩ (by omega) (by omega) (by omega) (by omega) (by omega) (by omega) (by omega) (by omega) (by omega) (by omega) (by omega) (by omega) (by omega) (by omega) (by omega) (by omega) (by omega) (by omega) (by omega) (by omega) (by omega) (by omega)
              exact lp3 zfu v1_2 v2_2 v3_2 x22 o_me_2 hI_me_2 hkp_me_2 ⟨by omega, by omega⟩ ⟨by omega, by omega⟩ ⟨by omega, by omega⟩ (by omega) (by omega) (by omega) (by omega) (by omega) (by omega) (by omega) (by omega) (by omega) (by omega) (by omega) (by omega) (by omega) (by omega) (by omega) (by omega) (by omega) (by omega) (by omega) (by omega) (by omega) (by show _ < 100000; omega)
        exact lp2 zfu v1_1 v2_1 x7 o_me_1 hI_me_1 hkp_me_1 ⟨by omega, by omega⟩ ⟨by omega, by omega⟩ (by omega) (by omega) (by omega) (by omega) (by omega) (by omega) (by omega) (by show _ < 100000; omega)
  exact lp1 zfu (0 : Int32) (0 : Int32) o1 hIo1 hkpo1 ⟨by decide, by decide⟩ (by show _ < 100000; omega)

set_option maxHeartbeats 4000000 in
set_option maxRecDepth 100000 in
theorem s_X9_isLaw (o_me : Ob) (p0 : Int32) (hI_me : IvX9 o_me)  : wp (f_X9_isLaw   o_me p0) (fun (y : Int32) => (0 ≤ y.toInt ∧ y.toInt ≤ 1) ∧ (¬ y = 0 → ((-1) ≤ p0.toInt ∧ p0.toInt ≤ 5))) := by
  have li0 : (-1 : Int32).toInt = (-1) := by decide
  have li1 : (0 : Int32).toInt = 0 := by decide
  have li2 : (0 : Int64).toInt = 0 := by decide
  have li3 : (1 : Int32).toInt = 1 := by decide
  have li4 : (1 : Int64).toInt = 1 := by decide
  have li5 : (2 : Int32).toInt = 2 := by decide
  unfold f_X9_isLaw
  refine wp_if (fun c1 => ?_) (fun c1 => ?_)
  · have c1 := cv_eq (a := p0.toInt) (b := (-1)) rfl (by decide) c1
    unfold bk_X9_isLaw_23
    refine wp_some ?_
    exact (show (0 ≤ (1 : Int32).toInt ∧ (1 : Int32).toInt ≤ 1) ∧ (¬ (1 : Int32) = 0 → ((-1) ≤ p0.toInt ∧ p0.toInt ≤ 5)) from ⟨⟨by decide, by decide⟩, (fun h9 => ⟨by omega, by omega⟩)⟩)
  · have c1 := cv_ne (a := p0.toInt) (b := (-1)) rfl (by decide) c1
    have rg2 := i32_rg p0
    have t3 : p0.toInt64.toInt = p0.toInt := Int32.toInt_toInt64 _
    have t4 := iaX9_3_2 hI_me (j := (2 : Int32)) (by decide) (by decide)
    have t5 : ((gA o_me 3 (2 : Int32).toNatClampNeg).toInt64).toInt = (gA o_me 3 (2 : Int32).toNatClampNeg).toInt := Int32.toInt_toInt64 _
    have t6 : (((gA o_me 3 (2 : Int32).toNatClampNeg).toInt64) - (1 : Int64)).toInt = ((gA o_me 3 (2 : Int32).toNatClampNeg).toInt64).toInt - 1 := i64_sub rfl (by decide) (by omega) (by omega)
    refine wp_bd (s_X9_in   p0.toInt64 (0 : Int64) (((gA o_me 3 (2 : Int32).toNatClampNeg).toInt64) - (1 : Int64))    ) (fun z7 hz7 => ?_)
    obtain ⟨hz7_0, hz7_1⟩ := hz7
    refine wp_if (fun c8 => ?_) (fun c8 => ?_)
    · have c8 := cv_eq (a := z7.toInt) (b := 0) rfl (by decide) c8
      refine wp_some ?_
      exact (show (0 ≤ (0 : Int32).toInt ∧ (0 : Int32).toInt ≤ 1) ∧ (¬ (0 : Int32) = 0 → ((-1) ≤ p0.toInt ∧ p0.toInt ≤ 5)) from ⟨⟨by decide, by decide⟩, (fun h9 => absurd rfl h9)⟩)
    · have c8z := c8
      have c8i := hz7_1 c8
      have c8 := cv_ne (a := z7.toInt) (b := 0) rfl (by decide) c8
      unfold bk_X9_isLaw_23
      refine wp_some ?_
      exact (show (0 ≤ (1 : Int32).toInt ∧ (1 : Int32).toInt ≤ 1) ∧ (¬ (1 : Int32) = 0 → ((-1) ≤ p0.toInt ∧ p0.toInt ≤ 5)) from ⟨⟨by decide, by decide⟩, (fun h9 => ⟨by omega, by omega⟩)⟩)

set_option maxHeartbeats 4000000 in
set_option maxRecDepth 100000 in
theorem s_X9_compare (o_me : Ob) (p0 : Int32) (p1 : Int32) (hI_me : IvX9 o_me) (q0 : 0 ≤ (gI o_me 20).toInt ∧ (gI o_me 20).toInt ≤ 0) : wp (f_X9_compare   o_me p0 p1) (fun (y : Int32 × Ob) => ((-1) ≤ y.1.toInt ∧ y.1.toInt ≤ 6) ∧ IvX9 y.2 ∧ Kp [8, 13, 14, 15, 16, 19, 20, 21, 23, 26, 29, 30, 59, 62] [7, 10, 12, 22, 24, 25, 27, 28, 48, 50, 51, 55] [(3, (0 : Int32))] o_me y.2) := by
  have li0 : (-1 : Int32).toInt = (-1) := by decide
  have li1 : (0 : Int32).toInt = 0 := by decide
  have li2 : (3 : Int32).toInt = 3 := by decide
  unfold f_X9_compare
  refine wp_lt (fun o1 eo1 => ?_)
  have hIo1 : IvX9 o1 := by rw [eo1]; exact hI_me
  have ko1_k2 : (gI o1 20).toInt = (gI o_me 20).toInt := by rw [eo1]; rfl
  have ko1_v : (gI o1 0).toInt = 0 := by rw [eo1]; exact (show ((0 : Int32)).toInt = _ from by decide)
  have hkpo1 : Kp [8, 13, 14, 15, 16, 19, 20, 21, 23, 26, 29, 30, 59, 62] [7, 10, 12, 22, 24, 25, 27, 28, 48, 50, 51, 55] [(3, (0 : Int32))] o_me o1 := Kp.rf.trans (by rw [eo1]; exact Kp.sI (by decide))
  refine wp_bd (s_X9_isLaw   o1 p0  hIo1  ) (fun z3 hz3 => ?_)
  obtain ⟨hz3_0, hz3_1⟩ := hz3
  refine wp_if (fun c4 => ?_) (fun c4 => ?_)
  · have c4 := cv_eq (a := z3.toInt) (b := 0) rfl (by decide) c4
    refine wp_some ?_
    exact (show ((-1) ≤ (-1 : Int32).toInt ∧ (-1 : Int32).toInt ≤ 6) ∧ IvX9 o1 ∧ Kp [8, 13, 14, 15, 16, 19, 20, 21, 23, 26, 29, 30, 59, 62] [7, 10, 12, 22, 24, 25, 27, 28, 48, 50, 51, 55] [(3, (0 : Int32))] o_me o1 from ⟨⟨by decide, by decide⟩, hIo1, hkpo1⟩)
  · have c4z := c4
    have c4i := hz3_1 c4
    have c4 := cv_ne (a := z3.toInt) (b := 0) rfl (by decide) c4
    refine wp_bd (s_X9_isRace   p1    ) (fun z5 hz5 => ?_)
    obtain ⟨hz5_0, hz5_1⟩ := hz5
    refine wp_if (fun c6 => ?_) (fun c6 => ?_)
    · have c6 := cv_eq (a := z5.toInt) (b := 0) rfl (by decide) c6
      refine wp_some ?_
      exact (show ((-1) ≤ (-1 : Int32).toInt ∧ (-1 : Int32).toInt ≤ 6) ∧ IvX9 o1 ∧ Kp [8, 13, 14, 15, 16, 19, 20, 21, 23, 26, 29, 30, 59, 62] [7, 10, 12, 22, 24, 25, 27, 28, 48, 50, 51, 55] [(3, (0 : Int32))] o_me o1 from ⟨⟨by decide, by decide⟩, hIo1, hkpo1⟩)
    · have c6z := c6
      have c6i := hz5_1 c6
      have c6 := cv_ne (a := z5.toInt) (b := 0) rfl (by decide) c6
      have t7 := iaX9_3_3 hIo1 (j := (3 : Int32)) (by decide) (by decide)
      refine wp_lt (fun x8 ex8 => ?_)
      have tx8 : x8.toInt = (gA o1 3 (3 : Int32).toNatClampNeg).toInt := by rw [ex8]
      refine wp_lt (fun o9 eo9 => ?_)
      have hIo9 : IvX9 o9 := by rw [eo9]; exact ibX9_3 hIo1 (by decide) (by decide) (Or.inr (Or.inl (by first | omega | decide))) (Or.inr (Or.inl (by first | omega | decide))) (Or.inr (Or.inl (by first | omega | decide))) (Or.inr (Or.inr ⟨by omega, by omega⟩)) (Or.inl (by first | omega | decide)) (Or.inl (by first | omega | decide)) (Or.inl (by first | omega | decide)) (Or.inl (by first | omega | decide)) (Or.inl (by first | omega | decide))
      have ko9_k10 : (gI o9 0).toInt = (gI o1 0).toInt := by rw [eo9]; rfl
      have ko9_k11 : (gI o9 20).toInt = (gI o1 20).toInt := by rw [eo9]; rfl
      have ko9_v : (gA o9 3 (3 : Int32).toNatClampNeg).toInt = p0.toInt := by rw [eo9]; exact congrArg Int32.toInt (upd_eq (g := gA o1 3) (i := (3 : Int32)) (v := p0))
      have hkpo9 : Kp [8, 13, 14, 15, 16, 19, 20, 21, 23, 26, 29, 30, 59, 62] [7, 10, 12, 22, 24, 25, 27, 28, 48, 50, 51, 55] [(3, (0 : Int32))] o_me o9 := hkpo1.trans (by rw [eo9]; exact kp_tA0 (by decide) (by decide))
      refine wp_bd (s_X9_layPlaces   o9 p1  hIo9  ⟨by omega, by omega⟩ ⟨by omega, by omega⟩) (fun z12 hz12 => ?_)
      obtain ⟨hz12_0, hz12_1⟩ := hz12
      have hkpz12_me : Kp [8, 13, 14, 15, 16, 19, 20, 21, 23, 26, 29, 30, 59, 62] [7, 10, 12, 22, 24, 25, 27, 28, 48, 50, 51, 55] [(3, (0 : Int32))] o_me z12 := hkpo9.trans (hz12_1.mono (by decide) (by decide) (by decide))
      have kz12_k13 : (gA z12 3 (3 : Int32).toNatClampNeg).toInt = (gA o9 3 (3 : Int32).toNatClampNeg).toInt := congrArg (fun g => (g (3 : Int32).toNatClampNeg).toInt) (hz12_1.2.1 3 (by decide))
      have kz12_k14 : (gI z12 20).toInt = (gI o9 20).toInt := congrArg Int32.toInt (hz12_1.1 20 (by decide))
      refine wp_lt (fun o15 eo15 => ?_)
      have hIo15 : IvX9 o15 := by rw [eo15]; exact ibX9_3 hz12_0 (by decide) (by decide) (Or.inr (Or.inl (by first | omega | decide))) (Or.inr (Or.inl (by first | omega | decide))) (Or.inr (Or.inl (by first | omega | decide))) (Or.inr (Or.inr ⟨by omega, by omega⟩)) (Or.inl (by first | omega | decide)) (Or.inl (by first | omega | decide)) (Or.inl (by first | omega | decide)) (Or.inl (by first | omega | decide)) (Or.inl (by first | omega | decide))
      have ko15_k16 : (gI o15 20).toInt = (gI z12 20).toInt := by rw [eo15]; rfl
      have ko15_v : (gA o15 3 (3 : Int32).toNatClampNeg).toInt = x8.toInt := by rw [eo15]; exact congrArg Int32.toInt (upd_eq (g := gA z12 3) (i := (3 : Int32)) (v := x8))
      have hkpo15 : Kp [8, 13, 14, 15, 16, 19, 20, 21, 23, 26, 29, 30, 59, 62] [7, 10, 12, 22, 24, 25, 27, 28, 48, 50, 51, 55] [(3, (0 : Int32))] o_me o15 := hkpz12_me.trans (by rw [eo15]; exact kp_tA0 (by decide) (by decide))
      have t17 := igX9_43 hIo15
      refine wp_if (fun c18 => ?_) (fun c18 => ?_)
      · have c18 := cv_eq (a := (gI o15 43).toInt) (b := 0) rfl (by decide) c18
        refine wp_some ?_
        exact (show ((-1) ≤ (-1 : Int32).toInt ∧ (-1 : Int32).toInt ≤ 6) ∧ IvX9 o15 ∧ Kp [8, 13, 14, 15, 16, 19, 20, 21, 23, 26, 29, 30, 59, 62] [7, 10, 12, 22, 24, 25, 27, 28, 48, 50, 51, 55] [(3, (0 : Int32))] o_me o15 from ⟨⟨by decide, by decide⟩, hIo15, hkpo15⟩)
      · have c18z := c18
        have c18 := cv_ne (a := (gI o15 43).toInt) (b := 0) rfl (by decide) c18
        have t19 := iaX9_42_0 hIo15 (j := (0 : Int32)) (by decide) (by decide)
        refine wp_some ?_
        exact (show ((-1) ≤ (gA o15 42 (0 : Int32).toNatClampNeg).toInt ∧ (gA o15 42 (0 : Int32).toNatClampNeg).toInt ≤ 6) ∧ IvX9 o15 ∧ Kp [8, 13, 14, 15, 16, 19, 20, 21, 23, 26, 29, 30, 59, 62] [7, 10, 12, 22, 24, 25, 27, 28, 48, 50, 51, 55] [(3, (0 : Int32))] o_me o15 from ⟨⟨by omega, by omega⟩, hIo15, hkpo15⟩)

set_option maxHeartbeats 4000000 in
set_option maxRecDepth 100000 in
theorem s_X9_sumOf (o_me : Ob) (p0 : Int32) (p1 : Int32) (hI_me : IvX9 o_me) (q0 : 0 ≤ p0.toInt ∧ p0.toInt ≤ 22) (q1 : 0 ≤ p1.toInt ∧ p1.toInt ≤ 7) : wp (f_X9_sumOf   o_me p0 p1) (fun (y : Int32) => True) := by
  have li0 : (0 : Int32).toInt = 0 := by decide
  unfold f_X9_sumOf
  have lp1 : ∀ (N1 : Nat) (v1_1 : Int32) (v2_1 : Int32) (v3_1 : Int32) (v4_1 : Int32), (0 ≤ v1_1.toInt ∧ v1_1.toInt ≤ 22) → (0 ≤ v2_1.toInt ∧ v2_1.toInt ≤ 7) → (0 ≤ v4_1.toInt ∧ v4_1.toInt ≤ 7) → (v4_1.toInt ≤ v2_1.toInt + 0) → (v1_1.toInt ≤ p0.toInt + 0) → (p0.toInt ≤ v1_1.toInt + 0) → (v2_1.toInt ≤ p1.toInt + 0) → (p1.toInt ≤ v2_1.toInt + 0) → (v4_1.toInt ≤ p1.toInt + 0) → (7 - v4_1.toInt).toNat < N1 → wp (lp_X9_sumOf_5 o_me  N1 (v1_1, v2_1, v3_1, v4_1)) (fun (y : Int32) => True) := by
    intro N1
    induction N1 with
    | zero =>
      intro v1_1 v2_1 v3_1 v4_1 hh1 hh2 hh3 hh4 hh5 hh6 hh7 hh8 hh9 hN1
      exact absurd hN1 (Nat.not_lt_zero _)
    | succ N1 ihx =>
      have ih1 := ihx
      intro v1_1 v2_1 v3_1 v4_1 hh1 hh2 hh3 hh4 hh5 hh6 hh7 hh8 hh9 hN1
      show wp (lb_X9_sumOf_5 o_me  (lp_X9_sumOf_5 o_me  N1) v1_1 v2_1 v3_1 v4_1) (fun (y : Int32) => True)
      unfold lb_X9_sumOf_5
      refine wp_if (fun c10 => ?_) (fun c10 => ?_)
      · have c10 := cv_ge (a := v4_1.toInt) (b := v2_1.toInt) rfl rfl c10
        refine wp_some ?_
        exact trivial
      · have c10 := cv_nge (a := v4_1.toInt) (b := v2_1.toInt) rfl rfl c10
        have t11 : (v1_1 + v4_1).toInt = v1_1.toInt + v4_1.toInt := i32_add rfl rfl (by omega) (by omega)
        refine wp_gd (zin_of (m := 5484) rfl (by omega) (by omega)) ?_
        refine wp_lt (fun x12 ex12 => ?_)
        have tx12 : x12.toInt = (v3_1 + (gA o_me 3 (v1_1 + v4_1).toNatClampNeg)).toInt := by rw [ex12]
        refine wp_lt (fun x13 ex13 => ?_)
        have tx13 : x13.toInt = v4_1.toInt + 1 := by rw [ex13]; exact i32_add rfl (by decide) (by omega) (by omega)
        exact ih1 v1_1 v2_1 x12 x13  ⟨by omega, by omega⟩ ⟨by omega, by omega⟩ ⟨by omega, by omega⟩ (by omega) (by omega) (by omega) (by omega) (by omega) (by omega) (by omega)
  exact lp1 zfu p0 p1 (0 : Int32) (0 : Int32)  ⟨by omega, by omega⟩ ⟨by omega, by omega⟩ ⟨by decide, by decide⟩ (by omega) (by omega) (by omega) (by omega) (by omega) (by omega) (by show _ < 100000; omega)

set_option maxHeartbeats 4000000 in
set_option maxRecDepth 100000 in
theorem s_X9_enteredOnes (o_me : Ob) (hI_me : IvX9 o_me)  : wp (f_X9_enteredOnes   o_me) (fun (y : Int32) => True) := by
  have li0 : (0 : Int32).toInt = 0 := by decide
  have li1 : (22 : Int32).toInt = 22 := by decide
  unfold f_X9_enteredOnes
  have t1 := iaX9_3_0 hI_me (j := (0 : Int32)) (by decide) (by decide)
  refine wp_bd (s_X9_sumOf   o_me (22 : Int32) (gA o_me 3 (0 : Int32).toNatClampNeg)  hI_me  ⟨by decide, by decide⟩ ⟨by omega, by omega⟩) (fun z2 hz2 => ?_)
  refine wp_some ?_
  exact trivial

set_option maxHeartbeats 4000000 in
set_option maxRecDepth 100000 in
theorem s_X9_count (o_me : Ob) (p0 : Int32) (hI_me : IvX9 o_me)  : wp (f_X9_count   o_me p0) (fun (y : Int32 × Ob) => IvX9 y.2 ∧ Kp [8, 13, 14, 15, 16, 19, 20, 21, 23, 26, 29, 30, 34, 38, 43, 59, 62] [3, 7, 10, 12, 22, 24, 25, 27, 28, 42, 48, 50, 51, 55] [(3, (0 : Int32))] o_me y.2) := by
  have li0 : (-1 : Int32).toInt = (-1) := by decide
  have li1 : (0 : Int32).toInt = 0 := by decide
  have li2 : (1 : Int32).toInt = 1 := by decide
  have li3 : (14 : Int32).toInt = 14 := by decide
  have li4 : (14 : Int64).toInt = 14 := by decide
  have li5 : (15 : Int32).toInt = 15 := by decide
  have li6 : (16 : Int64).toInt = 16 := by decide
  have li7 : (2 : Int32).toInt = 2 := by decide
  have li8 : (3 : Int32).toInt = 3 := by decide
  have li9 : (4 : Int32).toInt = 4 := by decide
  have li10 : (5 : Int32).toInt = 5 := by decide
  have li11 : (6 : Int32).toInt = 6 := by decide
  have li12 : (7 : Int32).toInt = 7 := by decide
  unfold f_X9_count
  refine wp_lt (fun o1 eo1 => ?_)
  have hIo1 : IvX9 o1 := by rw [eo1]; exact hI_me
  have ko1_v : (gI o1 0).toInt = 0 := by rw [eo1]; exact (show ((0 : Int32)).toInt = _ from by decide)
  have hkpo1 : Kp [8, 13, 14, 15, 16, 19, 20, 21, 23, 26, 29, 30, 34, 38, 43, 59, 62] [3, 7, 10, 12, 22, 24, 25, 27, 28, 42, 48, 50, 51, 55] [(3, (0 : Int32))] o_me o1 := Kp.rf.trans (by rw [eo1]; exact Kp.sI (by decide))
  refine wp_if (fun c2 => ?_) (fun c2 => ?_)
  · have c2 := cv_eq (a := p0.toInt) (b := 0) rfl (by decide) c2
    have kc3 : (gA o1 3 (0 : Int32).toNatClampNeg).toInt = (gA o_me 3 (0 : Int32).toNatClampNeg).toInt := congrArg Int32.toInt (hkpo1.2.2 (3, (0 : Int32)) (by decide))
    have t4 := iaX9_3_0 hIo1 (j := (0 : Int32)) (by decide) (by decide)
    refine wp_some ?_
    exact (show IvX9 o1 ∧ Kp [8, 13, 14, 15, 16, 19, 20, 21, 23, 26, 29, 30, 34, 38, 43, 59, 62] [3, 7, 10, 12, 22, 24, 25, 27, 28, 42, 48, 50, 51, 55] [(3, (0 : Int32))] o_me o1 from ⟨hIo1, hkpo1⟩)
  have c2 := cv_ne (a := p0.toInt) (b := 0) rfl (by decide) c2
  refine wp_if (fun c5 => ?_) (fun c5 => ?_)
  · have c5 := cv_eq (a := p0.toInt) (b := 1) rfl (by decide) c5
    refine wp_bd (s_X9_enteredOnes   o1  hIo1  ) (fun z6 hz6 => ?_)
    refine wp_some ?_
    exact (show IvX9 o1 ∧ Kp [8, 13, 14, 15, 16, 19, 20, 21, 23, 26, 29, 30, 34, 38, 43, 59, 62] [3, 7, 10, 12, 22, 24, 25, 27, 28, 42, 48, 50, 51, 55] [(3, (0 : Int32))] o_me o1 from ⟨hIo1, hkpo1⟩)
  have c5 := cv_ne (a := p0.toInt) (b := 1) rfl (by decide) c5
  refine wp_if (fun c7 => ?_) (fun c7 => ?_)
  · have c7 := cv_eq (a := p0.toInt) (b := 2) rfl (by decide) c7
    have t8 := iaX9_3_4 hIo1 (j := (7 : Int32)) (by decide) (by decide)
    refine wp_some ?_
    exact (show IvX9 o1 ∧ Kp [8, 13, 14, 15, 16, 19, 20, 21, 23, 26, 29, 30, 34, 38, 43, 59, 62] [3, 7, 10, 12, 22, 24, 25, 27, 28, 42, 48, 50, 51, 55] [(3, (0 : Int32))] o_me o1 from ⟨hIo1, hkpo1⟩)
  have c7 := cv_ne (a := p0.toInt) (b := 2) rfl (by decide) c7
  refine wp_if (fun c9 => ?_) (fun c9 => ?_)
  · have c9 := cv_eq (a := p0.toInt) (b := 3) rfl (by decide) c9
    have kc10 : (gA o1 3 (0 : Int32).toNatClampNeg).toInt = (gA o_me 3 (0 : Int32).toNatClampNeg).toInt := congrArg Int32.toInt (hkpo1.2.2 (3, (0 : Int32)) (by decide))
    have t11 := iaX9_3_0 hIo1 (j := (0 : Int32)) (by decide) (by decide)
    refine wp_bd (s_X9_sumOf   o1 (15 : Int32) (gA o1 3 (0 : Int32).toNatClampNeg)  hIo1  ⟨by decide, by decide⟩ ⟨by omega, by omega⟩) (fun z12 hz12 => ?_)
    refine wp_some ?_
    exact (show IvX9 o1 ∧ Kp [8, 13, 14, 15, 16, 19, 20, 21, 23, 26, 29, 30, 34, 38, 43, 59, 62] [3, 7, 10, 12, 22, 24, 25, 27, 28, 42, 48, 50, 51, 55] [(3, (0 : Int32))] o_me o1 from ⟨hIo1, hkpo1⟩)
  have c9 := cv_ne (a := p0.toInt) (b := 3) rfl (by decide) c9
  refine wp_if (fun c13 => ?_) (fun c13 => ?_)
  · have c13 := cv_eq (a := p0.toInt) (b := 4) rfl (by decide) c13
    have t14 := iaX9_3_1 hIo1 (j := (1 : Int32)) (by decide) (by decide)
    refine wp_some ?_
    exact (show IvX9 o1 ∧ Kp [8, 13, 14, 15, 16, 19, 20, 21, 23, 26, 29, 30, 34, 38, 43, 59, 62] [3, 7, 10, 12, 22, 24, 25, 27, 28, 42, 48, 50, 51, 55] [(3, (0 : Int32))] o_me o1 from ⟨hIo1, hkpo1⟩)
  have c13 := cv_ne (a := p0.toInt) (b := 4) rfl (by decide) c13
  refine wp_if (fun c15 => ?_) (fun c15 => ?_)
  · have c15 := cv_eq (a := p0.toInt) (b := 5) rfl (by decide) c15
    have t16 := iaX9_3_2 hIo1 (j := (2 : Int32)) (by decide) (by decide)
    refine wp_some ?_
    exact (show IvX9 o1 ∧ Kp [8, 13, 14, 15, 16, 19, 20, 21, 23, 26, 29, 30, 34, 38, 43, 59, 62] [3, 7, 10, 12, 22, 24, 25, 27, 28, 42, 48, 50, 51, 55] [(3, (0 : Int32))] o_me o1 from ⟨hIo1, hkpo1⟩)
  have c15 := cv_ne (a := p0.toInt) (b := 5) rfl (by decide) c15
  refine wp_if (fun c17 => ?_) (fun c17 => ?_)
  · have c17 := cv_eq (a := p0.toInt) (b := 6) rfl (by decide) c17
    have t18 := igX9_8 hIo1
    refine wp_some ?_
    exact (show IvX9 o1 ∧ Kp [8, 13, 14, 15, 16, 19, 20, 21, 23, 26, 29, 30, 34, 38, 43, 59, 62] [3, 7, 10, 12, 22, 24, 25, 27, 28, 42, 48, 50, 51, 55] [(3, (0 : Int32))] o_me o1 from ⟨hIo1, hkpo1⟩)
  have c17 := cv_ne (a := p0.toInt) (b := 6) rfl (by decide) c17
  refine wp_if (fun c19 => ?_) (fun c19 => ?_)
  · have c19 := cv_eq (a := p0.toInt) (b := 7) rfl (by decide) c19
    have t20 := igX9_13 hIo1
    refine wp_some ?_
    exact (show IvX9 o1 ∧ Kp [8, 13, 14, 15, 16, 19, 20, 21, 23, 26, 29, 30, 34, 38, 43, 59, 62] [3, 7, 10, 12, 22, 24, 25, 27, 28, 42, 48, 50, 51, 55] [(3, (0 : Int32))] o_me o1 from ⟨hIo1, hkpo1⟩)
  have c19 := cv_ne (a := p0.toInt) (b := 7) rfl (by decide) c19
  refine wp_if (fun c21 => ?_) (fun c21 => ?_)
  · have c21 := cv_eq (a := p0.toInt) (b := 8) rfl (by decide) c21
    refine wp_some ?_
    exact (show IvX9 o1 ∧ Kp [8, 13, 14, 15, 16, 19, 20, 21, 23, 26, 29, 30, 34, 38, 43, 59, 62] [3, 7, 10, 12, 22, 24, 25, 27, 28, 42, 48, 50, 51, 55] [(3, (0 : Int32))] o_me o1 from ⟨hIo1, hkpo1⟩)
  have c21 := cv_ne (a := p0.toInt) (b := 8) rfl (by decide) c21
  refine wp_if (fun c22 => ?_) (fun c22 => ?_)
  · have c22 := cv_eq (a := p0.toInt) (b := 9) rfl (by decide) c22
    refine wp_some ?_
    exact (show IvX9 o1 ∧ Kp [8, 13, 14, 15, 16, 19, 20, 21, 23, 26, 29, 30, 34, 38, 43, 59, 62] [3, 7, 10, 12, 22, 24, 25, 27, 28, 42, 48, 50, 51, 55] [(3, (0 : Int32))] o_me o1 from ⟨hIo1, hkpo1⟩)
  have c22 := cv_ne (a := p0.toInt) (b := 9) rfl (by decide) c22
  refine wp_if (fun c23 => ?_) (fun c23 => ?_)
  · have c23 := cv_eq (a := p0.toInt) (b := 10) rfl (by decide) c23
    refine wp_some ?_
    exact (show IvX9 o1 ∧ Kp [8, 13, 14, 15, 16, 19, 20, 21, 23, 26, 29, 30, 34, 38, 43, 59, 62] [3, 7, 10, 12, 22, 24, 25, 27, 28, 42, 48, 50, 51, 55] [(3, (0 : Int32))] o_me o1 from ⟨hIo1, hkpo1⟩)
  have c23 := cv_ne (a := p0.toInt) (b := 10) rfl (by decide) c23
  refine wp_if (fun c24 => ?_) (fun c24 => ?_)
  · have c24 := cv_eq (a := p0.toInt) (b := 11) rfl (by decide) c24
    refine wp_some ?_
    exact (show IvX9 o1 ∧ Kp [8, 13, 14, 15, 16, 19, 20, 21, 23, 26, 29, 30, 34, 38, 43, 59, 62] [3, 7, 10, 12, 22, 24, 25, 27, 28, 42, 48, 50, 51, 55] [(3, (0 : Int32))] o_me o1 from ⟨hIo1, hkpo1⟩)
  have c24 := cv_ne (a := p0.toInt) (b := 11) rfl (by decide) c24
  refine wp_if (fun c25 => ?_) (fun c25 => ?_)
  · have c25 := cv_eq (a := p0.toInt) (b := 12) rfl (by decide) c25
    refine wp_some ?_
    exact (show IvX9 o1 ∧ Kp [8, 13, 14, 15, 16, 19, 20, 21, 23, 26, 29, 30, 34, 38, 43, 59, 62] [3, 7, 10, 12, 22, 24, 25, 27, 28, 42, 48, 50, 51, 55] [(3, (0 : Int32))] o_me o1 from ⟨hIo1, hkpo1⟩)
  have c25 := cv_ne (a := p0.toInt) (b := 12) rfl (by decide) c25
  refine wp_if (fun c26 => ?_) (fun c26 => ?_)
  · have c26 := cv_eq (a := p0.toInt) (b := 13) rfl (by decide) c26
    have t27 := iaX9_3_3 hIo1 (j := (3 : Int32)) (by decide) (by decide)
    refine wp_some ?_
    exact (show IvX9 o1 ∧ Kp [8, 13, 14, 15, 16, 19, 20, 21, 23, 26, 29, 30, 34, 38, 43, 59, 62] [3, 7, 10, 12, 22, 24, 25, 27, 28, 42, 48, 50, 51, 55] [(3, (0 : Int32))] o_me o1 from ⟨hIo1, hkpo1⟩)
  have c26 := cv_ne (a := p0.toInt) (b := 13) rfl (by decide) c26
  have rg28 := i32_rg p0
  have t29 : p0.toInt64.toInt = p0.toInt := Int32.toInt_toInt64 _
  refine wp_bd (s_X9_in   p0.toInt64 (14 : Int64) (16 : Int64)    ) (fun z30 hz30 => ?_)
  obtain ⟨hz30_0, hz30_1⟩ := hz30
  refine wp_if (fun c31 => ?_) (fun c31 => ?_)
  · have c31 := cv_eq (a := z30.toInt) (b := 0) rfl (by decide) c31
    refine wp_some ?_
    exact (show IvX9 o1 ∧ Kp [8, 13, 14, 15, 16, 19, 20, 21, 23, 26, 29, 30, 34, 38, 43, 59, 62] [3, 7, 10, 12, 22, 24, 25, 27, 28, 42, 48, 50, 51, 55] [(3, (0 : Int32))] o_me o1 from ⟨hIo1, hkpo1⟩)
  · have c31z := c31
    have c31i := hz30_1 c31
    have c31 := cv_ne (a := z30.toInt) (b := 0) rfl (by decide) c31
    have t32 : ((4 : Int32) + p0).toInt = 4 + p0.toInt := i32_add (by decide) rfl (by omega) (by omega)
    have t33 : (((4 : Int32) + p0) - (14 : Int32)).toInt = ((4 : Int32) + p0).toInt - 14 := i32_sub rfl (by decide) (by omega) (by omega)
    refine wp_gd (zin_of (m := 5484) rfl (by omega) (by omega)) ?_
    refine wp_some ?_
    exact (show IvX9 o1 ∧ Kp [8, 13, 14, 15, 16, 19, 20, 21, 23, 26, 29, 30, 34, 38, 43, 59, 62] [3, 7, 10, 12, 22, 24, 25, 27, 28, 42, 48, 50, 51, 55] [(3, (0 : Int32))] o_me o1 from ⟨hIo1, hkpo1⟩)

set_option maxHeartbeats 4000000 in
set_option maxRecDepth 100000 in
theorem s_X9_findCrowned (o_me : Ob) (hI_me : IvX9 o_me) (q0 : 0 ≤ (gI o_me 20).toInt ∧ (gI o_me 20).toInt ≤ 0) : wp (f_X9_findCrowned   o_me) (fun (y : Int32 × Ob) => IvX9 y.2 ∧ Kp [8, 13, 14, 15, 16, 19, 20, 21, 23, 26, 29, 30, 43, 59, 62] [3, 7, 10, 12, 22, 24, 25, 27, 28, 42, 50, 51, 55] [(3, (0 : Int32))] o_me y.2) := by
  sorry

set_option maxHeartbeats 4000000 in
set_option maxRecDepth 100000 in
theorem s_X9_crowned (o_me : Ob) (p0 : Int32) (hI_me : IvX9 o_me) (q0 : 0 ≤ (gI o_me 20).toInt ∧ (gI o_me 20).toInt ≤ 0) : wp (f_X9_crowned   o_me p0) (fun (y : Int32 × Ob) => IvX9 y.2 ∧ Kp [8, 13, 14, 15, 16, 19, 20, 21, 23, 26, 29, 30, 43, 59, 62] [3, 7, 10, 12, 22, 24, 25, 27, 28, 42, 50, 51, 55] [(3, (0 : Int32))] o_me y.2) := by
  have li0 : (-1 : Int32).toInt = (-1) := by decide
  have li1 : (0 : Int32).toInt = 0 := by decide
  have li2 : (0 : Int64).toInt = 0 := by decide
  have li3 : (1 : Int32).toInt = 1 := by decide
  have li4 : (4 : Int64).toInt = 4 := by decide
  unfold f_X9_crowned
  refine wp_lt (fun o1 eo1 => ?_)
  have hIo1 : IvX9 o1 := by rw [eo1]; exact hI_me
  have ko1_k2 : (gI o1 20).toInt = (gI o_me 20).toInt := by rw [eo1]; rfl
  have ko1_v : (gI o1 0).toInt = 0 := by rw [eo1]; exact (show ((0 : Int32)).toInt = _ from by decide)
  have hkpo1 : Kp [8, 13, 14, 15, 16, 19, 20, 21, 23, 26, 29, 30, 43, 59, 62] [3, 7, 10, 12, 22, 24, 25, 27, 28, 42, 50, 51, 55] [(3, (0 : Int32))] o_me o1 := Kp.rf.trans (by rw [eo1]; exact Kp.sI (by decide))
  have rg3 := i32_rg p0
  have t4 : p0.toInt64.toInt = p0.toInt := Int32.toInt_toInt64 _
  refine wp_bd (s_X9_in   p0.toInt64 (0 : Int64) (4 : Int64)    ) (fun z5 hz5 => ?_)
  obtain ⟨hz5_0, hz5_1⟩ := hz5
  refine wp_if (fun c6 => ?_) (fun c6 => ?_)
  · have c6 := cv_eq (a := z5.toInt) (b := 0) rfl (by decide) c6
    refine wp_some ?_
    exact (show IvX9 o1 ∧ Kp [8, 13, 14, 15, 16, 19, 20, 21, 23, 26, 29, 30, 43, 59, 62] [3, 7, 10, 12, 22, 24, 25, 27, 28, 42, 50, 51, 55] [(3, (0 : Int32))] o_me o1 from ⟨hIo1, hkpo1⟩)
  · have c6z := c6
    have c6i := hz5_1 c6
    have c6 := cv_ne (a := z5.toInt) (b := 0) rfl (by decide) c6
    refine wp_bd (s_X9_findCrowned   o1  hIo1  ⟨by omega, by omega⟩) (fun z7 hz7 => ?_)
    obtain ⟨hz7_0, hz7_1⟩ := hz7
    have hkpz7_me : Kp [8, 13, 14, 15, 16, 19, 20, 21, 23, 26, 29, 30, 43, 59, 62] [3, 7, 10, 12, 22, 24, 25, 27, 28, 42, 50, 51, 55] [(3, (0 : Int32))] o_me z7.2 := hkpo1.trans (hz7_1.mono (by decide) (by decide) (by decide))
    have kz7_k8 : (gI z7.2 20).toInt = (gI o1 20).toInt := congrArg Int32.toInt (hz7_1.1 20 (by decide))
    refine wp_if (fun c9 => ?_) (fun c9 => ?_)
    · have c9 := cv_eq (a := p0.toInt) (b := 0) rfl (by decide) c9
      refine wp_some ?_
      exact (show IvX9 z7.2 ∧ Kp [8, 13, 14, 15, 16, 19, 20, 21, 23, 26, 29, 30, 43, 59, 62] [3, 7, 10, 12, 22, 24, 25, 27, 28, 42, 50, 51, 55] [(3, (0 : Int32))] o_me z7.2 from ⟨hz7_0, hkpz7_me⟩)
    · have c9z := c9
      have c9 := cv_ne (a := p0.toInt) (b := 0) rfl (by decide) c9
      have t10 : (p0 - (1 : Int32)).toInt = p0.toInt - 1 := i32_sub rfl (by decide) (by omega) (by omega)
      refine wp_gd (zin_of (m := 4) rfl (by omega) (by omega)) ?_
      refine wp_some ?_
      exact (show IvX9 z7.2 ∧ Kp [8, 13, 14, 15, 16, 19, 20, 21, 23, 26, 29, 30, 43, 59, 62] [3, 7, 10, 12, 22, 24, 25, 27, 28, 42, 50, 51, 55] [(3, (0 : Int32))] o_me z7.2 from ⟨hz7_0, hkpz7_me⟩)

set_option maxHeartbeats 4000000 in
set_option maxRecDepth 100000 in
theorem s_X9_drawn (o_me : Ob) (p0 : Int32) (p1 : Int32) (hI_me : IvX9 o_me)  : wp (f_X9_drawn   o_me p0 p1) (fun (y : Int32 × Ob) => IvX9 y.2 ∧ Kp [8, 13, 14, 15, 16, 19, 20, 21, 23, 26, 29, 30, 34, 38, 43, 59, 62] [3, 7, 10, 12, 22, 24, 25, 27, 28, 42, 48, 50, 51, 55] [(3, (0 : Int32))] o_me y.2) := by
  have li0 : (-1 : Int32).toInt = (-1) := by decide
  have li1 : (0 : Int32).toInt = 0 := by decide
  have li2 : (0 : Int64).toInt = 0 := by decide
  have li3 : (1 : Int32).toInt = 1 := by decide
  have li4 : (1 : Int64).toInt = 1 := by decide
  have li5 : (15 : Int32).toInt = 15 := by decide
  have li6 : (2 : Int64).toInt = 2 := by decide
  have li7 : (22 : Int32).toInt = 22 := by decide
  have li8 : (4 : Int32).toInt = 4 := by decide
  have li9 : (8 : Int32).toInt = 8 := by decide
  unfold f_X9_drawn
  refine wp_lt (fun o1 eo1 => ?_)
  have hIo1 : IvX9 o1 := by rw [eo1]; exact hI_me
  have ko1_v : (gI o1 0).toInt = 0 := by rw [eo1]; exact (show ((0 : Int32)).toInt = _ from by decide)
  have hkpo1 : Kp [8, 13, 14, 15, 16, 19, 20, 21, 23, 26, 29, 30, 34, 38, 43, 59, 62] [3, 7, 10, 12, 22, 24, 25, 27, 28, 42, 48, 50, 51, 55] [(3, (0 : Int32))] o_me o1 := Kp.rf.trans (by rw [eo1]; exact Kp.sI (by decide))
  have rg2 := i32_rg p0
  have t3 : p0.toInt64.toInt = p0.toInt := Int32.toInt_toInt64 _
  have t4 := igX9_62 hIo1
  have t5 : ((gI o1 62).toInt64).toInt = (gI o1 62).toInt := Int32.toInt_toInt64 _
  have t6 : (((gI o1 62).toInt64) - (1 : Int64)).toInt = ((gI o1 62).toInt64).toInt - 1 := i64_sub rfl (by decide) (by omega) (by omega)
  refine wp_bd (s_X9_in   p0.toInt64 (0 : Int64) (((gI o1 62).toInt64) - (1 : Int64))    ) (fun z7 hz7 => ?_)
  obtain ⟨hz7_0, hz7_1⟩ := hz7
  refine wp_if (fun c8 => ?_) (fun c8 => ?_)
  · have c8 := cv_eq (a := z7.toInt) (b := 0) rfl (by decide) c8
    refine wp_some ?_
    exact (show IvX9 o1 ∧ Kp [8, 13, 14, 15, 16, 19, 20, 21, 23, 26, 29, 30, 34, 38, 43, 59, 62] [3, 7, 10, 12, 22, 24, 25, 27, 28, 42, 48, 50, 51, 55] [(3, (0 : Int32))] o_me o1 from ⟨hIo1, hkpo1⟩)
  · have c8z := c8
    have c8i := hz7_1 c8
    have c8 := cv_ne (a := z7.toInt) (b := 0) rfl (by decide) c8
    have rg9 := i32_rg p1
    have t10 : p1.toInt64.toInt = p1.toInt := Int32.toInt_toInt64 _
    refine wp_bd (s_X9_in   p1.toInt64 (0 : Int64) (2 : Int64)    ) (fun z11 hz11 => ?_)
    obtain ⟨hz11_0, hz11_1⟩ := hz11
    refine wp_if (fun c12 => ?_) (fun c12 => ?_)
    · have c12 := cv_eq (a := z11.toInt) (b := 0) rfl (by decide) c12
      refine wp_some ?_
      exact (show IvX9 o1 ∧ Kp [8, 13, 14, 15, 16, 19, 20, 21, 23, 26, 29, 30, 34, 38, 43, 59, 62] [3, 7, 10, 12, 22, 24, 25, 27, 28, 42, 48, 50, 51, 55] [(3, (0 : Int32))] o_me o1 from ⟨hIo1, hkpo1⟩)
    · have c12z := c12
      have c12i := hz11_1 c12
      have c12 := cv_ne (a := z11.toInt) (b := 0) rfl (by decide) c12
      refine wp_if (fun c13 => ?_) (fun c13 => ?_)
      · have c13 := cv_eq (a := p1.toInt) (b := 0) rfl (by decide) c13
        obtain ⟨w14, ew14⟩ : ∃ z : Int32, z = (8 : Int32) := ⟨_, rfl⟩
        have tw14 : w14.toInt = 8 := by rw [ew14]; decide
        rw [show bk_X9_drawn_60   p0 (8 : Int32) o1 = bk_X9_drawn_60   p0 w14 o1 from by rw [ew14]]
        unfold bk_X9_drawn_60
        have t15 : (w14 - (4 : Int32)).toInt = w14.toInt - 4 := i32_sub rfl (by decide) (by omega) (by omega)
        have t16 : ((w14 - (4 : Int32)) + p0).toInt = (w14 - (4 : Int32)).toInt + p0.toInt := i32_add rfl rfl (by omega) (by omega)
        refine wp_gd (zin_of (m := 25) rfl (by omega) (by omega)) ?_
        refine wp_some ?_
        exact (show IvX9 o1 ∧ Kp [8, 13, 14, 15, 16, 19, 20, 21, 23, 26, 29, 30, 34, 38, 43, 59, 62] [3, 7, 10, 12, 22, 24, 25, 27, 28, 42, 48, 50, 51, 55] [(3, (0 : Int32))] o_me o1 from ⟨hIo1, hkpo1⟩)
      · have c13z := c13
        have c13 := cv_ne (a := p1.toInt) (b := 0) rfl (by decide) c13
        refine wp_if (fun c17 => ?_) (fun c17 => ?_)
        · have c17 := cv_eq (a := p1.toInt) (b := 1) rfl (by decide) c17
          obtain ⟨w18, ew18⟩ : ∃ z : Int32, z = (15 : Int32) := ⟨_, rfl⟩
          have tw18 : w18.toInt = 15 := by rw [ew18]; decide
          rw [show bk_X9_drawn_60   p0 (15 : Int32) o1 = bk_X9_drawn_60   p0 w18 o1 from by rw [ew18]]
          unfold bk_X9_drawn_60
          have t19 : (w18 - (4 : Int32)).toInt = w18.toInt - 4 := i32_sub rfl (by decide) (by omega) (by omega)
          have t20 : ((w18 - (4 : Int32)) + p0).toInt = (w18 - (4 : Int32)).toInt + p0.toInt := i32_add rfl rfl (by omega) (by omega)
          refine wp_gd (zin_of (m := 25) rfl (by omega) (by omega)) ?_
          refine wp_some ?_
          exact (show IvX9 o1 ∧ Kp [8, 13, 14, 15, 16, 19, 20, 21, 23, 26, 29, 30, 34, 38, 43, 59, 62] [3, 7, 10, 12, 22, 24, 25, 27, 28, 42, 48, 50, 51, 55] [(3, (0 : Int32))] o_me o1 from ⟨hIo1, hkpo1⟩)
        · have c17 := cv_ne (a := p1.toInt) (b := 1) rfl (by decide) c17
          obtain ⟨w21, ew21⟩ : ∃ z : Int32, z = (22 : Int32) := ⟨_, rfl⟩
          have tw21 : w21.toInt = 22 := by rw [ew21]; decide
          rw [show bk_X9_drawn_60   p0 (22 : Int32) o1 = bk_X9_drawn_60   p0 w21 o1 from by rw [ew21]]
          unfold bk_X9_drawn_60
          have t22 : (w21 - (4 : Int32)).toInt = w21.toInt - 4 := i32_sub rfl (by decide) (by omega) (by omega)
          have t23 : ((w21 - (4 : Int32)) + p0).toInt = (w21 - (4 : Int32)).toInt + p0.toInt := i32_add rfl rfl (by omega) (by omega)
          refine wp_gd (zin_of (m := 25) rfl (by omega) (by omega)) ?_
          refine wp_some ?_
          exact (show IvX9 o1 ∧ Kp [8, 13, 14, 15, 16, 19, 20, 21, 23, 26, 29, 30, 34, 38, 43, 59, 62] [3, 7, 10, 12, 22, 24, 25, 27, 28, 42, 48, 50, 51, 55] [(3, (0 : Int32))] o_me o1 from ⟨hIo1, hkpo1⟩)

set_option maxHeartbeats 4000000 in
set_option maxRecDepth 100000 in
theorem s_X9_elder (o_me : Ob) (p0 : Int32) (hI_me : IvX9 o_me) (q0 : 0 ≤ p0.toInt ∧ p0.toInt ≤ 6) : wp (f_X9_elder   o_me p0) (fun (y : Int32) => True) := by
  have li0 : (0 : Int32).toInt = 0 := by decide
  have li1 : (1 : Int32).toInt = 1 := by decide
  have li2 : (29 : Int32).toInt = 29 := by decide
  unfold f_X9_elder
  have lp1 : ∀ (N1 : Nat) (v1_1 : Int32) (v2_1 : Int32) (v3_1 : Int32), (0 ≤ v1_1.toInt ∧ v1_1.toInt ≤ 6) → (0 ≤ v3_1.toInt ∧ v3_1.toInt ≤ 6) → (v3_1.toInt ≤ v1_1.toInt + 0) → (v1_1.toInt ≤ p0.toInt + 0) → (p0.toInt ≤ v1_1.toInt + 0) → (v3_1.toInt ≤ p0.toInt + 0) → (6 - v3_1.toInt).toNat < N1 → wp (lp_X9_elder_4 o_me  N1 (v1_1, v2_1, v3_1)) (fun (y : Int32) => True) := by
    intro N1
    induction N1 with
    | zero =>
      intro v1_1 v2_1 v3_1 hh1 hh2 hh3 hh4 hh5 hh6 hN1
      exact absurd hN1 (Nat.not_lt_zero _)
    | succ N1 ihx =>
      have ih1 := ihx
      intro v1_1 v2_1 v3_1 hh1 hh2 hh3 hh4 hh5 hh6 hN1
      show wp (lb_X9_elder_4 o_me  (lp_X9_elder_4 o_me  N1) v1_1 v2_1 v3_1) (fun (y : Int32) => True)
      unfold lb_X9_elder_4
      refine wp_if (fun c7 => ?_) (fun c7 => ?_)
      · have c7 := cv_ge (a := v3_1.toInt) (b := v1_1.toInt) rfl rfl c7
        refine wp_some ?_
        exact trivial
      · have c7 := cv_nge (a := v3_1.toInt) (b := v1_1.toInt) rfl rfl c7
        have t8 : ((29 : Int32) + v3_1).toInt = 29 + v3_1.toInt := i32_add (by decide) rfl (by omega) (by omega)
        refine wp_gd (zin_of (m := 5484) rfl (by omega) (by omega)) ?_
        have t9 := iaX9_3_7 hI_me (j := (29 : Int32) + v3_1) (by omega) (by omega)
        have t10 : ((29 : Int32) + v1_1).toInt = 29 + v1_1.toInt := i32_add (by decide) rfl (by omega) (by omega)
        refine wp_gd (zin_of (m := 5484) rfl (by omega) (by omega)) ?_
        have t11 := iaX9_3_7 hI_me (j := (29 : Int32) + v1_1) (by omega) (by omega)
        refine wp_if (fun c12 => ?_) (fun c12 => ?_)
        · have c12 := cv_eq (a := (gA o_me 3 ((29 : Int32) + v3_1).toNatClampNeg).toInt) (b := (gA o_me 3 ((29 : Int32) + v1_1).toNatClampNeg).toInt) rfl rfl c12
          obtain ⟨w13, ew13⟩ : ∃ z : Int32, z = (1 : Int32) := ⟨_, rfl⟩
          have tw13 : w13.toInt = 1 := by rw [ew13]; decide
          rw [show bk_X9_elder_36 o_me (lp_X9_elder_4 o_me  N1) v1_1 v3_1 (1 : Int32) v2_1 = bk_X9_elder_36 o_me (lp_X9_elder_4 o_me  N1) v1_1 v3_1 w13 v2_1 from by rw [ew13]]
          unfold bk_X9_elder_36
          refine wp_lt (fun x14 ex14 => ?_)
          have tx14 : x14.toInt = (v2_1 + w13).toInt := by rw [ex14]
          refine wp_lt (fun x15 ex15 => ?_)
          have tx15 : x15.toInt = v3_1.toInt + 1 := by rw [ex15]; exact i32_add rfl (by decide) (by omega) (by omega)
          exact ih1 v1_1 x14 x15  ⟨by omega, by omega⟩ ⟨by omega, by omega⟩ (by omega) (by omega) (by omega) (by omega) (by omega)
        · have c12 := cv_ne (a := (gA o_me 3 ((29 : Int32) + v3_1).toNatClampNeg).toInt) (b := (gA o_me 3 ((29 : Int32) + v1_1).toNatClampNeg).toInt) rfl rfl c12
          obtain ⟨w16, ew16⟩ : ∃ z : Int32, z = (0 : Int32) := ⟨_, rfl⟩
          have tw16 : w16.toInt = 0 := by rw [ew16]; decide
          rw [show bk_X9_elder_36 o_me (lp_X9_elder_4 o_me  N1) v1_1 v3_1 (0 : Int32) v2_1 = bk_X9_elder_36 o_me (lp_X9_elder_4 o_me  N1) v1_1 v3_1 w16 v2_1 from by rw [ew16]]
          unfold bk_X9_elder_36
          have rg18 := i32_rg v2_1
          have t17 : (v2_1 + w16).toInt = v2_1.toInt + w16.toInt := i32_add rfl rfl (by omega) (by omega)
          refine wp_lt (fun x19 ex19 => ?_)
          have tx19 : x19.toInt = (v2_1 + w16).toInt := by rw [ex19]
          refine wp_lt (fun x20 ex20 => ?_)
          have tx20 : x20.toInt = v3_1.toInt + 1 := by rw [ex20]; exact i32_add rfl (by decide) (by omega) (by omega)
          exact ih1 v1_1 x19 x20  ⟨by omega, by omega⟩ ⟨by omega, by omega⟩ (by omega) (by omega) (by omega) (by omega) (by omega)
  exact lp1 zfu p0 (0 : Int32) (0 : Int32)  ⟨by omega, by omega⟩ ⟨by decide, by decide⟩ (by omega) (by omega) (by omega) (by omega) (by show _ < 100000; omega)

set_option maxHeartbeats 4000000 in
set_option maxRecDepth 100000 in
theorem s_X9_end (o_me : Ob) (p0 : Int32) (hI_me : IvX9 o_me)  : wp (f_X9_end   o_me p0) (fun (y : Int32 × Ob) => ((-1) ≤ y.1.toInt ∧ y.1.toInt ≤ 400) ∧ IvX9 y.2 ∧ Kp [8, 14, 15, 16, 19, 20, 21, 23, 26, 29, 30, 34, 38, 43, 59, 62] [3, 7, 10, 12, 22, 24, 25, 27, 28, 42, 48, 50, 51, 55] [(3, (0 : Int32))] o_me y.2) := by
  have li0 : (-1 : Int32).toInt = (-1) := by decide
  have li1 : (0 : Int32).toInt = 0 := by decide
  unfold f_X9_end
  refine wp_lt (fun o1 eo1 => ?_)
  have hIo1 : IvX9 o1 := by rw [eo1]; exact hI_me
  have ko1_v : (gI o1 0).toInt = 0 := by rw [eo1]; exact (show ((0 : Int32)).toInt = _ from by decide)
  have hkpo1 : Kp [8, 14, 15, 16, 19, 20, 21, 23, 26, 29, 30, 34, 38, 43, 59, 62] [3, 7, 10, 12, 22, 24, 25, 27, 28, 42, 48, 50, 51, 55] [(3, (0 : Int32))] o_me o1 := Kp.rf.trans (by rw [eo1]; exact Kp.sI (by decide))
  refine wp_if (fun c2 => ?_) (fun c2 => ?_)
  · have c2 := cv_lt (a := p0.toInt) (b := 0) rfl (by decide) c2
    refine wp_some ?_
    exact (show ((-1) ≤ (-1 : Int32).toInt ∧ (-1 : Int32).toInt ≤ 400) ∧ IvX9 o1 ∧ Kp [8, 14, 15, 16, 19, 20, 21, 23, 26, 29, 30, 34, 38, 43, 59, 62] [3, 7, 10, 12, 22, 24, 25, 27, 28, 42, 48, 50, 51, 55] [(3, (0 : Int32))] o_me o1 from ⟨⟨by decide, by decide⟩, hIo1, hkpo1⟩)
  · have c2 := cv_nlt (a := p0.toInt) (b := 0) rfl (by decide) c2
    have t3 := igX9_13 hIo1
    have rg5 := i32_rg p0
    refine wp_if (fun c4 => ?_) (fun c4 => ?_)
    · have c4 := cv_le (a := p0.toInt) (b := (gI o1 13).toInt) rfl rfl c4
      refine wp_lt (fun o6 eo6 => ?_)
      have hIo6 : IvX9 o6 := by rw [eo6]; exact ipX9_13 hIo1 ⟨by omega, by omega⟩
      have ko6_k7 : (gI o6 0).toInt = (gI o1 0).toInt := by rw [eo6]; rfl
      have ko6_v : (gI o6 13).toInt = p0.toInt := by rw [eo6]; rfl
      have hkpo6 : Kp [8, 14, 15, 16, 19, 20, 21, 23, 26, 29, 30, 34, 38, 43, 59, 62] [3, 7, 10, 12, 22, 24, 25, 27, 28, 42, 48, 50, 51, 55] [(3, (0 : Int32))] o_me o6 := hkpo1.trans (by rw [eo6]; exact Kp.sI (by decide))
      refine wp_some ?_
      exact (show ((-1) ≤ p0.toInt ∧ p0.toInt ≤ 400) ∧ IvX9 o6 ∧ Kp [8, 14, 15, 16, 19, 20, 21, 23, 26, 29, 30, 34, 38, 43, 59, 62] [3, 7, 10, 12, 22, 24, 25, 27, 28, 42, 48, 50, 51, 55] [(3, (0 : Int32))] o_me o6 from ⟨⟨by omega, by omega⟩, hIo6, hkpo6⟩)
    · have c4 := cv_nle (a := p0.toInt) (b := (gI o1 13).toInt) rfl rfl c4
      refine wp_some ?_
      exact (show ((-1) ≤ (-1 : Int32).toInt ∧ (-1 : Int32).toInt ≤ 400) ∧ IvX9 o1 ∧ Kp [8, 14, 15, 16, 19, 20, 21, 23, 26, 29, 30, 34, 38, 43, 59, 62] [3, 7, 10, 12, 22, 24, 25, 27, 28, 42, 48, 50, 51, 55] [(3, (0 : Int32))] o_me o1 from ⟨⟨by decide, by decide⟩, hIo1, hkpo1⟩)

set_option maxHeartbeats 4000000 in
set_option maxRecDepth 100000 in
theorem s_X9_endText (o_me : Ob) (hI_me : IvX9 o_me) (r0 : (gI o_me 15).toInt ≤ (gI o_me 13).toInt + 0) : wp (f_X9_endText   o_me) (fun (y : Ob) => IvX9 y ∧ Kp [8, 21, 23, 26, 29, 30, 34, 38, 43, 59, 62] [3, 7, 10, 12, 22, 24, 25, 27, 28, 42, 48, 50, 51, 55] [(3, (0 : Int32))] o_me y) := by
  have li0 : (0 : Int32).toInt = 0 := by decide
  unfold f_X9_endText
  have t1 := igX9_19 hI_me
  refine wp_if (fun c2 => ?_) (fun c2 => ?_)
  · have c2 := cv_eq (a := (gI o_me 19).toInt) (b := 0) rfl (by decide) c2
    have t3 := igX9_16 hI_me
    refine wp_if (fun c4 => ?_) (fun c4 => ?_)
    · have c4 := cv_eq (a := (gI o_me 16).toInt) (b := 0) rfl (by decide) c4
      unfold bk_X9_endText_19
      refine wp_lt (fun o5 eo5 => ?_)
      have hIo5 : IvX9 o5 := by rw [eo5]; exact ipX9_20 hI_me ⟨by decide, by decide⟩
      have ko5_k6 : (gI o5 13).toInt = (gI o_me 13).toInt := by rw [eo5]; rfl
      have ko5_k7 : (gI o5 15).toInt = (gI o_me 15).toInt := by rw [eo5]; rfl
      have ko5_k8 : (gI o5 16).toInt = (gI o_me 16).toInt := by rw [eo5]; rfl
      have ko5_k9 : (gI o5 19).toInt = (gI o_me 19).toInt := by rw [eo5]; rfl
      have ko5_v : (gI o5 20).toInt = 0 := by rw [eo5]; exact (show ((0 : Int32)).toInt = _ from by decide)
      have hkpo5 : Kp [8, 21, 23, 26, 29, 30, 34, 38, 43, 59, 62] [3, 7, 10, 12, 22, 24, 25, 27, 28, 42, 48, 50, 51, 55] [(3, (0 : Int32))] o_me o5 := Kp.rf.trans (by rw [eo5]; exact Kp.sI (by decide))
      refine wp_lt (fun o10 eo10 => ?_)
      have hIo10 : IvX9 o10 := by rw [eo10]; exact ipX9_13 hIo5 ⟨by decide, by decide⟩
      have ko10_k11 : (gI o10 15).toInt = (gI o5 15).toInt := by rw [eo10]; rfl
      have ko10_k12 : (gI o10 16).toInt = (gI o5 16).toInt := by rw [eo10]; rfl
      have ko10_k13 : (gI o10 19).toInt = (gI o5 19).toInt := by rw [eo10]; rfl
      have ko10_k14 : (gI o10 20).toInt = (gI o5 20).toInt := by rw [eo10]; rfl
      have ko10_v : (gI o10 13).toInt = 0 := by rw [eo10]; exact (show ((0 : Int32)).toInt = _ from by decide)
      have hkpo10 : Kp [8, 21, 23, 26, 29, 30, 34, 38, 43, 59, 62] [3, 7, 10, 12, 22, 24, 25, 27, 28, 42, 48, 50, 51, 55] [(3, (0 : Int32))] o_me o10 := hkpo5.trans (by rw [eo10]; exact Kp.sI (by decide))
      refine wp_some ?_
      exact (show IvX9 o10 ∧ Kp [8, 21, 23, 26, 29, 30, 34, 38, 43, 59, 62] [3, 7, 10, 12, 22, 24, 25, 27, 28, 42, 48, 50, 51, 55] [(3, (0 : Int32))] o_me o10 from ⟨hIo10, hkpo10⟩)
    · have c4z := c4
      have c4 := cv_ne (a := (gI o_me 16).toInt) (b := 0) rfl (by decide) c4
      have t16 := igX9_15 hI_me
      have t17 := igX9_13 hI_me
      refine wp_bd (s_X9_must   o_me (0 : Int32)  hI_me  ⟨by decide, by decide⟩ (by omega)) (fun z15 hz15 => ?_)
      obtain ⟨hz15_0, hz15_1, hz15_2⟩ := hz15
      have hkpz15_me : Kp [8, 21, 23, 26, 29, 30, 34, 38, 43, 59, 62] [3, 7, 10, 12, 22, 24, 25, 27, 28, 42, 48, 50, 51, 55] [(3, (0 : Int32))] o_me z15 := Kp.rf.trans (hz15_1.mono (by decide) (by decide) (by decide))
      have kz15_k18 : (gI z15 13).toInt = (gI o_me 13).toInt := congrArg Int32.toInt (hz15_1.1 13 (by decide))
      unfold bk_X9_endText_19
      refine wp_lt (fun o19 eo19 => ?_)
      have hIo19 : IvX9 o19 := by rw [eo19]; exact ipX9_20 hz15_0 ⟨by decide, by decide⟩
      have ko19_k20 : (gI o19 13).toInt = (gI z15 13).toInt := by rw [eo19]; rfl
      have ko19_k21 : (gI o19 15).toInt = (gI z15 15).toInt := by rw [eo19]; rfl
      have ko19_v : (gI o19 20).toInt = 0 := by rw [eo19]; exact (show ((0 : Int32)).toInt = _ from by decide)
      have hkpo19 : Kp [8, 21, 23, 26, 29, 30, 34, 38, 43, 59, 62] [3, 7, 10, 12, 22, 24, 25, 27, 28, 42, 48, 50, 51, 55] [(3, (0 : Int32))] o_me o19 := hkpz15_me.trans (by rw [eo19]; exact Kp.sI (by decide))
      refine wp_lt (fun o22 eo22 => ?_)
      have hIo22 : IvX9 o22 := by rw [eo22]; exact ipX9_13 hIo19 ⟨by decide, by decide⟩
      have ko22_k23 : (gI o22 15).toInt = (gI o19 15).toInt := by rw [eo22]; rfl
      have ko22_k24 : (gI o22 20).toInt = (gI o19 20).toInt := by rw [eo22]; rfl
      have ko22_v : (gI o22 13).toInt = 0 := by rw [eo22]; exact (show ((0 : Int32)).toInt = _ from by decide)
      have hkpo22 : Kp [8, 21, 23, 26, 29, 30, 34, 38, 43, 59, 62] [3, 7, 10, 12, 22, 24, 25, 27, 28, 42, 48, 50, 51, 55] [(3, (0 : Int32))] o_me o22 := hkpo19.trans (by rw [eo22]; exact Kp.sI (by decide))
      refine wp_some ?_
      exact (show IvX9 o22 ∧ Kp [8, 21, 23, 26, 29, 30, 34, 38, 43, 59, 62] [3, 7, 10, 12, 22, 24, 25, 27, 28, 42, 48, 50, 51, 55] [(3, (0 : Int32))] o_me o22 from ⟨hIo22, hkpo22⟩)
  · have c2z := c2
    have c2 := cv_ne (a := (gI o_me 19).toInt) (b := 0) rfl (by decide) c2
    unfold bk_X9_endText_19
    refine wp_lt (fun o25 eo25 => ?_)
    have hIo25 : IvX9 o25 := by rw [eo25]; exact ipX9_20 hI_me ⟨by decide, by decide⟩
    have ko25_k26 : (gI o25 13).toInt = (gI o_me 13).toInt := by rw [eo25]; rfl
    have ko25_k27 : (gI o25 15).toInt = (gI o_me 15).toInt := by rw [eo25]; rfl
    have ko25_k28 : (gI o25 19).toInt = (gI o_me 19).toInt := by rw [eo25]; rfl
    have ko25_v : (gI o25 20).toInt = 0 := by rw [eo25]; exact (show ((0 : Int32)).toInt = _ from by decide)
    have hkpo25 : Kp [8, 21, 23, 26, 29, 30, 34, 38, 43, 59, 62] [3, 7, 10, 12, 22, 24, 25, 27, 28, 42, 48, 50, 51, 55] [(3, (0 : Int32))] o_me o25 := Kp.rf.trans (by rw [eo25]; exact Kp.sI (by decide))
    refine wp_lt (fun o29 eo29 => ?_)
    have hIo29 : IvX9 o29 := by rw [eo29]; exact ipX9_13 hIo25 ⟨by decide, by decide⟩
    have ko29_k30 : (gI o29 15).toInt = (gI o25 15).toInt := by rw [eo29]; rfl
    have ko29_k31 : (gI o29 19).toInt = (gI o25 19).toInt := by rw [eo29]; rfl
    have ko29_k32 : (gI o29 20).toInt = (gI o25 20).toInt := by rw [eo29]; rfl
    have ko29_v : (gI o29 13).toInt = 0 := by rw [eo29]; exact (show ((0 : Int32)).toInt = _ from by decide)
    have hkpo29 : Kp [8, 21, 23, 26, 29, 30, 34, 38, 43, 59, 62] [3, 7, 10, 12, 22, 24, 25, 27, 28, 42, 48, 50, 51, 55] [(3, (0 : Int32))] o_me o29 := hkpo25.trans (by rw [eo29]; exact Kp.sI (by decide))
    refine wp_some ?_
    exact (show IvX9 o29 ∧ Kp [8, 21, 23, 26, 29, 30, 34, 38, 43, 59, 62] [3, 7, 10, 12, 22, 24, 25, 27, 28, 42, 48, 50, 51, 55] [(3, (0 : Int32))] o_me o29 from ⟨hIo29, hkpo29⟩)

set_option maxHeartbeats 4000000 in
set_option maxRecDepth 100000 in
theorem s_X9_enter (o_me : Ob) (p0 : Int32) (hI_me : IvX9 o_me) (q0 : 0 ≤ (gI o_me 20).toInt ∧ (gI o_me 20).toInt ≤ 0) : wp (f_X9_enter   o_me p0) (fun (y : Int32 × Ob) => ((-6) ≤ y.1.toInt ∧ y.1.toInt ≤ 2147483647) ∧ IvX9 y.2 ∧ Kp [13, 14, 15, 16, 19, 20, 21, 23, 26, 29, 30, 34, 38, 43, 59, 62] [10, 12, 22, 24, 25, 27, 28, 42, 48, 50, 51, 55] [(3, (0 : Int32))] o_me y.2) := by
  have li0 : (0 : Int32).toInt = 0 := by decide
  unfold f_X9_enter
  refine wp_lt (fun o1 eo1 => ?_)
  have hIo1 : IvX9 o1 := by rw [eo1]; exact hI_me
  have ko1_k2 : (gI o1 20).toInt = (gI o_me 20).toInt := by rw [eo1]; rfl
  have ko1_v : (gI o1 0).toInt = 0 := by rw [eo1]; exact (show ((0 : Int32)).toInt = _ from by decide)
  have hkpo1 : Kp [13, 14, 15, 16, 19, 20, 21, 23, 26, 29, 30, 34, 38, 43, 59, 62] [10, 12, 22, 24, 25, 27, 28, 42, 48, 50, 51, 55] [(3, (0 : Int32))] o_me o1 := Kp.rf.trans (by rw [eo1]; exact Kp.sI (by decide))
  refine wp_bd (s_X9_enterNow   o1 p0  hIo1  ⟨by omega, by omega⟩) (fun z3 hz3 => ?_)
  obtain ⟨hz3_0, hz3_1, hz3_2⟩ := hz3
  have hkpz3_me : Kp [13, 14, 15, 16, 19, 20, 21, 23, 26, 29, 30, 34, 38, 43, 59, 62] [10, 12, 22, 24, 25, 27, 28, 42, 48, 50, 51, 55] [(3, (0 : Int32))] o_me z3.2 := hkpo1.trans (hz3_2.mono (by decide) (by decide) (by decide))
  have kz3_k4 : (gI z3.2 20).toInt = (gI o1 20).toInt := congrArg Int32.toInt (hz3_2.1 20 (by decide))
  have rg6 := i32_rg z3.1
  refine wp_bd (s_X9_tell   z3.2 z3.1  hz3_1  ⟨by omega, by omega⟩) (fun z5 hz5 => ?_)
  obtain ⟨hz5_0, hz5_1, hz5_2⟩ := hz5
  have hkpz5_me : Kp [13, 14, 15, 16, 19, 20, 21, 23, 26, 29, 30, 34, 38, 43, 59, 62] [10, 12, 22, 24, 25, 27, 28, 42, 48, 50, 51, 55] [(3, (0 : Int32))] o_me z5.2 := hkpz3_me.trans (hz5_2.mono (by decide) (by decide) (by decide))
  have kz5_k7 : (gI z5.2 20).toInt = (gI z3.2 20).toInt := congrArg Int32.toInt (hz5_2.1 20 (by decide))
  refine wp_some ?_
  have rg8 := i32_rg z5.1
  exact (show ((-6) ≤ z5.1.toInt ∧ z5.1.toInt ≤ 2147483647) ∧ IvX9 z5.2 ∧ Kp [13, 14, 15, 16, 19, 20, 21, 23, 26, 29, 30, 34, 38, 43, 59, 62] [10, 12, 22, 24, 25, 27, 28, 42, 48, 50, 51, 55] [(3, (0 : Int32))] o_me z5.2 from ⟨⟨by omega, by omega⟩, hz5_1, hkpz5_me⟩)

set_option maxHeartbeats 4000000 in
set_option maxRecDepth 100000 in
theorem s_X9_fault (o_me : Ob) (hI_me : IvX9 o_me)  : wp (f_X9_fault   o_me) (fun (y : Int32 × Ob) => IvX9 y.2 ∧ Kp [8, 13, 14, 15, 16, 19, 20, 21, 23, 26, 29, 30, 34, 38, 43, 59, 62] [3, 7, 10, 12, 22, 24, 25, 27, 28, 42, 48, 50, 51, 55] [(3, (0 : Int32))] o_me y.2) := by
  have li0 : (0 : Int32).toInt = 0 := by decide
  unfold f_X9_fault
  refine wp_lt (fun o1 eo1 => ?_)
  have hIo1 : IvX9 o1 := by rw [eo1]; exact hI_me
  have ko1_v : (gI o1 0).toInt = 0 := by rw [eo1]; exact (show ((0 : Int32)).toInt = _ from by decide)
  have hkpo1 : Kp [8, 13, 14, 15, 16, 19, 20, 21, 23, 26, 29, 30, 34, 38, 43, 59, 62] [3, 7, 10, 12, 22, 24, 25, 27, 28, 42, 48, 50, 51, 55] [(3, (0 : Int32))] o_me o1 := Kp.rf.trans (by rw [eo1]; exact Kp.sI (by decide))
  refine wp_some ?_
  exact (show IvX9 o1 ∧ Kp [8, 13, 14, 15, 16, 19, 20, 21, 23, 26, 29, 30, 34, 38, 43, 59, 62] [3, 7, 10, 12, 22, 24, 25, 27, 28, 42, 48, 50, 51, 55] [(3, (0 : Int32))] o_me o1 from ⟨hIo1, hkpo1⟩)

set_option maxHeartbeats 4000000 in
set_option maxRecDepth 100000 in
theorem s_X9_four (o_me : Ob) (p0 : Int32) (hI_me : IvX9 o_me) (q0 : 0 ≤ (gI o_me 13).toInt ∧ (gI o_me 13).toInt ≤ 396) : wp (f_X9_four   o_me p0) (fun (y : Ob) => IvX9 y ∧ Kp [8, 14, 15, 16, 19, 20, 21, 23, 26, 29, 30, 34, 38, 43, 59, 62] [3, 7, 10, 22, 24, 25, 27, 28, 42, 48, 50, 51, 55] [(3, (0 : Int32))] o_me y ∧ ((gI o_me 13).toInt + 4 ≤ (gI y 13).toInt ∧ (gI y 13).toInt ≤ (gI o_me 13).toInt + 4)) := by
  have li0 : (-8 : Int32).toInt = (-8) := by decide
  have li1 : (0 : Int32).toInt = 0 := by decide
  have li2 : (1 : Int32).toInt = 1 := by decide
  have li3 : (16 : Int32).toInt = 16 := by decide
  have li4 : (24 : Int32).toInt = 24 := by decide
  have li5 : (255 : Int32).toInt = 255 := by decide
  have li6 : (8 : Int32).toInt = 8 := by decide
  unfold f_X9_four
  show wp (lb_X9_four_3  (lp_X9_four_3  99999) p0 (24 : Int32) o_me) (fun (y : Ob) => IvX9 y ∧ Kp [8, 14, 15, 16, 19, 20, 21, 23, 26, 29, 30, 34, 38, 43, 59, 62] [3, 7, 10, 22, 24, 25, 27, 28, 42, 48, 50, 51, 55] [(3, (0 : Int32))] o_me y ∧ ((gI o_me 13).toInt + 4 ≤ (gI y 13).toInt ∧ (gI y 13).toInt ≤ (gI o_me 13).toInt + 4))
  unfold lb_X9_four_3
  have t1 := i32_and (x := p0 >>> ((24 : Int32) &&& 31)) (y := (255 : Int32)) (m := 255) ⟨by decide, by decide⟩
  refine wp_gd (zin_of (m := 400) rfl (by omega) (by omega)) ?_
  refine wp_lt (fun o2 eo2 => ?_)
  have hIo2 : IvX9 o2 := by rw [eo2]; exact hI_me
  have ko2_k3 : (gI o2 13).toInt = (gI o_me 13).toInt := by rw [eo2]; rfl
  have ko2_v : (gA o2 12 (gI o_me 13).toNatClampNeg).toInt = ((p0 >>> ((24 : Int32) &&& 31)) &&& (255 : Int32)).toInt := by rw [eo2]; exact congrArg Int32.toInt (upd_eq (g := gA o_me 12) (i := (gI o_me 13)) (v := ((p0 >>> ((24 : Int32) &&& 31)) &&& (255 : Int32))))
  have hkpo2 : Kp [8, 14, 15, 16, 19, 20, 21, 23, 26, 29, 30, 34, 38, 43, 59, 62] [3, 7, 10, 22, 24, 25, 27, 28, 42, 48, 50, 51, 55] [(3, (0 : Int32))] o_me o2 := Kp.rf.trans (by rw [eo2]; exact Kp.tA (by decide) (by decide))
  have t4 : ((gI o2 13) + (1 : Int32)).toInt = (gI o2 13).toInt + 1 := i32_add rfl (by decide) (by omega) (by omega)
  refine wp_lt (fun o5 eo5 => ?_)
  have hIo5 : IvX9 o5 := by rw [eo5]; exact ipX9_13 hIo2 ⟨by omega, by omega⟩
  have ko5_k6 : (gA o5 12 (gI o_me 13).toNatClampNeg).toInt = (gA o2 12 (gI o_me 13).toNatClampNeg).toInt := by rw [eo5]; rfl
  have ko5_v : (gI o5 13).toInt = ((gI o2 13) + (1 : Int32)).toInt := by rw [eo5]; rfl
  have hkpo5 : Kp [8, 14, 15, 16, 19, 20, 21, 23, 26, 29, 30, 34, 38, 43, 59, 62] [3, 7, 10, 22, 24, 25, 27, 28, 42, 48, 50, 51, 55] [(3, (0 : Int32))] o_me o5 := hkpo2.trans (by rw [eo5]; exact Kp.sI (by decide))
  show wp (lb_X9_four_3  (lp_X9_four_3  99998) p0 (16 : Int32) o5) (fun (y : Ob) => IvX9 y ∧ Kp [8, 14, 15, 16, 19, 20, 21, 23, 26, 29, 30, 34, 38, 43, 59, 62] [3, 7, 10, 22, 24, 25, 27, 28, 42, 48, 50, 51, 55] [(3, (0 : Int32))] o_me y ∧ ((gI o_me 13).toInt + 4 ≤ (gI y 13).toInt ∧ (gI y 13).toInt ≤ (gI o_me 13).toInt + 4))
  unfold lb_X9_four_3
  have t7 := i32_and (x := p0 >>> ((16 : Int32) &&& 31)) (y := (255 : Int32)) (m := 255) ⟨by decide, by decide⟩
  refine wp_gd (zin_of (m := 400) rfl (by omega) (by omega)) ?_
  refine wp_lt (fun o8 eo8 => ?_)
  have hIo8 : IvX9 o8 := by rw [eo8]; exact hIo5
  have ko8_k9 : (gI o8 13).toInt = (gI o5 13).toInt := by rw [eo8]; rfl
  have ko8_v : (gA o8 12 (gI o5 13).toNatClampNeg).toInt = ((p0 >>> ((16 : Int32) &&& 31)) &&& (255 : Int32)).toInt := by rw [eo8]; exact congrArg Int32.toInt (upd_eq (g := gA o5 12) (i := (gI o5 13)) (v := ((p0 >>> ((16 : Int32) &&& 31)) &&& (255 : Int32))))
  have hkpo8 : Kp [8, 14, 15, 16, 19, 20, 21, 23, 26, 29, 30, 34, 38, 43, 59, 62] [3, 7, 10, 22, 24, 25, 27, 28, 42, 48, 50, 51, 55] [(3, (0 : Int32))] o_me o8 := hkpo5.trans (by rw [eo8]; exact Kp.tA (by decide) (by decide))
  have t10 : ((gI o8 13) + (1 : Int32)).toInt = (gI o8 13).toInt + 1 := i32_add rfl (by decide) (by omega) (by omega)
  refine wp_lt (fun o11 eo11 => ?_)
  have hIo11 : IvX9 o11 := by rw [eo11]; exact ipX9_13 hIo8 ⟨by omega, by omega⟩
  have ko11_k12 : (gA o11 12 (gI o5 13).toNatClampNeg).toInt = (gA o8 12 (gI o5 13).toNatClampNeg).toInt := by rw [eo11]; rfl
  have ko11_v : (gI o11 13).toInt = ((gI o8 13) + (1 : Int32)).toInt := by rw [eo11]; rfl
  have hkpo11 : Kp [8, 14, 15, 16, 19, 20, 21, 23, 26, 29, 30, 34, 38, 43, 59, 62] [3, 7, 10, 22, 24, 25, 27, 28, 42, 48, 50, 51, 55] [(3, (0 : Int32))] o_me o11 := hkpo8.trans (by rw [eo11]; exact Kp.sI (by decide))
  show wp (lb_X9_four_3  (lp_X9_four_3  99997) p0 (8 : Int32) o11) (fun (y : Ob) => IvX9 y ∧ Kp [8, 14, 15, 16, 19, 20, 21, 23, 26, 29, 30, 34, 38, 43, 59, 62] [3, 7, 10, 22, 24, 25, 27, 28, 42, 48, 50, 51, 55] [(3, (0 : Int32))] o_me y ∧ ((gI o_me 13).toInt + 4 ≤ (gI y 13).toInt ∧ (gI y 13).toInt ≤ (gI o_me 13).toInt + 4))
  unfold lb_X9_four_3
  have t13 := i32_and (x := p0 >>> ((8 : Int32) &&& 31)) (y := (255 : Int32)) (m := 255) ⟨by decide, by decide⟩
  refine wp_gd (zin_of (m := 400) rfl (by omega) (by omega)) ?_
  refine wp_lt (fun o14 eo14 => ?_)
  have hIo14 : IvX9 o14 := by rw [eo14]; exact hIo11
  have ko14_k15 : (gI o14 13).toInt = (gI o11 13).toInt := by rw [eo14]; rfl
  have ko14_v : (gA o14 12 (gI o11 13).toNatClampNeg).toInt = ((p0 >>> ((8 : Int32) &&& 31)) &&& (255 : Int32)).toInt := by rw [eo14]; exact congrArg Int32.toInt (upd_eq (g := gA o11 12) (i := (gI o11 13)) (v := ((p0 >>> ((8 : Int32) &&& 31)) &&& (255 : Int32))))
  have hkpo14 : Kp [8, 14, 15, 16, 19, 20, 21, 23, 26, 29, 30, 34, 38, 43, 59, 62] [3, 7, 10, 22, 24, 25, 27, 28, 42, 48, 50, 51, 55] [(3, (0 : Int32))] o_me o14 := hkpo11.trans (by rw [eo14]; exact Kp.tA (by decide) (by decide))
  have t16 : ((gI o14 13) + (1 : Int32)).toInt = (gI o14 13).toInt + 1 := i32_add rfl (by decide) (by omega) (by omega)
  refine wp_lt (fun o17 eo17 => ?_)
  have hIo17 : IvX9 o17 := by rw [eo17]; exact ipX9_13 hIo14 ⟨by omega, by omega⟩
  have ko17_k18 : (gA o17 12 (gI o11 13).toNatClampNeg).toInt = (gA o14 12 (gI o11 13).toNatClampNeg).toInt := by rw [eo17]; rfl
  have ko17_v : (gI o17 13).toInt = ((gI o14 13) + (1 : Int32)).toInt := by rw [eo17]; rfl
  have hkpo17 : Kp [8, 14, 15, 16, 19, 20, 21, 23, 26, 29, 30, 34, 38, 43, 59, 62] [3, 7, 10, 22, 24, 25, 27, 28, 42, 48, 50, 51, 55] [(3, (0 : Int32))] o_me o17 := hkpo14.trans (by rw [eo17]; exact Kp.sI (by decide))
  show wp (lb_X9_four_3  (lp_X9_four_3  99996) p0 (0 : Int32) o17) (fun (y : Ob) => IvX9 y ∧ Kp [8, 14, 15, 16, 19, 20, 21, 23, 26, 29, 30, 34, 38, 43, 59, 62] [3, 7, 10, 22, 24, 25, 27, 28, 42, 48, 50, 51, 55] [(3, (0 : Int32))] o_me y ∧ ((gI o_me 13).toInt + 4 ≤ (gI y 13).toInt ∧ (gI y 13).toInt ≤ (gI o_me 13).toInt + 4))
  unfold lb_X9_four_3
  have t19 := i32_and (x := p0 >>> ((0 : Int32) &&& 31)) (y := (255 : Int32)) (m := 255) ⟨by decide, by decide⟩
  refine wp_gd (zin_of (m := 400) rfl (by omega) (by omega)) ?_
  refine wp_lt (fun o20 eo20 => ?_)
  have hIo20 : IvX9 o20 := by rw [eo20]; exact hIo17
  have ko20_k21 : (gI o20 13).toInt = (gI o17 13).toInt := by rw [eo20]; rfl
  have ko20_v : (gA o20 12 (gI o17 13).toNatClampNeg).toInt = ((p0 >>> ((0 : Int32) &&& 31)) &&& (255 : Int32)).toInt := by rw [eo20]; exact congrArg Int32.toInt (upd_eq (g := gA o17 12) (i := (gI o17 13)) (v := ((p0 >>> ((0 : Int32) &&& 31)) &&& (255 : Int32))))
  have hkpo20 : Kp [8, 14, 15, 16, 19, 20, 21, 23, 26, 29, 30, 34, 38, 43, 59, 62] [3, 7, 10, 22, 24, 25, 27, 28, 42, 48, 50, 51, 55] [(3, (0 : Int32))] o_me o20 := hkpo17.trans (by rw [eo20]; exact Kp.tA (by decide) (by decide))
  have t22 : ((gI o20 13) + (1 : Int32)).toInt = (gI o20 13).toInt + 1 := i32_add rfl (by decide) (by omega) (by omega)
  refine wp_lt (fun o23 eo23 => ?_)
  have hIo23 : IvX9 o23 := by rw [eo23]; exact ipX9_13 hIo20 ⟨by omega, by omega⟩
  have ko23_k24 : (gA o23 12 (gI o17 13).toNatClampNeg).toInt = (gA o20 12 (gI o17 13).toNatClampNeg).toInt := by rw [eo23]; rfl
  have ko23_v : (gI o23 13).toInt = ((gI o20 13) + (1 : Int32)).toInt := by rw [eo23]; rfl
  have hkpo23 : Kp [8, 14, 15, 16, 19, 20, 21, 23, 26, 29, 30, 34, 38, 43, 59, 62] [3, 7, 10, 22, 24, 25, 27, 28, 42, 48, 50, 51, 55] [(3, (0 : Int32))] o_me o23 := hkpo20.trans (by rw [eo23]; exact Kp.sI (by decide))
  show wp (lb_X9_four_3  (lp_X9_four_3  99995) p0 (-8 : Int32) o23) (fun (y : Ob) => IvX9 y ∧ Kp [8, 14, 15, 16, 19, 20, 21, 23, 26, 29, 30, 34, 38, 43, 59, 62] [3, 7, 10, 22, 24, 25, 27, 28, 42, 48, 50, 51, 55] [(3, (0 : Int32))] o_me y ∧ ((gI o_me 13).toInt + 4 ≤ (gI y 13).toInt ∧ (gI y 13).toInt ≤ (gI o_me 13).toInt + 4))
  unfold lb_X9_four_3
  refine wp_some ?_
  exact (show IvX9 o23 ∧ Kp [8, 14, 15, 16, 19, 20, 21, 23, 26, 29, 30, 34, 38, 43, 59, 62] [3, 7, 10, 22, 24, 25, 27, 28, 42, 48, 50, 51, 55] [(3, (0 : Int32))] o_me o23 ∧ ((gI o_me 13).toInt + 4 ≤ (gI o23 13).toInt ∧ (gI o23 13).toInt ≤ (gI o_me 13).toInt + 4) from ⟨hIo23, hkpo23, ⟨by omega, by omega⟩⟩)

set_option maxHeartbeats 4000000 in
set_option maxRecDepth 100000 in
theorem s_X9_feed (o_me : Ob) (p0 : Int32) (p1 : Int32) (p2 : Int32) (p3 : Int32) (p4 : Int32) (hI_me : IvX9 o_me)  : wp (f_X9_feed   o_me p0 p1 p2 p3 p4) (fun (y : Int32 × Ob) => ((-1) ≤ y.1.toInt ∧ y.1.toInt ≤ 400) ∧ IvX9 y.2 ∧ Kp [8, 14, 15, 16, 19, 20, 21, 23, 26, 29, 30, 34, 38, 43, 59, 62] [3, 7, 10, 22, 24, 25, 27, 28, 42, 48, 50, 51, 55] [(3, (0 : Int32))] o_me y.2) := by
  have li0 : (-1 : Int32).toInt = (-1) := by decide
  have li1 : (0 : Int32).toInt = 0 := by decide
  have li2 : (20 : Int32).toInt = 20 := by decide
  have li3 : (400 : Int32).toInt = 400 := by decide
  unfold f_X9_feed
  refine wp_lt (fun o1 eo1 => ?_)
  have hIo1 : IvX9 o1 := by rw [eo1]; exact hI_me
  have ko1_v : (gI o1 0).toInt = 0 := by rw [eo1]; exact (show ((0 : Int32)).toInt = _ from by decide)
  have hkpo1 : Kp [8, 14, 15, 16, 19, 20, 21, 23, 26, 29, 30, 34, 38, 43, 59, 62] [3, 7, 10, 22, 24, 25, 27, 28, 42, 48, 50, 51, 55] [(3, (0 : Int32))] o_me o1 := Kp.rf.trans (by rw [eo1]; exact Kp.sI (by decide))
  have t2 := igX9_13 hIo1
  have t3 : ((gI o1 13) + (20 : Int32)).toInt = (gI o1 13).toInt + 20 := i32_add rfl (by decide) (by omega) (by omega)
  refine wp_if (fun c4 => ?_) (fun c4 => ?_)
  · have c4 := cv_le (a := ((gI o1 13) + (20 : Int32)).toInt) (b := 400) rfl (by decide) c4
    refine wp_bd (s_X9_four   o1 p0  hIo1  ⟨by omega, by omega⟩) (fun z5 hz5 => ?_)
    obtain ⟨hz5_0, hz5_1, hz5_2⟩ := hz5
    have hkpz5_me : Kp [8, 14, 15, 16, 19, 20, 21, 23, 26, 29, 30, 34, 38, 43, 59, 62] [3, 7, 10, 22, 24, 25, 27, 28, 42, 48, 50, 51, 55] [(3, (0 : Int32))] o_me z5 := hkpo1.trans (hz5_1.mono (by decide) (by decide) (by decide))
    have t7 := igX9_13 hz5_0
    refine wp_bd (s_X9_four   z5 p1  hz5_0  ⟨by omega, by omega⟩) (fun z6 hz6 => ?_)
    obtain ⟨hz6_0, hz6_1, hz6_2⟩ := hz6
    have hkpz6_me : Kp [8, 14, 15, 16, 19, 20, 21, 23, 26, 29, 30, 34, 38, 43, 59, 62] [3, 7, 10, 22, 24, 25, 27, 28, 42, 48, 50, 51, 55] [(3, (0 : Int32))] o_me z6 := hkpz5_me.trans (hz6_1.mono (by decide) (by decide) (by decide))
    have t9 := igX9_13 hz6_0
    refine wp_bd (s_X9_four   z6 p2  hz6_0  ⟨by omega, by omega⟩) (fun z8 hz8 => ?_)
    obtain ⟨hz8_0, hz8_1, hz8_2⟩ := hz8
    have hkpz8_me : Kp [8, 14, 15, 16, 19, 20, 21, 23, 26, 29, 30, 34, 38, 43, 59, 62] [3, 7, 10, 22, 24, 25, 27, 28, 42, 48, 50, 51, 55] [(3, (0 : Int32))] o_me z8 := hkpz6_me.trans (hz8_1.mono (by decide) (by decide) (by decide))
    have t11 := igX9_13 hz8_0
    refine wp_bd (s_X9_four   z8 p3  hz8_0  ⟨by omega, by omega⟩) (fun z10 hz10 => ?_)
    obtain ⟨hz10_0, hz10_1, hz10_2⟩ := hz10
    have hkpz10_me : Kp [8, 14, 15, 16, 19, 20, 21, 23, 26, 29, 30, 34, 38, 43, 59, 62] [3, 7, 10, 22, 24, 25, 27, 28, 42, 48, 50, 51, 55] [(3, (0 : Int32))] o_me z10 := hkpz8_me.trans (hz10_1.mono (by decide) (by decide) (by decide))
    have t13 := igX9_13 hz10_0
    refine wp_bd (s_X9_four   z10 p4  hz10_0  ⟨by omega, by omega⟩) (fun z12 hz12 => ?_)
    obtain ⟨hz12_0, hz12_1, hz12_2⟩ := hz12
    have hkpz12_me : Kp [8, 14, 15, 16, 19, 20, 21, 23, 26, 29, 30, 34, 38, 43, 59, 62] [3, 7, 10, 22, 24, 25, 27, 28, 42, 48, 50, 51, 55] [(3, (0 : Int32))] o_me z12 := hkpz10_me.trans (hz12_1.mono (by decide) (by decide) (by decide))
    have t14 := igX9_13 hz12_0
    refine wp_some ?_
    exact (show ((-1) ≤ (gI z12 13).toInt ∧ (gI z12 13).toInt ≤ 400) ∧ IvX9 z12 ∧ Kp [8, 14, 15, 16, 19, 20, 21, 23, 26, 29, 30, 34, 38, 43, 59, 62] [3, 7, 10, 22, 24, 25, 27, 28, 42, 48, 50, 51, 55] [(3, (0 : Int32))] o_me z12 from ⟨⟨by omega, by omega⟩, hz12_0, hkpz12_me⟩)
  · have c4 := cv_nle (a := ((gI o1 13) + (20 : Int32)).toInt) (b := 400) rfl (by decide) c4
    refine wp_some ?_
    exact (show ((-1) ≤ (-1 : Int32).toInt ∧ (-1 : Int32).toInt ≤ 400) ∧ IvX9 o1 ∧ Kp [8, 14, 15, 16, 19, 20, 21, 23, 26, 29, 30, 34, 38, 43, 59, 62] [3, 7, 10, 22, 24, 25, 27, 28, 42, 48, 50, 51, 55] [(3, (0 : Int32))] o_me o1 from ⟨⟨by decide, by decide⟩, hIo1, hkpo1⟩)

set_option maxHeartbeats 4000000 in
set_option maxRecDepth 100000 in
theorem s_X9_few (o_me : Ob) (p0 : Int32) (p1 : Int32) (hI_me : IvX9 o_me)  : wp (f_X9_few   o_me p0 p1) (fun (y : Int64 × Ob) => IvX9 y.2 ∧ Kp [8, 13, 14, 15, 16, 19, 20, 21, 23, 26, 29, 30, 34, 38, 43, 59, 62] [3, 7, 10, 12, 22, 24, 25, 27, 28, 42, 48, 50, 51, 55] [(3, (0 : Int32))] o_me y.2) := by
  have li0 : (-1 : Int64).toInt = (-1) := by decide
  have li1 : (0 : Int32).toInt = 0 := by decide
  have li2 : (0 : Int64).toInt = 0 := by decide
  have li3 : (1 : Int32).toInt = 1 := by decide
  have li4 : (1 : Int64).toInt = 1 := by decide
  have li5 : (10 : Int32).toInt = 10 := by decide
  have li6 : (10 : Int64).toInt = 10 := by decide
  have li7 : (1000000000000 : Int64).toInt = 1000000000000 := by decide
  have li8 : (20 : Int64).toInt = 20 := by decide
  have li9 : (21 : Int32).toInt = 21 := by decide
  have li10 : (5 : Int32).toInt = 5 := by decide
  have li11 : (99 : Int64).toInt = 99 := by decide
  unfold f_X9_few
  refine wp_lt (fun o1 eo1 => ?_)
  have hIo1 : IvX9 o1 := by rw [eo1]; exact hI_me
  have ko1_v : (gI o1 0).toInt = 0 := by rw [eo1]; exact (show ((0 : Int32)).toInt = _ from by decide)
  have hkpo1 : Kp [8, 13, 14, 15, 16, 19, 20, 21, 23, 26, 29, 30, 34, 38, 43, 59, 62] [3, 7, 10, 12, 22, 24, 25, 27, 28, 42, 48, 50, 51, 55] [(3, (0 : Int32))] o_me o1 := Kp.rf.trans (by rw [eo1]; exact Kp.sI (by decide))
  have rg2 := i32_rg p0
  have t3 : p0.toInt64.toInt = p0.toInt := Int32.toInt_toInt64 _
  refine wp_bd (s_X9_in   p0.toInt64 (1 : Int64) (20 : Int64)    ) (fun z4 hz4 => ?_)
  obtain ⟨hz4_0, hz4_1⟩ := hz4
  refine wp_if (fun c5 => ?_) (fun c5 => ?_)
  · have c5 := cv_eq (a := z4.toInt) (b := 0) rfl (by decide) c5
    refine wp_some ?_
    exact (show IvX9 o1 ∧ Kp [8, 13, 14, 15, 16, 19, 20, 21, 23, 26, 29, 30, 34, 38, 43, 59, 62] [3, 7, 10, 12, 22, 24, 25, 27, 28, 42, 48, 50, 51, 55] [(3, (0 : Int32))] o_me o1 from ⟨hIo1, hkpo1⟩)
  · have c5z := c5
    have c5i := hz4_1 c5
    have c5 := cv_ne (a := z4.toInt) (b := 0) rfl (by decide) c5
    have rg6 := i32_rg p1
    have t7 : p1.toInt64.toInt = p1.toInt := Int32.toInt_toInt64 _
    refine wp_bd (s_X9_in   p1.toInt64 (0 : Int64) (99 : Int64)    ) (fun z8 hz8 => ?_)
    obtain ⟨hz8_0, hz8_1⟩ := hz8
    refine wp_if (fun c9 => ?_) (fun c9 => ?_)
    · have c9 := cv_eq (a := z8.toInt) (b := 0) rfl (by decide) c9
      refine wp_some ?_
      exact (show IvX9 o1 ∧ Kp [8, 13, 14, 15, 16, 19, 20, 21, 23, 26, 29, 30, 34, 38, 43, 59, 62] [3, 7, 10, 12, 22, 24, 25, 27, 28, 42, 48, 50, 51, 55] [(3, (0 : Int32))] o_me o1 from ⟨hIo1, hkpo1⟩)
    · have c9z := c9
      have c9i := hz8_1 c9
      have c9 := cv_ne (a := z8.toInt) (b := 0) rfl (by decide) c9
      have lp1 : ∀ (N1 : Nat) (v1_1 : Int32) (v2_1 : Int32) (v3_1 : Int32) (o_me_1 : Ob), IvX9 o_me_1 → Kp [8, 13, 14, 15, 16, 19, 20, 21, 23, 26, 29, 30, 34, 38, 43, 59, 62] [3, 7, 10, 12, 22, 24, 25, 27, 28, 42, 48, 50, 51, 55] [(3, (0 : Int32))] o_me o_me_1 → (1 ≤ v1_1.toInt ∧ v1_1.toInt ≤ 20) → (0 ≤ v2_1.toInt ∧ v2_1.toInt ≤ 99) → (0 ≤ v3_1.toInt ∧ v3_1.toInt ≤ 21) → (21 - v3_1.toInt).toNat < N1 → wp (lp_X9_few_35   N1 (v1_1, v2_1, v3_1, o_me_1)) (fun (y : Int64 × Ob) => IvX9 y.2 ∧ Kp [8, 13, 14, 15, 16, 19, 20, 21, 23, 26, 29, 30, 34, 38, 43, 59, 62] [3, 7, 10, 12, 22, 24, 25, 27, 28, 42, 48, 50, 51, 55] [(3, (0 : Int32))] o_me y.2) := by
        intro N1
        induction N1 with
        | zero =>
          intro v1_1 v2_1 v3_1 o_me_1 hI_me_1 hkp_me_1 hh10 hh11 hh12 hN1
          exact absurd hN1 (Nat.not_lt_zero _)
        | succ N1 ihx =>
          have ih1 := ihx
          intro v1_1 v2_1 v3_1 o_me_1 hI_me_1 hkp_me_1 hh10 hh11 hh12 hN1
          show wp (lb_X9_few_35   (lp_X9_few_35   N1) v1_1 v2_1 v3_1 o_me_1) (fun (y : Int64 × Ob) => IvX9 y.2 ∧ Kp [8, 13, 14, 15, 16, 19, 20, 21, 23, 26, 29, 30, 34, 38, 43, 59, 62] [3, 7, 10, 12, 22, 24, 25, 27, 28, 42, 48, 50, 51, 55] [(3, (0 : Int32))] o_me y.2)
          unfold lb_X9_few_35
          refine wp_if (fun c13 => ?_) (fun c13 => ?_)
          · have c13 := cv_ge (a := v3_1.toInt) (b := 21) rfl (by decide) c13
            refine wp_lt (fun x14 ex14 => ?_)
            have tx14 : x14.toInt = (gA o_me_1 3 (5 : Int32).toNatClampNeg).toInt := by rw [ex14]
            have lp2 : ∀ (N2 : Nat) (v1_2 : Int32) (v2_2 : Int32) (v3_2 : Int32) (v4_2 : Int32) (o_me_2 : Ob), IvX9 o_me_2 → Kp [8, 13, 14, 15, 16, 19, 20, 21, 23, 26, 29, 30, 34, 38, 43, 59, 62] [3, 7, 10, 12, 22, 24, 25, 27, 28, 42, 48, 50, 51, 55] [(3, (0 : Int32))] o_me o_me_2 → (1 ≤ v1_2.toInt ∧ v1_2.toInt ≤ 20) → (0 ≤ v2_2.toInt ∧ v2_2.toInt ≤ 99) → (0 ≤ v4_2.toInt ∧ v4_2.toInt ≤ 99) → (v4_2.toInt ≤ v2_2.toInt + 0) → (v1_2.toInt ≤ v1_1.toInt + 0) → (v1_1.toInt ≤ v1_2.toInt + 0) → (v2_2.toInt ≤ v2_1.toInt + 0) → (v2_1.toInt ≤ v2_2.toInt + 0) → (v3_2.toInt ≤ x14.toInt + 0) → (x14.toInt ≤ v3_2.toInt + 0) → (v4_2.toInt ≤ v2_1.toInt + 0) → (99 - v4_2.toInt).toNat < N2 → wp (lp_X9_few_74   N2 (v1_2, v2_2, v3_2, v4_2, o_me_2)) (fun (y : Int64 × Ob) => IvX9 y.2 ∧ Kp [8, 13, 14, 15, 16, 19, 20, 21, 23, 26, 29, 30, 34, 38, 43, 59, 62] [3, 7, 10, 12, 22, 24, 25, 27, 28, 42, 48, 50, 51, 55] [(3, (0 : Int32))] o_me y.2) := by
              intro N2
              induction N2 with
              | zero =>
                intro v1_2 v2_2 v3_2 v4_2 o_me_2 hI_me_2 hkp_me_2 hh15 hh16 hh17 hh18 hh19 hh20 hh21 hh22 hh23 hh24 hh25 hN2
                exact absurd hN2 (Nat.not_lt_zero _)
              | succ N2 ihx =>
                have ih2 := ihx
                intro v1_2 v2_2 v3_2 v4_2 o_me_2 hI_me_2 hkp_me_2 hh15 hh16 hh17 hh18 hh19 hh20 hh21 hh22 hh23 hh24 hh25 hN2
                show wp (lb_X9_few_74   (lp_X9_few_74   N2) v1_2 v2_2 v3_2 v4_2 o_me_2) (fun (y : Int64 × Ob) => IvX9 y.2 ∧ Kp [8, 13, 14, 15, 16, 19, 20, 21, 23, 26, 29, 30, 34, 38, 43, 59, 62] [3, 7, 10, 12, 22, 24, 25, 27, 28, 42, 48, 50, 51, 55] [(3, (0 : Int32))] o_me y.2)
                unfold lb_X9_few_74
                refine wp_if (fun c26 => ?_) (fun c26 => ?_)
                · have c26 := cv_ge (a := v4_2.toInt) (b := v2_2.toInt) rfl rfl c26
                  have lp3 : ∀ (N3 : Nat) (v1_3 : Int32) (v4_3 : Int64) (v6_3 : Int32) (o_me_3 : Ob), IvX9 o_me_3 → Kp [8, 13, 14, 15, 16, 19, 20, 21, 23, 26, 29, 30, 34, 38, 43, 59, 62] [3, 7, 10, 12, 22, 24, 25, 27, 28, 42, 48, 50, 51, 55] [(3, (0 : Int32))] o_me o_me_3 → (1 ≤ v1_3.toInt ∧ v1_3.toInt ≤ 20) → (0 ≤ v6_3.toInt ∧ v6_3.toInt ≤ 20) → (v6_3.toInt ≤ v1_3.toInt + 0) → (v1_3.toInt ≤ v1_1.toInt + 0) → (v1_1.toInt ≤ v1_3.toInt + 0) → (v1_3.toInt ≤ v1_2.toInt + 0) → (v1_2.toInt ≤ v1_3.toInt + 0) → (v6_3.toInt ≤ v1_1.toInt + 0) → (v6_3.toInt ≤ v1_2.toInt + 0) → (20 - v6_3.toInt).toNat < N3 → wp (lp_X9_few_157   N3 (v1_3, v4_3, v6_3, o_me_3)) (fun (y : Int64 × Ob) => IvX9 y.2 ∧ Kp [8, 13, 14, 15, 16, 19, 20, 21, 23, 26, 29, 30, 34, 38, 43, 59, 62] [3, 7, 10, 12, 22, 24, 25, 27, 28, 42, 48, 50, 51, 55] [(3, (0 : Int32))] o_me y.2) := by
                    intro N3
                    induction N3 with
                    | zero =>
                      intro v1_3 v4_3 v6_3 o_me_3 hI_me_3 hkp_me_3 hh27 hh28 hh29 hh30 hh31 hh32 hh33 hh34 hh35 hN3
                      exact absurd hN3 (Nat.not_lt_zero _)
                    | succ N3 ihx =>
                      have ih3 := ihx
                      intro v1_3 v4_3 v6_3 o_me_3 hI_me_3 hkp_me_3 hh27 hh28 hh29 hh30 hh31 hh32 hh33 hh34 hh35 hN3
                      show wp (lb_X9_few_157   (lp_X9_few_157   N3) v1_3 v4_3 v6_3 o_me_3) (fun (y : Int64 × Ob) => IvX9 y.2 ∧ Kp [8, 13, 14, 15, 16, 19, 20, 21, 23, 26, 29, 30, 34, 38, 43, 59, 62] [3, 7, 10, 12, 22, 24, 25, 27, 28, 42, 48, 50, 51, 55] [(3, (0 : Int32))] o_me y.2)
                      unfold lb_X9_few_157
                      refine wp_if (fun c36 => ?_) (fun c36 => ?_)
                      · have c36 := cv_ge (a := v6_3.toInt) (b := v1_3.toInt) rfl rfl c36
                        refine wp_some ?_
                        exact (show IvX9 o_me_3 ∧ Kp [8, 13, 14, 15, 16, 19, 20, 21, 23, 26, 29, 30, 34, 38, 43, 59, 62] [3, 7, 10, 12, 22, 24, 25, 27, 28, 42, 48, 50, 51, 55] [(3, (0 : Int32))] o_me o_me_3 from ⟨hI_me_3, hkp_me_3⟩)
                      · have c36 := cv_nge (a := v6_3.toInt) (b := v1_3.toInt) rfl rfl c36
                        refine wp_gd (zin_of (m := 21) rfl (by omega) (by omega)) ?_
                        refine wp_lt (fun x37 ex37 => ?_)
                        have tx37 : x37.toInt = (v4_3 + (gM o_me_3 53 v6_3.toNatClampNeg)).toInt := by rw [ex37]
                        refine wp_lt (fun x38 ex38 => ?_)
                        have tx38 : x38.toInt = v6_3.toInt + 1 := by rw [ex38]; exact i32_add rfl (by decide) (by omega) (by omega)
                        exact ih3 v1_3 x37 x38 o_me_3 hI_me_3 hkp_me_3 ⟨by omega, by omega⟩ ⟨by omega, by omega⟩ (by omega) (by omega) (by omega) (by omega) (by omega) (by omega) (by omega) (by omega)
                  exact lp3 zfu v1_2 (0 : Int64) (0 : Int32) o_me_2 hI_me_2 hkp_me_2 ⟨by omega, by omega⟩ ⟨by decide, by decide⟩ (by omega) (by omega) (by omega) (by omega) (by omega) (by omega) (by omega) (by show _ < 100000; omega)
                · have c26 := cv_nge (a := v4_2.toInt) (b := v2_2.toInt) rfl rfl c26
                  have t39 : (v1_2 - (1 : Int32)).toInt = v1_2.toInt - 1 := i32_sub rfl (by decide) (by omega) (by omega)
                  refine wp_lt (fun x40 ex40 => ?_)
                  have tx40 : x40.toInt = (v1_2 - (1 : Int32)).toInt := by rw [ex40]
                  have lp4 : ∀ (N4 : Nat) (v1_4 : Int32) (v2_4 : Int32) (v3_4 : Int32) (v4_4 : Int32) (v5_4 : Int32) (o_me_4 : Ob), IvX9 o_me_4 → Kp [8, 13, 14, 15, 16, 19, 20, 21, 23, 26, 29, 30, 34, 38, 43, 59, 62] [3, 7, 10, 12, 22, 24, 25, 27, 28, 42, 48, 50, 51, 55] [(3, (0 : Int32))] o_me o_me_4 → (1 ≤ v1_4.toInt ∧ v1_4.toInt ≤ 20) → (1 ≤ v2_4.toInt ∧ v2_4.toInt ≤ 99) → (0 ≤ v4_4.toInt ∧ v4_4.toInt ≤ 98) → ((-1) ≤ v5_4.toInt ∧ v5_4.toInt ≤ 19) → (v4_4.toInt ≤ v2_4.toInt + (-1)) → (v5_4.toInt ≤ v1_4.toInt + (-1)) → (v1_4.toInt ≤ v1_1.toInt + 0) → (v1_1.toInt ≤ v1_4.toInt + 0) → (v1_4.toInt ≤ x40.toInt + 1) → (x40.toInt ≤ v1_4.toInt + (-1)) → (v1_4.toInt ≤ v1_2.toInt + 0) → (v1_2.toInt ≤ v1_4.toInt + 0) → (v2_4.toInt ≤ v2_2.toInt + 0) → (v2_2.toInt ≤ v2_4.toInt + 0) → (v4_2.toInt ≤ v2_4.toInt + (-1)) → (v2_4.toInt ≤ v2_1.toInt + 0) → (v2_1.toInt ≤ v2_4.toInt + 0) → (v3_4.toInt ≤ x14.toInt + 0) → (x14.toInt ≤ v3_4.toInt + 0) → (v4_4.toInt ≤ v2_2.toInt + (-1)) → (v4_4.toInt ≤ v4_2.toInt + 0) → (v4_2.toInt ≤ v4_4.toInt + 0) → (v4_4.toInt ≤ v2_1.toInt + (-1)) → (v5_4.toInt ≤ v1_1.toInt + (-1)) → (v5_4.toInt ≤ x40.toInt + 0) → (v5_4.toInt ≤ v1_2.toInt + (-1)) → (v5_4.toInt - (-1)).toNat < N4 → wp (lp_X9_few_85  (lp_X9_few_74   N2) N4 (v1_4, v2_4, v3_4, v4_4, v5_4, o_me_4)) (fun (y : Int64 × Ob) => IvX9 y.2 ∧ Kp [8, 13, 14, 15, 16, 19, 20, 21, 23, 26, 29, 30, 34, 38, 43, 59, 62] [3, 7, 10, 12, 22, 24, 25, 27, 28, 42, 48, 50, 51, 55] [(3, (0 : Int32))] o_me y.2) := by
                    intro N4
                    induction N4 with
                    | zero =>
                      intro v1_4 v2_4 v3_4 v4_4 v5_4 o_me_4 hI_me_4 hkp_me_4 hh41 hh42 hh43 hh44 hh45 hh46 hh47 hh48 hh49 hh50 hh51 hh52 hh53 hh54 hh55 hh56 hh57 hh58 hh59 hh60 hh61 hh62 hh63 hh64 hh65 hh66 hN4
                      exact absurd hN4 (Nat.not_lt_zero _)
                    | succ N4 ihx =>
                      have ih4 := ihx
                      intro v1_4 v2_4 v3_4 v4_4 v5_4 o_me_4 hI_me_4 hkp_me_4 hh41 hh42 hh43 hh44 hh45 hh46 hh47 hh48 hh49 hh50 hh51 hh52 hh53 hh54 hh55 hh56 hh57 hh58 hh59 hh60 hh61 hh62 hh63 hh64 hh65 hh66 hN4
                      show wp (lb_X9_few_85  (lp_X9_few_74   N2) (lp_X9_few_85  (lp_X9_few_74   N2) N4) v1_4 v2_4 v3_4 v4_4 v5_4 o_me_4) (fun (y : Int64 × Ob) => IvX9 y.2 ∧ Kp [8, 13, 14, 15, 16, 19, 20, 21, 23, 26, 29, 30, 34, 38, 43, 59, 62] [3, 7, 10, 12, 22, 24, 25, 27, 28, 42, 48, 50, 51, 55] [(3, (0 : Int32))] o_me y.2)
                      unfold lb_X9_few_85
                      refine wp_if (fun c67 => ?_) (fun c67 => ?_)
                      · have c67 := cv_lt (a := v5_4.toInt) (b := 0) rfl (by decide) c67
                        refine wp_lt (fun x68 ex68 => ?_)
                        have tx68 : x68.toInt = v4_4.toInt + 1 := by rw [ex68]; exact i32_add rfl (by decide) (by omega) (by omega)
                        exact ih2 v1_4 v2_4 v3_4 x68 o_me_4 hI_me_4 hkp_me_4 ⟨by omega, by omega⟩ ⟨by omega, by omega⟩ ⟨by omega, by omega⟩ (by omega) (by omega) (by omega) (by omega) (by omega) (by omega) (by omega) (by omega) (by omega)
                      · have c67 := cv_nlt (a := v5_4.toInt) (b := 0) rfl (by decide) c67
                        refine wp_gd (zin_of (m := 21) rfl (by omega) (by omega)) ?_
                        refine wp_lt (fun x69 ex69 => ?_)
                        have tx69 : x69.toInt = (gM o_me_4 53 v5_4.toNatClampNeg).toInt := by rw [ex69]
                        have rg70 := i32_rg ((10 : Int32) - v3_4)
                        have t71 : (((10 : Int32) - v3_4).toInt64).toInt = ((10 : Int32) - v3_4).toInt := Int32.toInt_toInt64 _
                        refine wp_gd (zin_of (m := 21) rfl (by omega) (by omega)) ?_
                        refine wp_lt (fun o72 eo72 => ?_)
                        have hIo72 : IvX9 o72 := by rw [eo72]; exact hI_me_4
                        have hkpo72 : Kp [8, 13, 14, 15, 16, 19, 20, 21, 23, 26, 29, 30, 34, 38, 43, 59, 62] [3, 7, 10, 12, 22, 24, 25, 27, 28, 42, 48, 50, 51, 55] [(3, (0 : Int32))] o_me o72 := hkp_me_4.trans (by rw [eo72]; exact Kp.tM)
                        have t73 : (v5_4 + (1 : Int32)).toInt = v5_4.toInt + 1 := i32_add rfl (by decide) (by omega) (by omega)
                        refine wp_lt (fun x74 ex74 => ?_)
                        have tx74 : x74.toInt = (v5_4 + (1 : Int32)).toInt := by rw [ex74]
                        refine wp_gd (zin_of (m := 21) rfl (by omega) (by omega)) ?_
                        have rg75 := i32_rg v3_4
                        have t76 : v3_4.toInt64.toInt = v3_4.toInt := Int32.toInt_toInt64 _
                        refine wp_gd (zin_of (m := 21) rfl (by omega) (by omega)) ?_
                        refine wp_lt (fun o77 eo77 => ?_)
                        have hIo77 : IvX9 o77 := by rw [eo77]; exact hIo72
                        have hkpo77 : Kp [8, 13, 14, 15, 16, 19, 20, 21, 23, 26, 29, 30, 34, 38, 43, 59, 62] [3, 7, 10, 12, 22, 24, 25, 27, 28, 42, 48, 50, 51, 55] [(3, (0 : Int32))] o_me o77 := hkpo72.trans (by rw [eo77]; exact Kp.tM)
                        refine wp_lt (fun x78 ex78 => ?_)
                        have tx78 : x78.toInt = v5_4.toInt + (-1) := by rw [ex78]; exact i32_add rfl (by decide) (by omega) (by omega)
                        exact ih4 v1_4 v2_4 v3_4 v4_4 x78 o77 hIo77 hkpo77 ⟨by omega, by omega⟩ ⟨by omega, by omega⟩ ⟨by omega, by omega⟩ ⟨by omega, by omega⟩ (by omega) (by omega) (by omega) (by omega) (by omega) (by omega) (by omega) (by omega) (by omega) (by omega) (by omega) (by omega) (by omega) (by omega) (by omega) (by omega) (by omega) (by omega) (by omega) (by omega) (by omega) (by omega) (by omega)
                  exact lp4 zfu v1_2 v2_2 v3_2 v4_2 x40 o_me_2 hI_me_2 hkp_me_2 ⟨by omega, by omega⟩ ⟨by omega, by omega⟩ ⟨by omega, by omega⟩ ⟨by omega, by omega⟩ (by omega) (by omega) (by omega) (by omega) (by omega) (by omega) (by omega) (by omega) (by omega) (by omega) (by omega) (by omega) (by omega) (by omega) (by omega) (by omega) (by omega) (by omega) (by omega) (by omega) (by omega) (by omega) (by show _ < 100000; omega)
            exact lp2 zfu v1_1 v2_1 x14 (0 : Int32) o_me_1 hI_me_1 hkp_me_1 ⟨by omega, by omega⟩ ⟨by omega, by omega⟩ ⟨by decide, by decide⟩ (by omega) (by omega) (by omega) (by omega) (by omega) (by omega) (by omega) (by omega) (by show _ < 100000; omega)
          · have c13 := cv_nge (a := v3_1.toInt) (b := 21) rfl (by decide) c13
            refine wp_if (fun c79 => ?_) (fun c79 => ?_)
            · have c79 := cv_eq (a := v3_1.toInt) (b := 0) rfl (by decide) c79
              obtain ⟨w80, ew80⟩ : ∃ z : Int64, z = (1000000000000 : Int64) := ⟨_, rfl⟩
              have tw80 : w80.toInt = 1000000000000 := by rw [ew80]; decide
              rw [show bk_X9_few_57  (lp_X9_few_35   N1) v1_1 v2_1 v3_1 (1000000000000 : Int64) v3_1 o_me_1 = bk_X9_few_57  (lp_X9_few_35   N1) v1_1 v2_1 v3_1 w80 v3_1 o_me_1 from by rw [ew80]]
              unfold bk_X9_few_57
              refine wp_gd (zin_of (m := 21) rfl (by omega) (by omega)) ?_
              refine wp_lt (fun o81 eo81 => ?_)
              have hIo81 : IvX9 o81 := by rw [eo81]; exact hI_me_1
              have hkpo81 : Kp [8, 13, 14, 15, 16, 19, 20, 21, 23, 26, 29, 30, 34, 38, 43, 59, 62] [3, 7, 10, 12, 22, 24, 25, 27, 28, 42, 48, 50, 51, 55] [(3, (0 : Int32))] o_me o81 := hkp_me_1.trans (by rw [eo81]; exact Kp.tM)
              refine wp_lt (fun x82 ex82 => ?_)
              have tx82 : x82.toInt = v3_1.toInt + 1 := by rw [ex82]; exact i32_add rfl (by decide) (by omega) (by omega)
              exact ih1 v1_1 v2_1 x82 o81 hIo81 hkpo81 ⟨by omega, by omega⟩ ⟨by omega, by omega⟩ ⟨by omega, by omega⟩ (by omega)
            · have c79z := c79
              have c79 := cv_ne (a := v3_1.toInt) (b := 0) rfl (by decide) c79
              obtain ⟨w83, ew83⟩ : ∃ z : Int64, z = (0 : Int64) := ⟨_, rfl⟩
              have tw83 : w83.toInt = 0 := by rw [ew83]; decide
              rw [show bk_X9_few_57  (lp_X9_few_35   N1) v1_1 v2_1 v3_1 (0 : Int64) v3_1 o_me_1 = bk_X9_few_57  (lp_X9_few_35   N1) v1_1 v2_1 v3_1 w83 v3_1 o_me_1 from by rw [ew83]]
              unfold bk_X9_few_57
              refine wp_gd (zin_of (m := 21) rfl (by omega) (by omega)) ?_
              refine wp_lt (fun o84 eo84 => ?_)
              have hIo84 : IvX9 o84 := by rw [eo84]; exact hI_me_1
              have hkpo84 : Kp [8, 13, 14, 15, 16, 19, 20, 21, 23, 26, 29, 30, 34, 38, 43, 59, 62] [3, 7, 10, 12, 22, 24, 25, 27, 28, 42, 48, 50, 51, 55] [(3, (0 : Int32))] o_me o84 := hkp_me_1.trans (by rw [eo84]; exact Kp.tM)
              refine wp_lt (fun x85 ex85 => ?_)
              have tx85 : x85.toInt = v3_1.toInt + 1 := by rw [ex85]; exact i32_add rfl (by decide) (by omega) (by omega)
              exact ih1 v1_1 v2_1 x85 o84 hIo84 hkpo84 ⟨by omega, by omega⟩ ⟨by omega, by omega⟩ ⟨by omega, by omega⟩ (by omega)
      exact lp1 zfu p0 p1 (0 : Int32) o1 hIo1 hkpo1 ⟨by omega, by omega⟩ ⟨by omega, by omega⟩ ⟨by decide, by decide⟩ (by show _ < 100000; omega)

set_option maxHeartbeats 4000000 in
set_option maxRecDepth 100000 in
theorem s_X9_change_v2 (o_me : Ob) (p0 : Int32) (p1 : Int32) (hI_me : IvX9 o_me) (q0 : 3 ≤ p0.toInt ∧ p0.toInt ≤ 3) (q1 : (-1) ≤ p1.toInt ∧ p1.toInt ≤ 5) : wp (f_X9_change   o_me p0 p1) (fun (y : Int32 × Ob) => ((-1) ≤ y.1.toInt ∧ y.1.toInt ≤ 5) ∧ IvX9 y.2 ∧ Kp [8, 13, 14, 15, 16, 19, 20, 21, 23, 26, 29, 30, 34, 38, 43, 59, 62] [7, 10, 12, 22, 24, 25, 27, 28, 42, 48, 50, 51, 55] [(3, (0 : Int32))] o_me y.2) := by
  have li0 : (0 : Int32).toInt = 0 := by decide
  unfold f_X9_change
  refine wp_gd (zin_of (m := 5484) rfl (by omega) (by omega)) ?_
  have t1 := iaX9_3_3 hI_me (j := p0) (by omega) (by omega)
  refine wp_lt (fun x2 ex2 => ?_)
  have tx2 : x2.toInt = (gA o_me 3 p0.toNatClampNeg).toInt := by rw [ex2]
  refine wp_gd (zin_of (m := 5484) rfl (by omega) (by omega)) ?_
  refine wp_lt (fun o3 eo3 => ?_)
  have hIo3 : IvX9 o3 := by rw [eo3]; exact ibX9_3 hI_me (by omega) (by omega) (Or.inr (Or.inl (by first | omega | decide))) (Or.inr (Or.inl (by first | omega | decide))) (Or.inr (Or.inl (by first | omega | decide))) (Or.inr (Or.inr ⟨by omega, by omega⟩)) (Or.inl (by first | omega | decide)) (Or.inl (by first | omega | decide)) (Or.inl (by first | omega | decide)) (Or.inl (by first | omega | decide)) (Or.inl (by first | omega | decide))
  have ko3_v : (gA o3 3 p0.toNatClampNeg).toInt = p1.toInt := by rw [eo3]; exact congrArg Int32.toInt (upd_eq (g := gA o_me 3) (i := p0) (v := p1))
  have hkpo3 : Kp [8, 13, 14, 15, 16, 19, 20, 21, 23, 26, 29, 30, 34, 38, 43, 59, 62] [7, 10, 12, 22, 24, 25, 27, 28, 42, 48, 50, 51, 55] [(3, (0 : Int32))] o_me o3 := Kp.rf.trans (by rw [eo3]; exact kp_tA0 (by decide) (by omega))
  refine wp_lt (fun o4 eo4 => ?_)
  have hIo4 : IvX9 o4 := by rw [eo4]; exact hIo3
  have ko4_k5 : (gA o4 3 p0.toNatClampNeg).toInt = (gA o3 3 p0.toNatClampNeg).toInt := by rw [eo4]; rfl
  have ko4_v : (gI o4 1).toInt = 0 := by rw [eo4]; exact (show ((0 : Int32)).toInt = _ from by decide)
  have hkpo4 : Kp [8, 13, 14, 15, 16, 19, 20, 21, 23, 26, 29, 30, 34, 38, 43, 59, 62] [7, 10, 12, 22, 24, 25, 27, 28, 42, 48, 50, 51, 55] [(3, (0 : Int32))] o_me o4 := hkpo3.trans (by rw [eo4]; exact Kp.sI (by decide))
  refine wp_some ?_
  exact (show ((-1) ≤ x2.toInt ∧ x2.toInt ≤ 5) ∧ IvX9 o4 ∧ Kp [8, 13, 14, 15, 16, 19, 20, 21, 23, 26, 29, 30, 34, 38, 43, 59, 62] [7, 10, 12, 22, 24, 25, 27, 28, 42, 48, 50, 51, 55] [(3, (0 : Int32))] o_me o4 from ⟨⟨by omega, by omega⟩, hIo4, hkpo4⟩)

set_option maxHeartbeats 4000000 in
set_option maxRecDepth 100000 in
theorem s_X9_force (o_me : Ob) (p0 : Int32) (hI_me : IvX9 o_me)  : wp (f_X9_force   o_me p0) (fun (y : Int32 × Ob) => ((-6) ≤ y.1.toInt ∧ y.1.toInt ≤ 2147483647) ∧ IvX9 y.2 ∧ Kp [8, 13, 14, 15, 16, 19, 20, 21, 23, 26, 29, 30, 34, 38, 43, 59, 62] [7, 10, 12, 22, 24, 25, 27, 28, 42, 48, 50, 51, 55] [(3, (0 : Int32))] o_me y.2) := by
  have li0 : (-2 : Int32).toInt = (-2) := by decide
  have li1 : (0 : Int32).toInt = 0 := by decide
  have li2 : (3 : Int32).toInt = 3 := by decide
  unfold f_X9_force
  refine wp_lt (fun o1 eo1 => ?_)
  have hIo1 : IvX9 o1 := by rw [eo1]; exact hI_me
  have ko1_v : (gI o1 0).toInt = 0 := by rw [eo1]; exact (show ((0 : Int32)).toInt = _ from by decide)
  have hkpo1 : Kp [8, 13, 14, 15, 16, 19, 20, 21, 23, 26, 29, 30, 34, 38, 43, 59, 62] [7, 10, 12, 22, 24, 25, 27, 28, 42, 48, 50, 51, 55] [(3, (0 : Int32))] o_me o1 := Kp.rf.trans (by rw [eo1]; exact Kp.sI (by decide))
  refine wp_bd (s_X9_isLaw   o1 p0  hIo1  ) (fun z2 hz2 => ?_)
  obtain ⟨hz2_0, hz2_1⟩ := hz2
  refine wp_if (fun c3 => ?_) (fun c3 => ?_)
  · have c3 := cv_eq (a := z2.toInt) (b := 0) rfl (by decide) c3
    refine wp_bd (s_X9_tell   o1 (-2 : Int32)  hIo1  ⟨by decide, by decide⟩) (fun z4 hz4 => ?_)
    obtain ⟨hz4_0, hz4_1, hz4_2⟩ := hz4
    have hkpz4_me : Kp [8, 13, 14, 15, 16, 19, 20, 21, 23, 26, 29, 30, 34, 38, 43, 59, 62] [7, 10, 12, 22, 24, 25, 27, 28, 42, 48, 50, 51, 55] [(3, (0 : Int32))] o_me z4.2 := hkpo1.trans (hz4_2.mono (by decide) (by decide) (by decide))
    refine wp_some ?_
    have rg5 := i32_rg z4.1
    exact (show ((-6) ≤ z4.1.toInt ∧ z4.1.toInt ≤ 2147483647) ∧ IvX9 z4.2 ∧ Kp [8, 13, 14, 15, 16, 19, 20, 21, 23, 26, 29, 30, 34, 38, 43, 59, 62] [7, 10, 12, 22, 24, 25, 27, 28, 42, 48, 50, 51, 55] [(3, (0 : Int32))] o_me z4.2 from ⟨⟨by omega, by omega⟩, hz4_1, hkpz4_me⟩)
  · have c3z := c3
    have c3i := hz2_1 c3
    have c3 := cv_ne (a := z2.toInt) (b := 0) rfl (by decide) c3
    refine wp_bd (s_X9_change_v2   o1 (3 : Int32) p0  hIo1  ⟨by decide, by decide⟩ ⟨by omega, by omega⟩) (fun z6 hz6 => ?_)
    obtain ⟨hz6_0, hz6_1, hz6_2⟩ := hz6
    have hkpz6_me : Kp [8, 13, 14, 15, 16, 19, 20, 21, 23, 26, 29, 30, 34, 38, 43, 59, 62] [7, 10, 12, 22, 24, 25, 27, 28, 42, 48, 50, 51, 55] [(3, (0 : Int32))] o_me z6.2 := hkpo1.trans (hz6_2.mono (by decide) (by decide) (by decide))
    refine wp_some ?_
    have rg7 := i32_rg z6.1
    exact (show ((-6) ≤ z6.1.toInt ∧ z6.1.toInt ≤ 2147483647) ∧ IvX9 z6.2 ∧ Kp [8, 13, 14, 15, 16, 19, 20, 21, 23, 26, 29, 30, 34, 38, 43, 59, 62] [7, 10, 12, 22, 24, 25, 27, 28, 42, 48, 50, 51, 55] [(3, (0 : Int32))] o_me z6.2 from ⟨⟨by omega, by omega⟩, hz6_1, hkpz6_me⟩)

set_option maxHeartbeats 4000000 in
set_option maxRecDepth 100000 in
theorem s_X9_forget (o_me : Ob) (hI_me : IvX9 o_me)  : wp (f_X9_forget   o_me) (fun (y : Int32 × Ob) => (0 ≤ y.1.toInt ∧ y.1.toInt ≤ 6) ∧ IvX9 y.2 ∧ Kp [8, 13, 14, 15, 16, 19, 20, 21, 23, 26, 29, 30, 34, 38, 43, 59, 62] [7, 10, 12, 22, 24, 25, 27, 28, 42, 48, 50, 51, 55] [(3, (0 : Int32))] o_me y.2) := by
  have li0 : (0 : Int32).toInt = 0 := by decide
  have li1 : (1 : Int32).toInt = 1 := by decide
  unfold f_X9_forget
  refine wp_lt (fun o1 eo1 => ?_)
  have hIo1 : IvX9 o1 := by rw [eo1]; exact hI_me
  have ko1_v : (gI o1 0).toInt = 0 := by rw [eo1]; exact (show ((0 : Int32)).toInt = _ from by decide)
  have hkpo1 : Kp [8, 13, 14, 15, 16, 19, 20, 21, 23, 26, 29, 30, 34, 38, 43, 59, 62] [7, 10, 12, 22, 24, 25, 27, 28, 42, 48, 50, 51, 55] [(3, (0 : Int32))] o_me o1 := Kp.rf.trans (by rw [eo1]; exact Kp.sI (by decide))
  have t2 := iaX9_3_1 hIo1 (j := (1 : Int32)) (by decide) (by decide)
  refine wp_lt (fun x3 ex3 => ?_)
  have tx3 : x3.toInt = (gA o1 3 (1 : Int32).toNatClampNeg).toInt := by rw [ex3]
  refine wp_lt (fun o4 eo4 => ?_)
  have hIo4 : IvX9 o4 := by rw [eo4]; exact ibX9_3 hIo1 (by decide) (by decide) (Or.inr (Or.inl (by first | omega | decide))) (Or.inr (Or.inr ⟨by decide, by decide⟩)) (Or.inl (by first | omega | decide)) (Or.inl (by first | omega | decide)) (Or.inl (by first | omega | decide)) (Or.inl (by first | omega | decide)) (Or.inl (by first | omega | decide)) (Or.inl (by first | omega | decide)) (Or.inl (by first | omega | decide))
  have ko4_k5 : (gI o4 0).toInt = (gI o1 0).toInt := by rw [eo4]; rfl
  have ko4_v : (gA o4 3 (1 : Int32).toNatClampNeg).toInt = 0 := by rw [eo4]; exact (congrArg Int32.toInt (upd_eq (g := gA o1 3) (i := (1 : Int32)) (v := (0 : Int32)))).trans (show ((0 : Int32)).toInt = 0 by decide)
  have hkpo4 : Kp [8, 13, 14, 15, 16, 19, 20, 21, 23, 26, 29, 30, 34, 38, 43, 59, 62] [7, 10, 12, 22, 24, 25, 27, 28, 42, 48, 50, 51, 55] [(3, (0 : Int32))] o_me o4 := hkpo1.trans (by rw [eo4]; exact kp_tA0 (by decide) (by decide))
  refine wp_some ?_
  exact (show (0 ≤ x3.toInt ∧ x3.toInt ≤ 6) ∧ IvX9 o4 ∧ Kp [8, 13, 14, 15, 16, 19, 20, 21, 23, 26, 29, 30, 34, 38, 43, 59, 62] [7, 10, 12, 22, 24, 25, 27, 28, 42, 48, 50, 51, 55] [(3, (0 : Int32))] o_me o4 from ⟨⟨by omega, by omega⟩, hIo4, hkpo4⟩)

set_option maxHeartbeats 4000000 in
set_option maxRecDepth 100000 in
theorem s_X9_giveBack (o_me : Ob) (p0 : Int32) (hI_me : IvX9 o_me) (q0 : 0 ≤ p0.toInt ∧ p0.toInt ≤ 16) : wp (f_X9_giveBack   o_me p0) (fun (y : Ob) => IvX9 y ∧ Kp [13, 14, 15, 16, 19, 20, 21, 23, 26, 29, 30, 34, 38, 43, 59, 62] [10, 12, 22, 24, 25, 27, 28, 42, 48, 50, 51, 55] [(3, (0 : Int32))] o_me y) := by
  have li0 : (0 : Int32).toInt = 0 := by decide
  have li1 : (16 : Int32).toInt = 16 := by decide
  have li2 : (17 : Int32).toInt = 17 := by decide
  have li3 : (400 : Int32).toInt = 400 := by decide
  unfold f_X9_giveBack
  refine wp_bd (s_X9_putBack   o_me (17 : Int32)  hI_me  ⟨by decide, by decide⟩) (fun z1 hz1 => ?_)
  obtain ⟨hz1_0, hz1_1⟩ := hz1
  have hkpz1_me : Kp [13, 14, 15, 16, 19, 20, 21, 23, 26, 29, 30, 34, 38, 43, 59, 62] [10, 12, 22, 24, 25, 27, 28, 42, 48, 50, 51, 55] [(3, (0 : Int32))] o_me z1 := Kp.rf.trans (hz1_1.mono (by decide) (by decide) (by decide))
  have lp1 : ∀ (N1 : Nat) (v1_1 : Int32) (v2_1 : Int32) (o_me_1 : Ob), IvX9 o_me_1 → Kp [13, 14, 15, 16, 19, 20, 21, 23, 26, 29, 30, 34, 38, 43, 59, 62] [10, 12, 22, 24, 25, 27, 28, 42, 48, 50, 51, 55] [(3, (0 : Int32))] o_me o_me_1 → (0 ≤ v1_1.toInt ∧ v1_1.toInt ≤ 16) → (0 ≤ v2_1.toInt ∧ v2_1.toInt ≤ 400) → (v1_1.toInt ≤ p0.toInt + 0) → (p0.toInt ≤ v1_1.toInt + 0) → (400 - v2_1.toInt).toNat < N1 → wp (lp_X9_giveBack_8   N1 (v1_1, v2_1, o_me_1)) (fun (y : Ob) => IvX9 y ∧ Kp [13, 14, 15, 16, 19, 20, 21, 23, 26, 29, 30, 34, 38, 43, 59, 62] [10, 12, 22, 24, 25, 27, 28, 42, 48, 50, 51, 55] [(3, (0 : Int32))] o_me y) := by
    intro N1
    induction N1 with
    | zero =>
      intro v1_1 v2_1 o_me_1 hI_me_1 hkp_me_1 hh2 hh3 hh4 hh5 hN1
      exact absurd hN1 (Nat.not_lt_zero _)
    | succ N1 ihx =>
      have ih1 := ihx
      intro v1_1 v2_1 o_me_1 hI_me_1 hkp_me_1 hh2 hh3 hh4 hh5 hN1
      show wp (lb_X9_giveBack_8   (lp_X9_giveBack_8   N1) v1_1 v2_1 o_me_1) (fun (y : Ob) => IvX9 y ∧ Kp [13, 14, 15, 16, 19, 20, 21, 23, 26, 29, 30, 34, 38, 43, 59, 62] [10, 12, 22, 24, 25, 27, 28, 42, 48, 50, 51, 55] [(3, (0 : Int32))] o_me y)
      unfold lb_X9_giveBack_8
      refine wp_if (fun c6 => ?_) (fun c6 => ?_)
      · have c6 := cv_ge (a := v2_1.toInt) (b := 400) rfl (by decide) c6
        have lp2 : ∀ (N2 : Nat) (v1_2 : Int32) (v2_2 : Int32) (o_me_2 : Ob), IvX9 o_me_2 → Kp [13, 14, 15, 16, 19, 20, 21, 23, 26, 29, 30, 34, 38, 43, 59, 62] [10, 12, 22, 24, 25, 27, 28, 42, 48, 50, 51, 55] [(3, (0 : Int32))] o_me o_me_2 → (0 ≤ v1_2.toInt ∧ v1_2.toInt ≤ 16) → (0 ≤ v2_2.toInt ∧ v2_2.toInt ≤ 16) → (v1_2.toInt ≤ p0.toInt + 0) → (p0.toInt ≤ v1_2.toInt + 0) → (v1_2.toInt ≤ v1_1.toInt + 0) → (v1_1.toInt ≤ v1_2.toInt + 0) → (16 - v2_2.toInt).toNat < N2 → wp (lp_X9_giveBack_35   N2 (v1_2, v2_2, o_me_2)) (fun (y : Ob) => IvX9 y ∧ Kp [13, 14, 15, 16, 19, 20, 21, 23, 26, 29, 30, 34, 38, 43, 59, 62] [10, 12, 22, 24, 25, 27, 28, 42, 48, 50, 51, 55] [(3, (0 : Int32))] o_me y) := by
          intro N2
          induction N2 with
          | zero =>
            intro v1_2 v2_2 o_me_2 hI_me_2 hkp_me_2 hh7 hh8 hh9 hh10 hh11 hh12 hN2
            exact absurd hN2 (Nat.not_lt_zero _)
          | succ N2 ihx =>
            have ih2 := ihx
            intro v1_2 v2_2 o_me_2 hI_me_2 hkp_me_2 hh7 hh8 hh9 hh10 hh11 hh12 hN2
            show wp (lb_X9_giveBack_35   (lp_X9_giveBack_35   N2) v1_2 v2_2 o_me_2) (fun (y : Ob) => IvX9 y ∧ Kp [13, 14, 15, 16, 19, 20, 21, 23, 26, 29, 30, 34, 38, 43, 59, 62] [10, 12, 22, 24, 25, 27, 28, 42, 48, 50, 51, 55] [(3, (0 : Int32))] o_me y)
            unfold lb_X9_giveBack_35
            refine wp_if (fun c13 => ?_) (fun c13 => ?_)
            · have c13 := cv_ge (a := v2_2.toInt) (b := 16) rfl (by decide) c13
              refine wp_lt (fun o14 eo14 => ?_)
              have hIo14 : IvX9 o14 := by rw [eo14]; exact ipX9_8 hI_me_2 ⟨by omega, by omega⟩
              have ko14_v : (gI o14 8).toInt = v1_2.toInt := by rw [eo14]; rfl
              have hkpo14 : Kp [13, 14, 15, 16, 19, 20, 21, 23, 26, 29, 30, 34, 38, 43, 59, 62] [10, 12, 22, 24, 25, 27, 28, 42, 48, 50, 51, 55] [(3, (0 : Int32))] o_me o14 := hkp_me_2.trans (by rw [eo14]; exact Kp.sI (by decide))
              refine wp_some ?_
              exact (show IvX9 o14 ∧ Kp [13, 14, 15, 16, 19, 20, 21, 23, 26, 29, 30, 34, 38, 43, 59, 62] [10, 12, 22, 24, 25, 27, 28, 42, 48, 50, 51, 55] [(3, (0 : Int32))] o_me o14 from ⟨hIo14, hkpo14⟩)
            · have c13 := cv_nge (a := v2_2.toInt) (b := 16) rfl (by decide) c13
              refine wp_gd (zin_of (m := 16) rfl (by omega) (by omega)) ?_
              have t15 := iaX9_10_0 hI_me_2 (j := v2_2) (by omega) (by omega)
              refine wp_gd (zin_of (m := 16) rfl (by omega) (by omega)) ?_
              refine wp_lt (fun o16 eo16 => ?_)
              have hIo16 : IvX9 o16 := by rw [eo16]; exact ibX9_7 hI_me_2 (by omega) (Or.inr (Or.inr ⟨by omega, by omega⟩))
              have ko16_k17 : (gA o16 10 v2_2.toNatClampNeg).toInt = (gA o_me_2 10 v2_2.toNatClampNeg).toInt := by rw [eo16]; rfl
              have ko16_v : (gA o16 7 v2_2.toNatClampNeg).toInt = (gA o_me_2 10 v2_2.toNatClampNeg).toInt := by rw [eo16]; exact congrArg Int32.toInt (upd_eq (g := gA o_me_2 7) (i := v2_2) (v := (gA o_me_2 10 v2_2.toNatClampNeg)))
              have hkpo16 : Kp [13, 14, 15, 16, 19, 20, 21, 23, 26, 29, 30, 34, 38, 43, 59, 62] [10, 12, 22, 24, 25, 27, 28, 42, 48, 50, 51, 55] [(3, (0 : Int32))] o_me o16 := hkp_me_2.trans (by rw [eo16]; exact Kp.tA (by decide) (by decide))
              refine wp_lt (fun x18 ex18 => ?_)
              have tx18 : x18.toInt = v2_2.toInt + 1 := by rw [ex18]; exact i32_add rfl (by decide) (by omega) (by omega)
              exact ih2 v1_2 x18 o16 hIo16 hkpo16 ⟨by omega, by omega⟩ ⟨by omega, by omega⟩ (by omega) (by omega) (by omega) (by omega) (by omega)
        exact lp2 zfu v1_1 (0 : Int32) o_me_1 hI_me_1 hkp_me_1 ⟨by omega, by omega⟩ ⟨by decide, by decide⟩ (by omega) (by omega) (by omega) (by omega) (by show _ < 100000; omega)
      · have c6 := cv_nge (a := v2_1.toInt) (b := 400) rfl (by decide) c6
        refine wp_gd (zin_of (m := 400) rfl (by omega) (by omega)) ?_
        refine wp_gd (zin_of (m := 450) rfl (by omega) (by omega)) ?_
        refine wp_lt (fun o19 eo19 => ?_)
        have hIo19 : IvX9 o19 := by rw [eo19]; exact spX9_give hI_me_1 ⟨by omega, by omega⟩
        have ko19_v : (gA o19 6 v2_1.toNatClampNeg).toInt = (gA o_me_1 9 v2_1.toNatClampNeg).toInt := by rw [eo19]; exact congrArg Int32.toInt (upd_eq (g := gA o_me_1 6) (i := v2_1) (v := (gA o_me_1 9 v2_1.toNatClampNeg)))
        have hkpo19 : Kp [13, 14, 15, 16, 19, 20, 21, 23, 26, 29, 30, 34, 38, 43, 59, 62] [10, 12, 22, 24, 25, 27, 28, 42, 48, 50, 51, 55] [(3, (0 : Int32))] o_me o19 := hkp_me_1.trans (by rw [eo19]; exact Kp.tA (by decide) (by decide))
        refine wp_lt (fun x20 ex20 => ?_)
        have tx20 : x20.toInt = v2_1.toInt + 1 := by rw [ex20]; exact i32_add rfl (by decide) (by omega) (by omega)
        exact ih1 v1_1 x20 o19 hIo19 hkpo19 ⟨by omega, by omega⟩ ⟨by omega, by omega⟩ (by omega) (by omega) (by omega)
  exact lp1 zfu p0 (0 : Int32) z1 hz1_0 hkpz1_me ⟨by omega, by omega⟩ ⟨by decide, by decide⟩ (by omega) (by omega) (by show _ < 100000; omega)

set_option maxHeartbeats 4000000 in
set_option maxRecDepth 100000 in
theorem s_X9_layLine (o_me : Ob) (hI_me : IvX9 o_me)  : wp (f_X9_layLine   o_me) (fun (y : Int32 × Ob) => (0 ≤ y.1.toInt ∧ y.1.toInt ≤ 7) ∧ IvX9 y.2 ∧ Kp [8, 13, 14, 15, 16, 19, 20, 21, 23, 26, 29, 30, 34, 38, 43, 59, 62] [3, 7, 10, 12, 22, 24, 25, 27, 28, 42, 48, 55] [(3, (0 : Int32))] o_me y.2) := by
  sorry

set_option maxHeartbeats 4000000 in
set_option maxRecDepth 100000 in
theorem s_X9_heir (o_me : Ob) (p0 : Int32) (hI_me : IvX9 o_me)  : wp (f_X9_heir   o_me p0) (fun (y : Int32 × Ob) => ((-1) ≤ y.1.toInt ∧ y.1.toInt ≤ 7) ∧ IvX9 y.2 ∧ Kp [8, 13, 14, 15, 16, 19, 20, 21, 23, 26, 29, 30, 34, 38, 43, 59, 62] [3, 7, 10, 12, 22, 24, 25, 27, 28, 42, 48, 55] [(3, (0 : Int32))] o_me y.2) := by
  have li0 : (-1 : Int32).toInt = (-1) := by decide
  have li1 : (0 : Int32).toInt = 0 := by decide
  have li2 : (0 : Int64).toInt = 0 := by decide
  have li3 : (1 : Int64).toInt = 1 := by decide
  unfold f_X9_heir
  refine wp_lt (fun o1 eo1 => ?_)
  have hIo1 : IvX9 o1 := by rw [eo1]; exact hI_me
  have ko1_v : (gI o1 0).toInt = 0 := by rw [eo1]; exact (show ((0 : Int32)).toInt = _ from by decide)
  have hkpo1 : Kp [8, 13, 14, 15, 16, 19, 20, 21, 23, 26, 29, 30, 34, 38, 43, 59, 62] [3, 7, 10, 12, 22, 24, 25, 27, 28, 42, 48, 55] [(3, (0 : Int32))] o_me o1 := Kp.rf.trans (by rw [eo1]; exact Kp.sI (by decide))
  refine wp_bd (s_X9_layLine   o1  hIo1  ) (fun z2 hz2 => ?_)
  obtain ⟨hz2_0, hz2_1, hz2_2⟩ := hz2
  have hkpz2_me : Kp [8, 13, 14, 15, 16, 19, 20, 21, 23, 26, 29, 30, 34, 38, 43, 59, 62] [3, 7, 10, 12, 22, 24, 25, 27, 28, 42, 48, 55] [(3, (0 : Int32))] o_me z2.2 := hkpo1.trans (hz2_2.mono (by decide) (by decide) (by decide))
  refine wp_if (fun c3 => ?_) (fun c3 => ?_)
  · have c3 := cv_eq (a := p0.toInt) (b := (-1)) rfl (by decide) c3
    refine wp_some ?_
    exact (show ((-1) ≤ z2.1.toInt ∧ z2.1.toInt ≤ 7) ∧ IvX9 z2.2 ∧ Kp [8, 13, 14, 15, 16, 19, 20, 21, 23, 26, 29, 30, 34, 38, 43, 59, 62] [3, 7, 10, 12, 22, 24, 25, 27, 28, 42, 48, 55] [(3, (0 : Int32))] o_me z2.2 from ⟨⟨by omega, by omega⟩, hz2_1, hkpz2_me⟩)
  · have c3 := cv_ne (a := p0.toInt) (b := (-1)) rfl (by decide) c3
    have rg4 := i32_rg p0
    have t5 : p0.toInt64.toInt = p0.toInt := Int32.toInt_toInt64 _
    have t6 : z2.1.toInt64.toInt = z2.1.toInt := Int32.toInt_toInt64 _
    have t7 : (z2.1.toInt64 - (1 : Int64)).toInt = z2.1.toInt64.toInt - 1 := i64_sub rfl (by decide) (by omega) (by omega)
    refine wp_bd (s_X9_in   p0.toInt64 (0 : Int64) (z2.1.toInt64 - (1 : Int64))    ) (fun z8 hz8 => ?_)
    obtain ⟨hz8_0, hz8_1⟩ := hz8
    refine wp_if (fun c9 => ?_) (fun c9 => ?_)
    · have c9 := cv_eq (a := z8.toInt) (b := 0) rfl (by decide) c9
      refine wp_some ?_
      exact (show ((-1) ≤ (-1 : Int32).toInt ∧ (-1 : Int32).toInt ≤ 7) ∧ IvX9 z2.2 ∧ Kp [8, 13, 14, 15, 16, 19, 20, 21, 23, 26, 29, 30, 34, 38, 43, 59, 62] [3, 7, 10, 12, 22, 24, 25, 27, 28, 42, 48, 55] [(3, (0 : Int32))] o_me z2.2 from ⟨⟨by decide, by decide⟩, hz2_1, hkpz2_me⟩)
    · have c9z := c9
      have c9i := hz8_1 c9
      have c9 := cv_ne (a := z8.toInt) (b := 0) rfl (by decide) c9
      refine wp_gd (zin_of (m := 7) rfl (by omega) (by omega)) ?_
      have t10 := iaX9_51_0 hz2_1 (j := p0) (by omega) (by omega)
      refine wp_some ?_
      exact (show ((-1) ≤ (gA z2.2 51 p0.toNatClampNeg).toInt ∧ (gA z2.2 51 p0.toNatClampNeg).toInt ≤ 7) ∧ IvX9 z2.2 ∧ Kp [8, 13, 14, 15, 16, 19, 20, 21, 23, 26, 29, 30, 34, 38, 43, 59, 62] [3, 7, 10, 12, 22, 24, 25, 27, 28, 42, 48, 55] [(3, (0 : Int32))] o_me z2.2 from ⟨⟨by omega, by omega⟩, hz2_1, hkpz2_me⟩)

