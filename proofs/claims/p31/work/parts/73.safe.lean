set_option maxHeartbeats 4000000 in
set_option maxRecDepth 100000 in
theorem s_X9_endText (o_me : Ob) (hI_me : IvX9 o_me) (r0 : (gI o_me 15).toInt ≤ (gI o_me 13).toInt + 0) : wp (f_X9_endText  o_me) (fun (y : Ob) => IvX9 y ∧ Kp [8, 21, 23, 26, 29, 30, 38, 43, 59, 62] [3, 12, 42, 48, 50, 51] o_me y) := by
  have li0 : (0 : Int32).toInt = 0 := by decide
  unfold f_X9_endText
  have t1 := igX9_19 hI_me
  refine wp_if (fun c2 => ?_) (fun c2 => ?_)
  · have c2 := cv_eq (a := (gI o_me 19).toInt) (b := 0) rfl (by decide) c2
    have t3 := igX9_16 hI_me
    refine wp_if (fun c4 => ?_) (fun c4 => ?_)
    · have c4 := cv_eq (a := (gI o_me 16).toInt) (b := 0) rfl (by decide) c4
      unfold bk_X9_endText_19
      refine wp_lt (fun o5 eo5 => ?_)
      have hIo5 : IvX9 o5 := by rw [eo5]; exact ipX9_20 hI_me ⟨by decide, by decide⟩
      have ko5_k6 : (gI o5 13).toInt = (gI o_me 13).toInt := by rw [eo5]; rfl
      have ko5_k7 : (gI o5 15).toInt = (gI o_me 15).toInt := by rw [eo5]; rfl
      have ko5_k8 : (gI o5 16).toInt = (gI o_me 16).toInt := by rw [eo5]; rfl
      have ko5_k9 : (gI o5 19).toInt = (gI o_me 19).toInt := by rw [eo5]; rfl
      have ko5_v : (gI o5 20).toInt = 0 := by rw [eo5]; exact (show ((0 : Int32)).toInt = _ from by decide)
      have hkpo5 : Kp [8, 21, 23, 26, 29, 30, 38, 43, 59, 62] [3, 12, 42, 48, 50, 51] o_me o5 := Kp.rf.trans (by rw [eo5]; exact Kp.sI (by decide))
      refine wp_lt (fun o10 eo10 => ?_)
      have hIo10 : IvX9 o10 := by rw [eo10]; exact ipX9_13 hIo5 ⟨by decide, by decide⟩
      have ko10_k11 : (gI o10 15).toInt = (gI o5 15).toInt := by rw [eo10]; rfl
      have ko10_k12 : (gI o10 16).toInt = (gI o5 16).toInt := by rw [eo10]; rfl
      have ko10_k13 : (gI o10 19).toInt = (gI o5 19).toInt := by rw [eo10]; rfl
      have ko10_k14 : (gI o10 20).toInt = (gI o5 20).toInt := by rw [eo10]; rfl
      have ko10_v : (gI o10 13).toInt = 0 := by rw [eo10]; exact (show ((0 : Int32)).toInt = _ from by decide)
      have hkpo10 : Kp [8, 21, 23, 26, 29, 30, 38, 43, 59, 62] [3, 12, 42, 48, 50, 51] o_me o10 := hkpo5.trans (by rw [eo10]; exact Kp.sI (by decide))
      refine wp_some ?_
      exact (show IvX9 o10 ∧ Kp [8, 21, 23, 26, 29, 30, 38, 43, 59, 62] [3, 12, 42, 48, 50, 51] o_me o10 from ⟨hIo10, hkpo10⟩)
    · have c4z := c4
      have c4 := cv_ne (a := (gI o_me 16).toInt) (b := 0) rfl (by decide) c4
      have t16 := igX9_15 hI_me
      have t17 := igX9_13 hI_me
      refine wp_bd (s_X9_must o_me (0 : Int32) hI_me ⟨by decide, by decide⟩ (by omega)) (fun z15 hz15 => ?_)
      obtain ⟨hz15_0, hz15_1, hz15_2⟩ := hz15
      have hkpz15_me : Kp [8, 21, 23, 26, 29, 30, 38, 43, 59, 62] [3, 12, 42, 48, 50, 51] o_me z15 := Kp.rf.trans (hz15_1.mono (by decide) (by decide))
      have kz15_k18 : (gI z15 13).toInt = (gI o_me 13).toInt := congrArg Int32.toInt (hz15_1.1 13 (by decide))
      unfold bk_X9_endText_19
      refine wp_lt (fun o19 eo19 => ?_)
      have hIo19 : IvX9 o19 := by rw [eo19]; exact ipX9_20 hz15_0 ⟨by decide, by decide⟩
      have ko19_k20 : (gI o19 13).toInt = (gI z15 13).toInt := by rw [eo19]; rfl
      have ko19_k21 : (gI o19 15).toInt = (gI z15 15).toInt := by rw [eo19]; rfl
      have ko19_v : (gI o19 20).toInt = 0 := by rw [eo19]; exact (show ((0 : Int32)).toInt = _ from by decide)
      have hkpo19 : Kp [8, 21, 23, 26, 29, 30, 38, 43, 59, 62] [3, 12, 42, 48, 50, 51] o_me o19 := hkpz15_me.trans (by rw [eo19]; exact Kp.sI (by decide))
      refine wp_lt (fun o22 eo22 => ?_)
      have hIo22 : IvX9 o22 := by rw [eo22]; exact ipX9_13 hIo19 ⟨by decide, by decide⟩
      have ko22_k23 : (gI o22 15).toInt = (gI o19 15).toInt := by rw [eo22]; rfl
      have ko22_k24 : (gI o22 20).toInt = (gI o19 20).toInt := by rw [eo22]; rfl
      have ko22_v : (gI o22 13).toInt = 0 := by rw [eo22]; exact (show ((0 : Int32)).toInt = _ from by decide)
      have hkpo22 : Kp [8, 21, 23, 26, 29, 30, 38, 43, 59, 62] [3, 12, 42, 48, 50, 51] o_me o22 := hkpo19.trans (by rw [eo22]; exact Kp.sI (by decide))
      refine wp_some ?_
      exact (show IvX9 o22 ∧ Kp [8, 21, 23, 26, 29, 30, 38, 43, 59, 62] [3, 12, 42, 48, 50, 51] o_me o22 from ⟨hIo22, hkpo22⟩)
  · have c2z := c2
    have c2 := cv_ne (a := (gI o_me 19).toInt) (b := 0) rfl (by decide) c2
    unfold bk_X9_endText_19
    refine wp_lt (fun o25 eo25 => ?_)
    have hIo25 : IvX9 o25 := by rw [eo25]; exact ipX9_20 hI_me ⟨by decide, by decide⟩
    have ko25_k26 : (gI o25 13).toInt = (gI o_me 13).toInt := by rw [eo25]; rfl
    have ko25_k27 : (gI o25 15).toInt = (gI o_me 15).toInt := by rw [eo25]; rfl
    have ko25_k28 : (gI o25 19).toInt = (gI o_me 19).toInt := by rw [eo25]; rfl
    have ko25_v : (gI o25 20).toInt = 0 := by rw [eo25]; exact (show ((0 : Int32)).toInt = _ from by decide)
    have hkpo25 : Kp [8, 21, 23, 26, 29, 30, 38, 43, 59, 62] [3, 12, 42, 48, 50, 51] o_me o25 := Kp.rf.trans (by rw [eo25]; exact Kp.sI (by decide))
    refine wp_lt (fun o29 eo29 => ?_)
    have hIo29 : IvX9 o29 := by rw [eo29]; exact ipX9_13 hIo25 ⟨by decide, by decide⟩
    have ko29_k30 : (gI o29 15).toInt = (gI o25 15).toInt := by rw [eo29]; rfl
    have ko29_k31 : (gI o29 19).toInt = (gI o25 19).toInt := by rw [eo29]; rfl
    have ko29_k32 : (gI o29 20).toInt = (gI o25 20).toInt := by rw [eo29]; rfl
    have ko29_v : (gI o29 13).toInt = 0 := by rw [eo29]; exact (show ((0 : Int32)).toInt = _ from by decide)
    have hkpo29 : Kp [8, 21, 23, 26, 29, 30, 38, 43, 59, 62] [3, 12, 42, 48, 50, 51] o_me o29 := hkpo25.trans (by rw [eo29]; exact Kp.sI (by decide))
    refine wp_some ?_
    exact (show IvX9 o29 ∧ Kp [8, 21, 23, 26, 29, 30, 38, 43, 59, 62] [3, 12, 42, 48, 50, 51] o_me o29 from ⟨hIo29, hkpo29⟩)

set_option maxHeartbeats 4000000 in
set_option maxRecDepth 100000 in
theorem s_X9_enter (o_me : Ob) (p0 : Int32) (hI_me : IvX9 o_me)  : wp (f_X9_enter  o_me p0) (fun (y : Int32 × Ob) => ((-6) ≤ y.1.toInt ∧ y.1.toInt ≤ 2147483647) ∧ IvX9 y.2 ∧ Kp [13, 14, 15, 16, 19, 20, 21, 23, 26, 29, 30, 38, 43, 59, 62] [12, 42, 48, 50, 51] o_me y.2) := by
  have li0 : (0 : Int32).toInt = 0 := by decide
  unfold f_X9_enter
  refine wp_lt (fun o1 eo1 => ?_)
  have hIo1 : IvX9 o1 := by rw [eo1]; exact hI_me
  have ko1_v : (gI o1 0).toInt = 0 := by rw [eo1]; exact (show ((0 : Int32)).toInt = _ from by decide)
  have hkpo1 : Kp [13, 14, 15, 16, 19, 20, 21, 23, 26, 29, 30, 38, 43, 59, 62] [12, 42, 48, 50, 51] o_me o1 := Kp.rf.trans (by rw [eo1]; exact Kp.sI (by decide))
  refine wp_bd (s_X9_enterNow o1 p0 hIo1 ) (fun z2 hz2 => ?_)
  obtain ⟨hz2_0, hz2_1, hz2_2⟩ := hz2
  have hkpz2_me : Kp [13, 14, 15, 16, 19, 20, 21, 23, 26, 29, 30, 38, 43, 59, 62] [12, 42, 48, 50, 51] o_me z2.2 := hkpo1.trans (hz2_2.mono (by decide) (by decide))
  have rg4 := i32_rg z2.1
  refine wp_bd (s_X9_tell z2.2 z2.1 hz2_1 ⟨by omega, by omega⟩) (fun z3 hz3 => ?_)
  obtain ⟨hz3_0, hz3_1, hz3_2⟩ := hz3
  have hkpz3_me : Kp [13, 14, 15, 16, 19, 20, 21, 23, 26, 29, 30, 38, 43, 59, 62] [12, 42, 48, 50, 51] o_me z3.2 := hkpz2_me.trans (hz3_2.mono (by decide) (by decide))
  refine wp_some ?_
  have rg5 := i32_rg z3.1
  exact (show ((-6) ≤ z3.1.toInt ∧ z3.1.toInt ≤ 2147483647) ∧ IvX9 z3.2 ∧ Kp [13, 14, 15, 16, 19, 20, 21, 23, 26, 29, 30, 38, 43, 59, 62] [12, 42, 48, 50, 51] o_me z3.2 from ⟨⟨by omega, by omega⟩, hz3_1, hkpz3_me⟩)

set_option maxHeartbeats 4000000 in
set_option maxRecDepth 100000 in
theorem s_X9_fault (o_me : Ob) (hI_me : IvX9 o_me)  : wp (f_X9_fault  o_me) (fun (y : Int32 × Ob) => IvX9 y.2 ∧ Kp [8, 13, 14, 15, 16, 19, 20, 21, 23, 26, 29, 30, 38, 43, 59, 62] [3, 12, 42, 48, 50, 51] o_me y.2) := by
  have li0 : (0 : Int32).toInt = 0 := by decide
  unfold f_X9_fault
  refine wp_lt (fun o1 eo1 => ?_)
  have hIo1 : IvX9 o1 := by rw [eo1]; exact hI_me
  have ko1_v : (gI o1 0).toInt = 0 := by rw [eo1]; exact (show ((0 : Int32)).toInt = _ from by decide)
  have hkpo1 : Kp [8, 13, 14, 15, 16, 19, 20, 21, 23, 26, 29, 30, 38, 43, 59, 62] [3, 12, 42, 48, 50, 51] o_me o1 := Kp.rf.trans (by rw [eo1]; exact Kp.sI (by decide))
  refine wp_some ?_
  exact (show IvX9 o1 ∧ Kp [8, 13, 14, 15, 16, 19, 20, 21, 23, 26, 29, 30, 38, 43, 59, 62] [3, 12, 42, 48, 50, 51] o_me o1 from ⟨hIo1, hkpo1⟩)

set_option maxHeartbeats 4000000 in
set_option maxRecDepth 100000 in
theorem s_X9_four (o_me : Ob) (p0 : Int32) (hI_me : IvX9 o_me) (q0 : 0 ≤ (gI o_me 13).toInt ∧ (gI o_me 13).toInt ≤ 396) : wp (f_X9_four  o_me p0) (fun (y : Ob) => IvX9 y ∧ Kp [8, 14, 15, 16, 19, 20, 21, 23, 26, 29, 30, 38, 43, 59, 62] [3, 42, 48, 50, 51] o_me y ∧ ((gI o_me 13).toInt + 4 ≤ (gI y 13).toInt ∧ (gI y 13).toInt ≤ (gI o_me 13).toInt + 4)) := by
  have li0 : (-8 : Int32).toInt = (-8) := by decide
  have li1 : (0 : Int32).toInt = 0 := by decide
  have li2 : (1 : Int32).toInt = 1 := by decide
  have li3 : (16 : Int32).toInt = 16 := by decide
  have li4 : (24 : Int32).toInt = 24 := by decide
  have li5 : (255 : Int32).toInt = 255 := by decide
  have li6 : (8 : Int32).toInt = 8 := by decide
  unfold f_X9_four
  show wp (lb_X9_four_3  (lp_X9_four_3  99999) p0 (24 : Int32) o_me) (fun (y : Ob) => IvX9 y ∧ Kp [8, 14, 15, 16, 19, 20, 21, 23, 26, 29, 30, 38, 43, 59, 62] [3, 42, 48, 50, 51] o_me y ∧ ((gI o_me 13).toInt + 4 ≤ (gI y 13).toInt ∧ (gI y 13).toInt ≤ (gI o_me 13).toInt + 4))
  unfold lb_X9_four_3
  have t1 := i32_and (x := p0 >>> ((24 : Int32) &&& 31)) (y := (255 : Int32)) (m := 255) ⟨by decide, by decide⟩
  refine wp_gd (zin_of (m := 400) rfl (by omega) (by omega)) ?_
  refine wp_lt (fun o2 eo2 => ?_)
  have hIo2 : IvX9 o2 := by rw [eo2]; exact hI_me
  have ko2_k3 : (gI o2 13).toInt = (gI o_me 13).toInt := by rw [eo2]; rfl
  have ko2_v : (gA o2 12 (gI o_me 13).toNatClampNeg).toInt = ((p0 >>> ((24 : Int32) &&& 31)) &&& (255 : Int32)).toInt := by rw [eo2]; exact congrArg Int32.toInt (upd_eq (g := gA o_me 12) (i := (gI o_me 13)) (v := ((p0 >>> ((24 : Int32) &&& 31)) &&& (255 : Int32))))
  have hkpo2 : Kp [8, 14, 15, 16, 19, 20, 21, 23, 26, 29, 30, 38, 43, 59, 62] [3, 42, 48, 50, 51] o_me o2 := Kp.rf.trans (by rw [eo2]; exact Kp.tA (by decide))
  have t4 : ((gI o2 13) + (1 : Int32)).toInt = (gI o2 13).toInt + 1 := i32_add rfl (by decide) (by omega) (by omega)
  refine wp_lt (fun o5 eo5 => ?_)
  have hIo5 : IvX9 o5 := by rw [eo5]; exact ipX9_13 hIo2 ⟨by omega, by omega⟩
  have ko5_k6 : (gA o5 12 (gI o_me 13).toNatClampNeg).toInt = (gA o2 12 (gI o_me 13).toNatClampNeg).toInt := by rw [eo5]; rfl
  have ko5_v : (gI o5 13).toInt = ((gI o2 13) + (1 : Int32)).toInt := by rw [eo5]; rfl
  have hkpo5 : Kp [8, 14, 15, 16, 19, 20, 21, 23, 26, 29, 30, 38, 43, 59, 62] [3, 42, 48, 50, 51] o_me o5 := hkpo2.trans (by rw [eo5]; exact Kp.sI (by decide))
  show wp (lb_X9_four_3  (lp_X9_four_3  99998) p0 (16 : Int32) o5) (fun (y : Ob) => IvX9 y ∧ Kp [8, 14, 15, 16, 19, 20, 21, 23, 26, 29, 30, 38, 43, 59, 62] [3, 42, 48, 50, 51] o_me y ∧ ((gI o_me 13).toInt + 4 ≤ (gI y 13).toInt ∧ (gI y 13).toInt ≤ (gI o_me 13).toInt + 4))
  unfold lb_X9_four_3
  have t7 := i32_and (x := p0 >>> ((16 : Int32) &&& 31)) (y := (255 : Int32)) (m := 255) ⟨by decide, by decide⟩
  refine wp_gd (zin_of (m := 400) rfl (by omega) (by omega)) ?_
  refine wp_lt (fun o8 eo8 => ?_)
  have hIo8 : IvX9 o8 := by rw [eo8]; exact hIo5
  have ko8_k9 : (gI o8 13).toInt = (gI o5 13).toInt := by rw [eo8]; rfl
  have ko8_v : (gA o8 12 (gI o5 13).toNatClampNeg).toInt = ((p0 >>> ((16 : Int32) &&& 31)) &&& (255 : Int32)).toInt := by rw [eo8]; exact congrArg Int32.toInt (upd_eq (g := gA o5 12) (i := (gI o5 13)) (v := ((p0 >>> ((16 : Int32) &&& 31)) &&& (255 : Int32))))
  have hkpo8 : Kp [8, 14, 15, 16, 19, 20, 21, 23, 26, 29, 30, 38, 43, 59, 62] [3, 42, 48, 50, 51] o_me o8 := hkpo5.trans (by rw [eo8]; exact Kp.tA (by decide))
  have t10 : ((gI o8 13) + (1 : Int32)).toInt = (gI o8 13).toInt + 1 := i32_add rfl (by decide) (by omega) (by omega)
  refine wp_lt (fun o11 eo11 => ?_)
  have hIo11 : IvX9 o11 := by rw [eo11]; exact ipX9_13 hIo8 ⟨by omega, by omega⟩
  have ko11_k12 : (gA o11 12 (gI o5 13).toNatClampNeg).toInt = (gA o8 12 (gI o5 13).toNatClampNeg).toInt := by rw [eo11]; rfl
  have ko11_v : (gI o11 13).toInt = ((gI o8 13) + (1 : Int32)).toInt := by rw [eo11]; rfl
  have hkpo11 : Kp [8, 14, 15, 16, 19, 20, 21, 23, 26, 29, 30, 38, 43, 59, 62] [3, 42, 48, 50, 51] o_me o11 := hkpo8.trans (by rw [eo11]; exact Kp.sI (by decide))
  show wp (lb_X9_four_3  (lp_X9_four_3  99997) p0 (8 : Int32) o11) (fun (y : Ob) => IvX9 y ∧ Kp [8, 14, 15, 16, 19, 20, 21, 23, 26, 29, 30, 38, 43, 59, 62] [3, 42, 48, 50, 51] o_me y ∧ ((gI o_me 13).toInt + 4 ≤ (gI y 13).toInt ∧ (gI y 13).toInt ≤ (gI o_me 13).toInt + 4))
  unfold lb_X9_four_3
  have t13 := i32_and (x := p0 >>> ((8 : Int32) &&& 31)) (y := (255 : Int32)) (m := 255) ⟨by decide, by decide⟩
  refine wp_gd (zin_of (m := 400) rfl (by omega) (by omega)) ?_
  refine wp_lt (fun o14 eo14 => ?_)
  have hIo14 : IvX9 o14 := by rw [eo14]; exact hIo11
  have ko14_k15 : (gI o14 13).toInt = (gI o11 13).toInt := by rw [eo14]; rfl
  have ko14_v : (gA o14 12 (gI o11 13).toNatClampNeg).toInt = ((p0 >>> ((8 : Int32) &&& 31)) &&& (255 : Int32)).toInt := by rw [eo14]; exact congrArg Int32.toInt (upd_eq (g := gA o11 12) (i := (gI o11 13)) (v := ((p0 >>> ((8 : Int32) &&& 31)) &&& (255 : Int32))))
  have hkpo14 : Kp [8, 14, 15, 16, 19, 20, 21, 23, 26, 29, 30, 38, 43, 59, 62] [3, 42, 48, 50, 51] o_me o14 := hkpo11.trans (by rw [eo14]; exact Kp.tA (by decide))
  have t16 : ((gI o14 13) + (1 : Int32)).toInt = (gI o14 13).toInt + 1 := i32_add rfl (by decide) (by omega) (by omega)
  refine wp_lt (fun o17 eo17 => ?_)
  have hIo17 : IvX9 o17 := by rw [eo17]; exact ipX9_13 hIo14 ⟨by omega, by omega⟩
  have ko17_k18 : (gA o17 12 (gI o11 13).toNatClampNeg).toInt = (gA o14 12 (gI o11 13).toNatClampNeg).toInt := by rw [eo17]; rfl
  have ko17_v : (gI o17 13).toInt = ((gI o14 13) + (1 : Int32)).toInt := by rw [eo17]; rfl
  have hkpo17 : Kp [8, 14, 15, 16, 19, 20, 21, 23, 26, 29, 30, 38, 43, 59, 62] [3, 42, 48, 50, 51] o_me o17 := hkpo14.trans (by rw [eo17]; exact Kp.sI (by decide))
  show wp (lb_X9_four_3  (lp_X9_four_3  99996) p0 (0 : Int32) o17) (fun (y : Ob) => IvX9 y ∧ Kp [8, 14, 15, 16, 19, 20, 21, 23, 26, 29, 30, 38, 43, 59, 62] [3, 42, 48, 50, 51] o_me y ∧ ((gI o_me 13).toInt + 4 ≤ (gI y 13).toInt ∧ (gI y 13).toInt ≤ (gI o_me 13).toInt + 4))
  unfold lb_X9_four_3
  have t19 := i32_and (x := p0 >>> ((0 : Int32) &&& 31)) (y := (255 : Int32)) (m := 255) ⟨by decide, by decide⟩
  refine wp_gd (zin_of (m := 400) rfl (by omega) (by omega)) ?_
  refine wp_lt (fun o20 eo20 => ?_)
  have hIo20 : IvX9 o20 := by rw [eo20]; exact hIo17
  have ko20_k21 : (gI o20 13).toInt = (gI o17 13).toInt := by rw [eo20]; rfl
  have ko20_v : (gA o20 12 (gI o17 13).toNatClampNeg).toInt = ((p0 >>> ((0 : Int32) &&& 31)) &&& (255 : Int32)).toInt := by rw [eo20]; exact congrArg Int32.toInt (upd_eq (g := gA o17 12) (i := (gI o17 13)) (v := ((p0 >>> ((0 : Int32) &&& 31)) &&& (255 : Int32))))
  have hkpo20 : Kp [8, 14, 15, 16, 19, 20, 21, 23, 26, 29, 30, 38, 43, 59, 62] [3, 42, 48, 50, 51] o_me o20 := hkpo17.trans (by rw [eo20]; exact Kp.tA (by decide))
  have t22 : ((gI o20 13) + (1 : Int32)).toInt = (gI o20 13).toInt + 1 := i32_add rfl (by decide) (by omega) (by omega)
  refine wp_lt (fun o23 eo23 => ?_)
  have hIo23 : IvX9 o23 := by rw [eo23]; exact ipX9_13 hIo20 ⟨by omega, by omega⟩
  have ko23_k24 : (gA o23 12 (gI o17 13).toNatClampNeg).toInt = (gA o20 12 (gI o17 13).toNatClampNeg).toInt := by rw [eo23]; rfl
  have ko23_v : (gI o23 13).toInt = ((gI o20 13) + (1 : Int32)).toInt := by rw [eo23]; rfl
  have hkpo23 : Kp [8, 14, 15, 16, 19, 20, 21, 23, 26, 29, 30, 38, 43, 59, 62] [3, 42, 48, 50, 51] o_me o23 := hkpo20.trans (by rw [eo23]; exact Kp.sI (by decide))
  show wp (lb_X9_four_3  (lp_X9_four_3  99995) p0 (-8 : Int32) o23) (fun (y : Ob) => IvX9 y ∧ Kp [8, 14, 15, 16, 19, 20, 21, 23, 26, 29, 30, 38, 43, 59, 62] [3, 42, 48, 50, 51] o_me y ∧ ((gI o_me 13).toInt + 4 ≤ (gI y 13).toInt ∧ (gI y 13).toInt ≤ (gI o_me 13).toInt + 4))
  unfold lb_X9_four_3
  refine wp_some ?_
  exact (show IvX9 o23 ∧ Kp [8, 14, 15, 16, 19, 20, 21, 23, 26, 29, 30, 38, 43, 59, 62] [3, 42, 48, 50, 51] o_me o23 ∧ ((gI o_me 13).toInt + 4 ≤ (gI o23 13).toInt ∧ (gI o23 13).toInt ≤ (gI o_me 13).toInt + 4) from ⟨hIo23, hkpo23, ⟨by omega, by omega⟩⟩)

set_option maxHeartbeats 4000000 in
set_option maxRecDepth 100000 in
theorem s_X9_feed (o_me : Ob) (p0 : Int32) (p1 : Int32) (p2 : Int32) (p3 : Int32) (p4 : Int32) (hI_me : IvX9 o_me)  : wp (f_X9_feed  o_me p0 p1 p2 p3 p4) (fun (y : Int32 × Ob) => ((-1) ≤ y.1.toInt ∧ y.1.toInt ≤ 400) ∧ IvX9 y.2 ∧ Kp [8, 14, 15, 16, 19, 20, 21, 23, 26, 29, 30, 38, 43, 59, 62] [3, 42, 48, 50, 51] o_me y.2) := by
  have li0 : (-1 : Int32).toInt = (-1) := by decide
  have li1 : (0 : Int32).toInt = 0 := by decide
  have li2 : (20 : Int32).toInt = 20 := by decide
  have li3 : (400 : Int32).toInt = 400 := by decide
  unfold f_X9_feed
  refine wp_lt (fun o1 eo1 => ?_)
  have hIo1 : IvX9 o1 := by rw [eo1]; exact hI_me
  have ko1_v : (gI o1 0).toInt = 0 := by rw [eo1]; exact (show ((0 : Int32)).toInt = _ from by decide)
  have hkpo1 : Kp [8, 14, 15, 16, 19, 20, 21, 23, 26, 29, 30, 38, 43, 59, 62] [3, 42, 48, 50, 51] o_me o1 := Kp.rf.trans (by rw [eo1]; exact Kp.sI (by decide))
  have t2 := igX9_13 hIo1
  have t3 : ((gI o1 13) + (20 : Int32)).toInt = (gI o1 13).toInt + 20 := i32_add rfl (by decide) (by omega) (by omega)
  refine wp_if (fun c4 => ?_) (fun c4 => ?_)
  · have c4 := cv_le (a := ((gI o1 13) + (20 : Int32)).toInt) (b := 400) rfl (by decide) c4
    refine wp_bd (s_X9_four o1 p0 hIo1 ⟨by omega, by omega⟩) (fun z5 hz5 => ?_)
    obtain ⟨hz5_0, hz5_1, hz5_2⟩ := hz5
    have hkpz5_me : Kp [8, 14, 15, 16, 19, 20, 21, 23, 26, 29, 30, 38, 43, 59, 62] [3, 42, 48, 50, 51] o_me z5 := hkpo1.trans (hz5_1.mono (by decide) (by decide))
    have t7 := igX9_13 hz5_0
    refine wp_bd (s_X9_four z5 p1 hz5_0 ⟨by omega, by omega⟩) (fun z6 hz6 => ?_)
    obtain ⟨hz6_0, hz6_1, hz6_2⟩ := hz6
    have hkpz6_me : Kp [8, 14, 15, 16, 19, 20, 21, 23, 26, 29, 30, 38, 43, 59, 62] [3, 42, 48, 50, 51] o_me z6 := hkpz5_me.trans (hz6_1.mono (by decide) (by decide))
    have t9 := igX9_13 hz6_0
    refine wp_bd (s_X9_four z6 p2 hz6_0 ⟨by omega, by omega⟩) (fun z8 hz8 => ?_)
    obtain ⟨hz8_0, hz8_1, hz8_2⟩ := hz8
    have hkpz8_me : Kp [8, 14, 15, 16, 19, 20, 21, 23, 26, 29, 30, 38, 43, 59, 62] [3, 42, 48, 50, 51] o_me z8 := hkpz6_me.trans (hz8_1.mono (by decide) (by decide))
    have t11 := igX9_13 hz8_0
    refine wp_bd (s_X9_four z8 p3 hz8_0 ⟨by omega, by omega⟩) (fun z10 hz10 => ?_)
    obtain ⟨hz10_0, hz10_1, hz10_2⟩ := hz10
    have hkpz10_me : Kp [8, 14, 15, 16, 19, 20, 21, 23, 26, 29, 30, 38, 43, 59, 62] [3, 42, 48, 50, 51] o_me z10 := hkpz8_me.trans (hz10_1.mono (by decide) (by decide))
    have t13 := igX9_13 hz10_0
    refine wp_bd (s_X9_four z10 p4 hz10_0 ⟨by omega, by omega⟩) (fun z12 hz12 => ?_)
    obtain ⟨hz12_0, hz12_1, hz12_2⟩ := hz12
    have hkpz12_me : Kp [8, 14, 15, 16, 19, 20, 21, 23, 26, 29, 30, 38, 43, 59, 62] [3, 42, 48, 50, 51] o_me z12 := hkpz10_me.trans (hz12_1.mono (by decide) (by decide))
    have t14 := igX9_13 hz12_0
    refine wp_some ?_
    exact (show ((-1) ≤ (gI z12 13).toInt ∧ (gI z12 13).toInt ≤ 400) ∧ IvX9 z12 ∧ Kp [8, 14, 15, 16, 19, 20, 21, 23, 26, 29, 30, 38, 43, 59, 62] [3, 42, 48, 50, 51] o_me z12 from ⟨⟨by omega, by omega⟩, hz12_0, hkpz12_me⟩)
  · have c4 := cv_nle (a := ((gI o1 13) + (20 : Int32)).toInt) (b := 400) rfl (by decide) c4
    refine wp_some ?_
    exact (show ((-1) ≤ (-1 : Int32).toInt ∧ (-1 : Int32).toInt ≤ 400) ∧ IvX9 o1 ∧ Kp [8, 14, 15, 16, 19, 20, 21, 23, 26, 29, 30, 38, 43, 59, 62] [3, 42, 48, 50, 51] o_me o1 from ⟨⟨by decide, by decide⟩, hIo1, hkpo1⟩)

set_option maxHeartbeats 4000000 in
set_option maxRecDepth 100000 in
theorem s_X9_few (o_me : Ob) (p0 : Int32) (p1 : Int32) (hI_me : IvX9 o_me)  : wp (f_X9_few  o_me p0 p1) (fun (y : Int64 × Ob) => IvX9 y.2 ∧ Kp [8, 13, 14, 15, 16, 19, 20, 21, 23, 26, 29, 30, 38, 43, 59, 62] [3, 12, 42, 48, 50, 51] o_me y.2) := by
  have li0 : (-1 : Int64).toInt = (-1) := by decide
  have li1 : (0 : Int32).toInt = 0 := by decide
  have li2 : (0 : Int64).toInt = 0 := by decide
  have li3 : (1 : Int32).toInt = 1 := by decide
  have li4 : (1 : Int64).toInt = 1 := by decide
  have li5 : (10 : Int32).toInt = 10 := by decide
  have li6 : (10 : Int64).toInt = 10 := by decide
  have li7 : (1000000000000 : Int64).toInt = 1000000000000 := by decide
  have li8 : (20 : Int64).toInt = 20 := by decide
  have li9 : (21 : Int32).toInt = 21 := by decide
  have li10 : (5 : Int32).toInt = 5 := by decide
  have li11 : (99 : Int64).toInt = 99 := by decide
  unfold f_X9_few
  refine wp_lt (fun o1 eo1 => ?_)
  have hIo1 : IvX9 o1 := by rw [eo1]; exact hI_me
  have ko1_v : (gI o1 0).toInt = 0 := by rw [eo1]; exact (show ((0 : Int32)).toInt = _ from by decide)
  have hkpo1 : Kp [8, 13, 14, 15, 16, 19, 20, 21, 23, 26, 29, 30, 38, 43, 59, 62] [3, 12, 42, 48, 50, 51] o_me o1 := Kp.rf.trans (by rw [eo1]; exact Kp.sI (by decide))
  have rg2 := i32_rg p0
  have t3 : p0.toInt64.toInt = p0.toInt := Int32.toInt_toInt64 _
  refine wp_bd (s_X9_in p0.toInt64 (1 : Int64) (20 : Int64)  ) (fun z4 hz4 => ?_)
  obtain ⟨hz4_0, hz4_1⟩ := hz4
  refine wp_if (fun c5 => ?_) (fun c5 => ?_)
  · have c5 := cv_eq (a := z4.toInt) (b := 0) rfl (by decide) c5
    refine wp_some ?_
    exact (show IvX9 o1 ∧ Kp [8, 13, 14, 15, 16, 19, 20, 21, 23, 26, 29, 30, 38, 43, 59, 62] [3, 12, 42, 48, 50, 51] o_me o1 from ⟨hIo1, hkpo1⟩)
  · have c5z := c5
    have c5i := hz4_1 c5
    have c5 := cv_ne (a := z4.toInt) (b := 0) rfl (by decide) c5
    have rg6 := i32_rg p1
    have t7 : p1.toInt64.toInt = p1.toInt := Int32.toInt_toInt64 _
    refine wp_bd (s_X9_in p1.toInt64 (0 : Int64) (99 : Int64)  ) (fun z8 hz8 => ?_)
    obtain ⟨hz8_0, hz8_1⟩ := hz8
    refine wp_if (fun c9 => ?_) (fun c9 => ?_)
    · have c9 := cv_eq (a := z8.toInt) (b := 0) rfl (by decide) c9
      refine wp_some ?_
      exact (show IvX9 o1 ∧ Kp [8, 13, 14, 15, 16, 19, 20, 21, 23, 26, 29, 30, 38, 43, 59, 62] [3, 12, 42, 48, 50, 51] o_me o1 from ⟨hIo1, hkpo1⟩)
    · have c9z := c9
      have c9i := hz8_1 c9
      have c9 := cv_ne (a := z8.toInt) (b := 0) rfl (by decide) c9
      have lp1 : ∀ (N1 : Nat) (v1_1 : Int32) (v2_1 : Int32) (v3_1 : Int32) (o_me_1 : Ob), IvX9 o_me_1 → Kp [8, 13, 14, 15, 16, 19, 20, 21, 23, 26, 29, 30, 38, 43, 59, 62] [3, 12, 42, 48, 50, 51] o_me o_me_1 → (1 ≤ v1_1.toInt ∧ v1_1.toInt ≤ 20) → (0 ≤ v2_1.toInt ∧ v2_1.toInt ≤ 99) → (0 ≤ v3_1.toInt ∧ v3_1.toInt ≤ 21) → (21 - v3_1.toInt).toNat < N1 → wp (lp_X9_few_35   N1 (v1_1, v2_1, v3_1, o_me_1)) (fun (y : Int64 × Ob) => IvX9 y.2 ∧ Kp [8, 13, 14, 15, 16, 19, 20, 21, 23, 26, 29, 30, 38, 43, 59, 62] [3, 12, 42, 48, 50, 51] o_me y.2) := by
        intro N1
        induction N1 with
        | zero =>
          intro v1_1 v2_1 v3_1 o_me_1 hI_me_1 hkp_me_1 hh10 hh11 hh12 hN1
          exact absurd hN1 (Nat.not_lt_zero _)
        | succ N1 ihx =>
          have ih1 := ihx
          intro v1_1 v2_1 v3_1 o_me_1 hI_me_1 hkp_me_1 hh10 hh11 hh12 hN1
          show wp (lb_X9_few_35   (lp_X9_few_35   N1) v1_1 v2_1 v3_1 o_me_1) (fun (y : Int64 × Ob) => IvX9 y.2 ∧ Kp [8, 13, 14, 15, 16, 19, 20, 21, 23, 26, 29, 30, 38, 43, 59, 62] [3, 12, 42, 48, 50, 51] o_me y.2)
          unfold lb_X9_few_35
          refine wp_if (fun c13 => ?_) (fun c13 => ?_)
          · have c13 := cv_ge (a := v3_1.toInt) (b := 21) rfl (by decide) c13
            refine wp_lt (fun x14 ex14 => ?_)
            have tx14 : x14.toInt = (gA o_me_1 3 (5 : Int32).toNatClampNeg).toInt := by rw [ex14]
            have lp2 : ∀ (N2 : Nat) (v1_2 : Int32) (v2_2 : Int32) (v3_2 : Int32) (v4_2 : Int32) (o_me_2 : Ob), IvX9 o_me_2 → Kp [8, 13, 14, 15, 16, 19, 20, 21, 23, 26, 29, 30, 38, 43, 59, 62] [3, 12, 42, 48, 50, 51] o_me o_me_2 → (1 ≤ v1_2.toInt ∧ v1_2.toInt ≤ 20) → (0 ≤ v2_2.toInt ∧ v2_2.toInt ≤ 99) → (0 ≤ v4_2.toInt ∧ v4_2.toInt ≤ 99) → (v4_2.toInt ≤ v2_2.toInt + 0) → (v1_2.toInt ≤ v1_1.toInt + 0) → (v1_1.toInt ≤ v1_2.toInt + 0) → (v2_2.toInt ≤ v2_1.toInt + 0) → (v2_1.toInt ≤ v2_2.toInt + 0) → (v3_2.toInt ≤ x14.toInt + 0) → (x14.toInt ≤ v3_2.toInt + 0) → (v4_2.toInt ≤ v2_1.toInt + 0) → (99 - v4_2.toInt).toNat < N2 → wp (lp_X9_few_74   N2 (v1_2, v2_2, v3_2, v4_2, o_me_2)) (fun (y : Int64 × Ob) => IvX9 y.2 ∧ Kp [8, 13, 14, 15, 16, 19, 20, 21, 23, 26, 29, 30, 38, 43, 59, 62] [3, 12, 42, 48, 50, 51] o_me y.2) := by
              intro N2
              induction N2 with
              | zero =>
                intro v1_2 v2_2 v3_2 v4_2 o_me_2 hI_me_2 hkp_me_2 hh15 hh16 hh17 hh18 hh19 hh20 hh21 hh22 hh23 hh24 hh25 hN2
                exact absurd hN2 (Nat.not_lt_zero _)
              | succ N2 ihx =>
                have ih2 := ihx
                intro v1_2 v2_2 v3_2 v4_2 o_me_2 hI_me_2 hkp_me_2 hh15 hh16 hh17 hh18 hh19 hh20 hh21 hh22 hh23 hh24 hh25 hN2
                show wp (lb_X9_few_74   (lp_X9_few_74   N2) v1_2 v2_2 v3_2 v4_2 o_me_2) (fun (y : Int64 × Ob) => IvX9 y.2 ∧ Kp [8, 13, 14, 15, 16, 19, 20, 21, 23, 26, 29, 30, 38, 43, 59, 62] [3, 12, 42, 48, 50, 51] o_me y.2)
                unfold lb_X9_few_74
                refine wp_if (fun c26 => ?_) (fun c26 => ?_)
                · have c26 := cv_ge (a := v4_2.toInt) (b := v2_2.toInt) rfl rfl c26
                  have lp3 : ∀ (N3 : Nat) (v1_3 : Int32) (v4_3 : Int64) (v6_3 : Int32) (o_me_3 : Ob), IvX9 o_me_3 → Kp [8, 13, 14, 15, 16, 19, 20, 21, 23, 26, 29, 30, 38, 43, 59, 62] [3, 12, 42, 48, 50, 51] o_me o_me_3 → (1 ≤ v1_3.toInt ∧ v1_3.toInt ≤ 20) → (0 ≤ v6_3.toInt ∧ v6_3.toInt ≤ 20) → (v6_3.toInt ≤ v1_3.toInt + 0) → (v1_3.toInt ≤ v1_1.toInt + 0) → (v1_1.toInt ≤ v1_3.toInt + 0) → (v1_3.toInt ≤ v1_2.toInt + 0) → (v1_2.toInt ≤ v1_3.toInt + 0) → (v6_3.toInt ≤ v1_1.toInt + 0) → (v6_3.toInt ≤ v1_2.toInt + 0) → (20 - v6_3.toInt).toNat < N3 → wp (lp_X9_few_157   N3 (v1_3, v4_3, v6_3, o_me_3)) (fun (y : Int64 × Ob) => IvX9 y.2 ∧ Kp [8, 13, 14, 15, 16, 19, 20, 21, 23, 26, 29, 30, 38, 43, 59, 62] [3, 12, 42, 48, 50, 51] o_me y.2) := by
                    intro N3
                    induction N3 with
                    | zero =>
                      intro v1_3 v4_3 v6_3 o_me_3 hI_me_3 hkp_me_3 hh27 hh28 hh29 hh30 hh31 hh32 hh33 hh34 hh35 hN3
                      exact absurd hN3 (Nat.not_lt_zero _)
                    | succ N3 ihx =>
                      have ih3 := ihx
                      intro v1_3 v4_3 v6_3 o_me_3 hI_me_3 hkp_me_3 hh27 hh28 hh29 hh30 hh31 hh32 hh33 hh34 hh35 hN3
                      show wp (lb_X9_few_157   (lp_X9_few_157   N3) v1_3 v4_3 v6_3 o_me_3) (fun (y : Int64 × Ob) => IvX9 y.2 ∧ Kp [8, 13, 14, 15, 16, 19, 20, 21, 23, 26, 29, 30, 38, 43, 59, 62] [3, 12, 42, 48, 50, 51] o_me y.2)
                      unfold lb_X9_few_157
                      refine wp_if (fun c36 => ?_) (fun c36 => ?_)
                      · have c36 := cv_ge (a := v6_3.toInt) (b := v1_3.toInt) rfl rfl c36
                        refine wp_some ?_
                        exact (show IvX9 o_me_3 ∧ Kp [8, 13, 14, 15, 16, 19, 20, 21, 23, 26, 29, 30, 38, 43, 59, 62] [3, 12, 42, 48, 50, 51] o_me o_me_3 from ⟨hI_me_3, hkp_me_3⟩)
                      · have c36 := cv_nge (a := v6_3.toInt) (b := v1_3.toInt) rfl rfl c36
                        refine wp_gd (zin_of (m := 21) rfl (by omega) (by omega)) ?_
                        refine wp_lt (fun x37 ex37 => ?_)
                        have tx37 : x37.toInt = (v4_3 + (gM o_me_3 53 v6_3.toNatClampNeg)).toInt := by rw [ex37]
                        refine wp_lt (fun x38 ex38 => ?_)
                        have tx38 : x38.toInt = v6_3.toInt + 1 := by rw [ex38]; exact i32_add rfl (by decide) (by omega) (by omega)
                        exact ih3 v1_3 x37 x38 o_me_3 hI_me_3 hkp_me_3 ⟨by omega, by omega⟩ ⟨by omega, by omega⟩ (by omega) (by omega) (by omega) (by omega) (by omega) (by omega) (by omega) (by omega)
                  exact lp3 zfu v1_2 (0 : Int64) (0 : Int32) o_me_2 hI_me_2 hkp_me_2 ⟨by omega, by omega⟩ ⟨by decide, by decide⟩ (by omega) (by omega) (by omega) (by omega) (by omega) (by omega) (by omega) (by show _ < 100000; omega)
                · have c26 := cv_nge (a := v4_2.toInt) (b := v2_2.toInt) rfl rfl c26
                  have t39 : (v1_2 - (1 : Int32)).toInt = v1_2.toInt - 1 := i32_sub rfl (by decide) (by omega) (by omega)
                  refine wp_lt (fun x40 ex40 => ?_)
                  have tx40 : x40.toInt = (v1_2 - (1 : Int32)).toInt := by rw [ex40]
                  have lp4 : ∀ (N4 : Nat) (v1_4 : Int32) (v2_4 : Int32) (v3_4 : Int32) (v4_4 : Int32) (v5_4 : Int32) (o_me_4 : Ob), IvX9 o_me_4 → Kp [8, 13, 14, 15, 16, 19, 20, 21, 23, 26, 29, 30, 38, 43, 59, 62] [3, 12, 42, 48, 50, 51] o_me o_me_4 → (1 ≤ v1_4.toInt ∧ v1_4.toInt ≤ 20) → (1 ≤ v2_4.toInt ∧ v2_4.toInt ≤ 99) → (0 ≤ v4_4.toInt ∧ v4_4.toInt ≤ 98) → ((-1) ≤ v5_4.toInt ∧ v5_4.toInt ≤ 19) → (v4_4.toInt ≤ v2_4.toInt + (-1)) → (v5_4.toInt ≤ v1_4.toInt + (-1)) → (v1_4.toInt ≤ x40.toInt + 1) → (x40.toInt ≤ v1_4.toInt + (-1)) → (v1_4.toInt ≤ v1_1.toInt + 0) → (v1_1.toInt ≤ v1_4.toInt + 0) → (v1_4.toInt ≤ v1_2.toInt + 0) → (v1_2.toInt ≤ v1_4.toInt + 0) → (v2_4.toInt ≤ v2_1.toInt + 0) → (v2_1.toInt ≤ v2_4.toInt + 0) → (v2_4.toInt ≤ v2_2.toInt + 0) → (v2_2.toInt ≤ v2_4.toInt + 0) → (v4_2.toInt ≤ v2_4.toInt + (-1)) → (v3_4.toInt ≤ x14.toInt + 0) → (x14.toInt ≤ v3_4.toInt + 0) → (v4_4.toInt ≤ v2_1.toInt + (-1)) → (v4_4.toInt ≤ v2_2.toInt + (-1)) → (v4_4.toInt ≤ v4_2.toInt + 0) → (v4_2.toInt ≤ v4_4.toInt + 0) → (v5_4.toInt ≤ x40.toInt + 0) → (v5_4.toInt ≤ v1_1.toInt + (-1)) → (v5_4.toInt ≤ v1_2.toInt + (-1)) → (v5_4.toInt - (-1)).toNat < N4 → wp (lp_X9_few_85  (lp_X9_few_74   N2) N4 (v1_4, v2_4, v3_4, v4_4, v5_4, o_me_4)) (fun (y : Int64 × Ob) => IvX9 y.2 ∧ Kp [8, 13, 14, 15, 16, 19, 20, 21, 23, 26, 29, 30, 38, 43, 59, 62] [3, 12, 42, 48, 50, 51] o_me y.2) := by
                    intro N4
                    induction N4 with
                    | zero =>
                      intro v1_4 v2_4 v3_4 v4_4 v5_4 o_me_4 hI_me_4 hkp_me_4 hh41 hh42 hh43 hh44 hh45 hh46 hh47 hh48 hh49 hh50 hh51 hh52 hh53 hh54 hh55 hh56 hh57 hh58 hh59 hh60 hh61 hh62 hh63 hh64 hh65 hh66 hN4
                      exact absurd hN4 (Nat.not_lt_zero _)
                    | succ N4 ihx =>
                      have ih4 := ihx
                      intro v1_4 v2_4 v3_4 v4_4 v5_4 o_me_4 hI_me_4 hkp_me_4 hh41 hh42 hh43 hh44 hh45 hh46 hh47 hh48 hh49 hh50 hh51 hh52 hh53 hh54 hh55 hh56 hh57 hh58 hh59 hh60 hh61 hh62 hh63 hh64 hh65 hh66 hN4
                      show wp (lb_X9_few_85  (lp_X9_few_74   N2) (lp_X9_few_85  (lp_X9_few_74   N2) N4) v1_4 v2_4 v3_4 v4_4 v5_4 o_me_4) (fun (y : Int64 × Ob) => IvX9 y.2 ∧ Kp [8, 13, 14, 15, 16, 19, 20, 21, 23, 26, 29, 30, 38, 43, 59, 62] [3, 12, 42, 48, 50, 51] o_me y.2)
                      unfold lb_X9_few_85
                      refine wp_if (fun c67 => ?_) (fun c67 => ?_)
                      · have c67 := cv_lt (a := v5_4.toInt) (b := 0) rfl (by decide) c67
                        refine wp_lt (fun x68 ex68 => ?_)
                        have tx68 : x68.toInt = v4_4.toInt + 1 := by rw [ex68]; exact i32_add rfl (by decide) (by omega) (by omega)
                        exact ih2 v1_4 v2_4 v3_4 x68 o_me_4 hI_me_4 hkp_me_4 ⟨by omega, by omega⟩ ⟨by omega, by omega⟩ ⟨by omega, by omega⟩ (by omega) (by omega) (by omega) (by omega) (by omega) (by omega) (by omega) (by omega) (by omega)
                      · have c67 := cv_nlt (a := v5_4.toInt) (b := 0) rfl (by decide) c67
                        refine wp_gd (zin_of (m := 21) rfl (by omega) (by omega)) ?_
                        refine wp_lt (fun x69 ex69 => ?_)
                        have tx69 : x69.toInt = (gM o_me_4 53 v5_4.toNatClampNeg).toInt := by rw [ex69]
                        have rg70 := i32_rg ((10 : Int32) - v3_4)
                        have t71 : (((10 : Int32) - v3_4).toInt64).toInt = ((10 : Int32) - v3_4).toInt := Int32.toInt_toInt64 _
                        refine wp_gd (zin_of (m := 21) rfl (by omega) (by omega)) ?_
                        refine wp_lt (fun o72 eo72 => ?_)
                        have hIo72 : IvX9 o72 := by rw [eo72]; exact hI_me_4
                        have hkpo72 : Kp [8, 13, 14, 15, 16, 19, 20, 21, 23, 26, 29, 30, 38, 43, 59, 62] [3, 12, 42, 48, 50, 51] o_me o72 := hkp_me_4.trans (by rw [eo72]; exact Kp.tM)
                        have t73 : (v5_4 + (1 : Int32)).toInt = v5_4.toInt + 1 := i32_add rfl (by decide) (by omega) (by omega)
                        refine wp_lt (fun x74 ex74 => ?_)
                        have tx74 : x74.toInt = (v5_4 + (1 : Int32)).toInt := by rw [ex74]
                        refine wp_gd (zin_of (m := 21) rfl (by omega) (by omega)) ?_
                        have rg75 := i32_rg v3_4
                        have t76 : v3_4.toInt64.toInt = v3_4.toInt := Int32.toInt_toInt64 _
                        refine wp_gd (zin_of (m := 21) rfl (by omega) (by omega)) ?_
                        refine wp_lt (fun o77 eo77 => ?_)
                        have hIo77 : IvX9 o77 := by rw [eo77]; exact hIo72
                        have hkpo77 : Kp [8, 13, 14, 15, 16, 19, 20, 21, 23, 26, 29, 30, 38, 43, 59, 62] [3, 12, 42, 48, 50, 51] o_me o77 := hkpo72.trans (by rw [eo77]; exact Kp.tM)
                        refine wp_lt (fun x78 ex78 => ?_)
                        have tx78 : x78.toInt = v5_4.toInt + (-1) := by rw [ex78]; exact i32_add rfl (by decide) (by omega) (by omega)
                        exact ih4 v1_4 v2_4 v3_4 v4_4 x78 o77 hIo77 hkpo77 ⟨by omega, by omega⟩ ⟨by omega, by omega⟩ ⟨by omega, by omega⟩ ⟨by omega, by omega⟩ (by omega) (by omega) (by omega) (by omega) (by omega) (by omega) (by omega) (by omega) (by omega) (by omega) (by omega) (by omega) (by omega) (by omega) (by omega) (by omega) (by omega) (by omega) (by omega) (by omega) (by omega) (by omega) (by omega)
                  exact lp4 zfu v1_2 v2_2 v3_2 v4_2 x40 o_me_2 hI_me_2 hkp_me_2 ⟨by omega, by omega⟩ ⟨by omega, by omega⟩ ⟨by omega, by omega⟩ ⟨by omega, by omega⟩ (by omega) (by omega) (by omega) (by omega) (by omega) (by omega) (by omega) (by omega) (by omega) (by omega) (by omega) (by omega) (by omega) (by omega) (by omega) (by omega) (by omega) (by omega) (by omega) (by omega) (by omega) (by omega) (by show _ < 100000; omega)
            exact lp2 zfu v1_1 v2_1 x14 (0 : Int32) o_me_1 hI_me_1 hkp_me_1 ⟨by omega, by omega⟩ ⟨by omega, by omega⟩ ⟨by decide, by decide⟩ (by omega) (by omega) (by omega) (by omega) (by omega) (by omega) (by omega) (by omega) (by show _ < 100000; omega)
          · have c13 := cv_nge (a := v3_1.toInt) (b := 21) rfl (by decide) c13
            refine wp_if (fun c79 => ?_) (fun c79 => ?_)
            · have c79 := cv_eq (a := v3_1.toInt) (b := 0) rfl (by decide) c79
              obtain ⟨w80, ew80⟩ : ∃ z : Int64, z = (1000000000000 : Int64) := ⟨_, rfl⟩
              have tw80 : w80.toInt = 1000000000000 := by rw [ew80]; decide
              rw [show bk_X9_few_57  (lp_X9_few_35   N1) v1_1 v2_1 v3_1 (1000000000000 : Int64) v3_1 o_me_1 = bk_X9_few_57  (lp_X9_few_35   N1) v1_1 v2_1 v3_1 w80 v3_1 o_me_1 from by rw [ew80]]
              unfold bk_X9_few_57
              refine wp_gd (zin_of (m := 21) rfl (by omega) (by omega)) ?_
              refine wp_lt (fun o81 eo81 => ?_)
              have hIo81 : IvX9 o81 := by rw [eo81]; exact hI_me_1
              have hkpo81 : Kp [8, 13, 14, 15, 16, 19, 20, 21, 23, 26, 29, 30, 38, 43, 59, 62] [3, 12, 42, 48, 50, 51] o_me o81 := hkp_me_1.trans (by rw [eo81]; exact Kp.tM)
              refine wp_lt (fun x82 ex82 => ?_)
              have tx82 : x82.toInt = v3_1.toInt + 1 := by rw [ex82]; exact i32_add rfl (by decide) (by omega) (by omega)
              exact ih1 v1_1 v2_1 x82 o81 hIo81 hkpo81 ⟨by omega, by omega⟩ ⟨by omega, by omega⟩ ⟨by omega, by omega⟩ (by omega)
            · have c79z := c79
              have c79 := cv_ne (a := v3_1.toInt) (b := 0) rfl (by decide) c79
              obtain ⟨w83, ew83⟩ : ∃ z : Int64, z = (0 : Int64) := ⟨_, rfl⟩
              have tw83 : w83.toInt = 0 := by rw [ew83]; decide
              rw [show bk_X9_few_57  (lp_X9_few_35   N1) v1_1 v2_1 v3_1 (0 : Int64) v3_1 o_me_1 = bk_X9_few_57  (lp_X9_few_35   N1) v1_1 v2_1 v3_1 w83 v3_1 o_me_1 from by rw [ew83]]
              unfold bk_X9_few_57
              refine wp_gd (zin_of (m := 21) rfl (by omega) (by omega)) ?_
              refine wp_lt (fun o84 eo84 => ?_)
              have hIo84 : IvX9 o84 := by rw [eo84]; exact hI_me_1
              have hkpo84 : Kp [8, 13, 14, 15, 16, 19, 20, 21, 23, 26, 29, 30, 38, 43, 59, 62] [3, 12, 42, 48, 50, 51] o_me o84 := hkp_me_1.trans (by rw [eo84]; exact Kp.tM)
              refine wp_lt (fun x85 ex85 => ?_)
              have tx85 : x85.toInt = v3_1.toInt + 1 := by rw [ex85]; exact i32_add rfl (by decide) (by omega) (by omega)
              exact ih1 v1_1 v2_1 x85 o84 hIo84 hkpo84 ⟨by omega, by omega⟩ ⟨by omega, by omega⟩ ⟨by omega, by omega⟩ (by omega)
      exact lp1 zfu p0 p1 (0 : Int32) o1 hIo1 hkpo1 ⟨by omega, by omega⟩ ⟨by omega, by omega⟩ ⟨by decide, by decide⟩ (by show _ < 100000; omega)

set_option maxHeartbeats 4000000 in
set_option maxRecDepth 100000 in
theorem s_X9_change_v2 (o_me : Ob) (p0 : Int32) (p1 : Int32) (hI_me : IvX9 o_me) (q0 : 3 ≤ p0.toInt ∧ p0.toInt ≤ 3) (q1 : (-1) ≤ p1.toInt ∧ p1.toInt ≤ 5) : wp (f_X9_change  o_me p0 p1) (fun (y : Int32 × Ob) => ((-1) ≤ y.1.toInt ∧ y.1.toInt ≤ 5) ∧ IvX9 y.2 ∧ Kp [8, 13, 14, 15, 16, 19, 20, 21, 23, 26, 29, 30, 38, 43, 59, 62] [12, 42, 48, 50, 51] o_me y.2) := by
  have li0 : (0 : Int32).toInt = 0 := by decide
  unfold f_X9_change
  refine wp_gd (zin_of (m := 5484) rfl (by omega) (by omega)) ?_
  have t1 := iaX9_3_3 hI_me (j := p0) (by omega) (by omega)
  refine wp_lt (fun x2 ex2 => ?_)
  have tx2 : x2.toInt = (gA o_me 3 p0.toNatClampNeg).toInt := by rw [ex2]
  refine wp_gd (zin_of (m := 5484) rfl (by omega) (by omega)) ?_
  refine wp_lt (fun o3 eo3 => ?_)
  have hIo3 : IvX9 o3 := by rw [eo3]; exact ibX9_3 hI_me (by omega) (Or.inr (Or.inl (by first | omega | decide))) (Or.inr (Or.inl (by first | omega | decide))) (Or.inr (Or.inl (by first | omega | decide))) (Or.inr (Or.inr ⟨by omega, by omega⟩)) (Or.inl (by first | omega | decide)) (Or.inl (by first | omega | decide)) (Or.inl (by first | omega | decide)) (Or.inl (by first | omega | decide)) (Or.inl (by first | omega | decide))
  have ko3_v : (gA o3 3 p0.toNatClampNeg).toInt = p1.toInt := by rw [eo3]; exact congrArg Int32.toInt (upd_eq (g := gA o_me 3) (i := p0) (v := p1))
  have hkpo3 : Kp [8, 13, 14, 15, 16, 19, 20, 21, 23, 26, 29, 30, 38, 43, 59, 62] [12, 42, 48, 50, 51] o_me o3 := Kp.rf.trans (by rw [eo3]; exact Kp.tA (by decide))
  refine wp_lt (fun o4 eo4 => ?_)
  have hIo4 : IvX9 o4 := by rw [eo4]; exact hIo3
  have ko4_k5 : (gA o4 3 p0.toNatClampNeg).toInt = (gA o3 3 p0.toNatClampNeg).toInt := by rw [eo4]; rfl
  have ko4_v : (gI o4 1).toInt = 0 := by rw [eo4]; exact (show ((0 : Int32)).toInt = _ from by decide)
  have hkpo4 : Kp [8, 13, 14, 15, 16, 19, 20, 21, 23, 26, 29, 30, 38, 43, 59, 62] [12, 42, 48, 50, 51] o_me o4 := hkpo3.trans (by rw [eo4]; exact Kp.sI (by decide))
  refine wp_some ?_
  exact (show ((-1) ≤ x2.toInt ∧ x2.toInt ≤ 5) ∧ IvX9 o4 ∧ Kp [8, 13, 14, 15, 16, 19, 20, 21, 23, 26, 29, 30, 38, 43, 59, 62] [12, 42, 48, 50, 51] o_me o4 from ⟨⟨by omega, by omega⟩, hIo4, hkpo4⟩)

set_option maxHeartbeats 4000000 in
set_option maxRecDepth 100000 in
theorem s_X9_force (o_me : Ob) (p0 : Int32) (hI_me : IvX9 o_me)  : wp (f_X9_force  o_me p0) (fun (y : Int32 × Ob) => ((-6) ≤ y.1.toInt ∧ y.1.toInt ≤ 2147483647) ∧ IvX9 y.2 ∧ Kp [8, 13, 14, 15, 16, 19, 20, 21, 23, 26, 29, 30, 38, 43, 59, 62] [12, 42, 48, 50, 51] o_me y.2) := by
  have li0 : (-2 : Int32).toInt = (-2) := by decide
  have li1 : (0 : Int32).toInt = 0 := by decide
  have li2 : (3 : Int32).toInt = 3 := by decide
  unfold f_X9_force
  refine wp_lt (fun o1 eo1 => ?_)
  have hIo1 : IvX9 o1 := by rw [eo1]; exact hI_me
  have ko1_v : (gI o1 0).toInt = 0 := by rw [eo1]; exact (show ((0 : Int32)).toInt = _ from by decide)
  have hkpo1 : Kp [8, 13, 14, 15, 16, 19, 20, 21, 23, 26, 29, 30, 38, 43, 59, 62] [12, 42, 48, 50, 51] o_me o1 := Kp.rf.trans (by rw [eo1]; exact Kp.sI (by decide))
  refine wp_bd (s_X9_isLaw o1 p0 hIo1 ) (fun z2 hz2 => ?_)
  obtain ⟨hz2_0, hz2_1⟩ := hz2
  refine wp_if (fun c3 => ?_) (fun c3 => ?_)
  · have c3 := cv_eq (a := z2.toInt) (b := 0) rfl (by decide) c3
    refine wp_bd (s_X9_tell o1 (-2 : Int32) hIo1 ⟨by decide, by decide⟩) (fun z4 hz4 => ?_)
    obtain ⟨hz4_0, hz4_1, hz4_2⟩ := hz4
    have hkpz4_me : Kp [8, 13, 14, 15, 16, 19, 20, 21, 23, 26, 29, 30, 38, 43, 59, 62] [12, 42, 48, 50, 51] o_me z4.2 := hkpo1.trans (hz4_2.mono (by decide) (by decide))
    refine wp_some ?_
    have rg5 := i32_rg z4.1
    exact (show ((-6) ≤ z4.1.toInt ∧ z4.1.toInt ≤ 2147483647) ∧ IvX9 z4.2 ∧ Kp [8, 13, 14, 15, 16, 19, 20, 21, 23, 26, 29, 30, 38, 43, 59, 62] [12, 42, 48, 50, 51] o_me z4.2 from ⟨⟨by omega, by omega⟩, hz4_1, hkpz4_me⟩)
  · have c3z := c3
    have c3i := hz2_1 c3
    have c3 := cv_ne (a := z2.toInt) (b := 0) rfl (by decide) c3
    refine wp_bd (s_X9_change_v2 o1 (3 : Int32) p0 hIo1 ⟨by decide, by decide⟩ ⟨by omega, by omega⟩) (fun z6 hz6 => ?_)
    obtain ⟨hz6_0, hz6_1, hz6_2⟩ := hz6
    have hkpz6_me : Kp [8, 13, 14, 15, 16, 19, 20, 21, 23, 26, 29, 30, 38, 43, 59, 62] [12, 42, 48, 50, 51] o_me z6.2 := hkpo1.trans (hz6_2.mono (by decide) (by decide))
    refine wp_some ?_
    have rg7 := i32_rg z6.1
    exact (show ((-6) ≤ z6.1.toInt ∧ z6.1.toInt ≤ 2147483647) ∧ IvX9 z6.2 ∧ Kp [8, 13, 14, 15, 16, 19, 20, 21, 23, 26, 29, 30, 38, 43, 59, 62] [12, 42, 48, 50, 51] o_me z6.2 from ⟨⟨by omega, by omega⟩, hz6_1, hkpz6_me⟩)

set_option maxHeartbeats 4000000 in
set_option maxRecDepth 100000 in
theorem s_X9_forget (o_me : Ob) (hI_me : IvX9 o_me)  : wp (f_X9_forget  o_me) (fun (y : Int32 × Ob) => (0 ≤ y.1.toInt ∧ y.1.toInt ≤ 6) ∧ IvX9 y.2 ∧ Kp [8, 13, 14, 15, 16, 19, 20, 21, 23, 26, 29, 30, 38, 43, 59, 62] [12, 42, 48, 50, 51] o_me y.2) := by
  have li0 : (0 : Int32).toInt = 0 := by decide
  have li1 : (1 : Int32).toInt = 1 := by decide
  unfold f_X9_forget
  refine wp_lt (fun o1 eo1 => ?_)
  have hIo1 : IvX9 o1 := by rw [eo1]; exact hI_me
  have ko1_v : (gI o1 0).toInt = 0 := by rw [eo1]; exact (show ((0 : Int32)).toInt = _ from by decide)
  have hkpo1 : Kp [8, 13, 14, 15, 16, 19, 20, 21, 23, 26, 29, 30, 38, 43, 59, 62] [12, 42, 48, 50, 51] o_me o1 := Kp.rf.trans (by rw [eo1]; exact Kp.sI (by decide))
  have t2 := iaX9_3_1 hIo1 (j := (1 : Int32)) (by decide) (by decide)
  refine wp_lt (fun x3 ex3 => ?_)
  have tx3 : x3.toInt = (gA o1 3 (1 : Int32).toNatClampNeg).toInt := by rw [ex3]
  refine wp_lt (fun o4 eo4 => ?_)
  have hIo4 : IvX9 o4 := by rw [eo4]; exact ibX9_3 hIo1 (by decide) (Or.inr (Or.inl (by first | omega | decide))) (Or.inr (Or.inr ⟨by decide, by decide⟩)) (Or.inl (by first | omega | decide)) (Or.inl (by first | omega | decide)) (Or.inl (by first | omega | decide)) (Or.inl (by first | omega | decide)) (Or.inl (by first | omega | decide)) (Or.inl (by first | omega | decide)) (Or.inl (by first | omega | decide))
  have ko4_k5 : (gI o4 0).toInt = (gI o1 0).toInt := by rw [eo4]; rfl
  have ko4_v : (gA o4 3 (1 : Int32).toNatClampNeg).toInt = 0 := by rw [eo4]; exact (congrArg Int32.toInt (upd_eq (g := gA o1 3) (i := (1 : Int32)) (v := (0 : Int32)))).trans (show ((0 : Int32)).toInt = 0 by decide)
  have hkpo4 : Kp [8, 13, 14, 15, 16, 19, 20, 21, 23, 26, 29, 30, 38, 43, 59, 62] [12, 42, 48, 50, 51] o_me o4 := hkpo1.trans (by rw [eo4]; exact Kp.tA (by decide))
  refine wp_some ?_
  exact (show (0 ≤ x3.toInt ∧ x3.toInt ≤ 6) ∧ IvX9 o4 ∧ Kp [8, 13, 14, 15, 16, 19, 20, 21, 23, 26, 29, 30, 38, 43, 59, 62] [12, 42, 48, 50, 51] o_me o4 from ⟨⟨by omega, by omega⟩, hIo4, hkpo4⟩)

set_option maxHeartbeats 4000000 in
set_option maxRecDepth 100000 in
theorem s_X9_image (o_me : Ob) (p0 : Int32) (hI_me : IvX9 o_me)  : wp (f_X9_image  o_me p0) (fun (y : Int32 × Ob) => ((-6) ≤ y.1.toInt ∧ y.1.toInt ≤ 2147483647) ∧ IvX9 y.2 ∧ Kp [8, 13, 14, 15, 16, 19, 20, 21, 23, 26, 29, 30, 38, 43, 59, 62] [3, 12, 42, 48, 50, 51] o_me y.2) := by
  have li0 : (-1 : Int32).toInt = (-1) := by decide
  have li1 : (0 : Int32).toInt = 0 := by decide
  have li2 : (0 : Int64).toInt = 0 := by decide
  have li3 : (1 : Int32).toInt = 1 := by decide
  have li4 : (1 : Int64).toInt = 1 := by decide
  have li5 : (5484 : Int32).toInt = 5484 := by decide
  unfold f_X9_image
  refine wp_lt (fun o1 eo1 => ?_)
  have hIo1 : IvX9 o1 := by rw [eo1]; exact hI_me
  have ko1_v : (gI o1 0).toInt = 0 := by rw [eo1]; exact (show ((0 : Int32)).toInt = _ from by decide)
  have hkpo1 : Kp [8, 13, 14, 15, 16, 19, 20, 21, 23, 26, 29, 30, 38, 43, 59, 62] [3, 12, 42, 48, 50, 51] o_me o1 := Kp.rf.trans (by rw [eo1]; exact Kp.sI (by decide))
  have rg2 := i32_rg p0
  have t3 : p0.toInt64.toInt = p0.toInt := Int32.toInt_toInt64 _
  refine wp_bd (s_X9_in p0.toInt64 (0 : Int64) (1 : Int64)  ) (fun z4 hz4 => ?_)
  obtain ⟨hz4_0, hz4_1⟩ := hz4
  refine wp_if (fun c5 => ?_) (fun c5 => ?_)
  · have c5 := cv_eq (a := z4.toInt) (b := 0) rfl (by decide) c5
    refine wp_bd (s_X9_tell o1 (-1 : Int32) hIo1 ⟨by decide, by decide⟩) (fun z6 hz6 => ?_)
    obtain ⟨hz6_0, hz6_1, hz6_2⟩ := hz6
    have hkpz6_me : Kp [8, 13, 14, 15, 16, 19, 20, 21, 23, 26, 29, 30, 38, 43, 59, 62] [3, 12, 42, 48, 50, 51] o_me z6.2 := hkpo1.trans (hz6_2.mono (by decide) (by decide))
    refine wp_some ?_
    have rg7 := i32_rg z6.1
    exact (show ((-6) ≤ z6.1.toInt ∧ z6.1.toInt ≤ 2147483647) ∧ IvX9 z6.2 ∧ Kp [8, 13, 14, 15, 16, 19, 20, 21, 23, 26, 29, 30, 38, 43, 59, 62] [3, 12, 42, 48, 50, 51] o_me z6.2 from ⟨⟨by omega, by omega⟩, hz6_1, hkpz6_me⟩)
  · have c5z := c5
    have c5i := hz4_1 c5
    have c5 := cv_ne (a := z4.toInt) (b := 0) rfl (by decide) c5
    have lp1 : ∀ (N1 : Nat) (v1_1 : Int32) (v2_1 : Int32) (o_me_1 : Ob), IvX9 o_me_1 → Kp [8, 13, 14, 15, 16, 19, 20, 21, 23, 26, 29, 30, 38, 43, 59, 62] [3, 12, 42, 48, 50, 51] o_me o_me_1 → (0 ≤ v1_1.toInt ∧ v1_1.toInt ≤ 1) → (0 ≤ v2_1.toInt ∧ v2_1.toInt ≤ 5484) → (5484 - v2_1.toInt).toNat < N1 → wp (lp_X9_image_23   N1 (v1_1, v2_1, o_me_1)) (fun (y : Int32 × Ob) => ((-6) ≤ y.1.toInt ∧ y.1.toInt ≤ 2147483647) ∧ IvX9 y.2 ∧ Kp [8, 13, 14, 15, 16, 19, 20, 21, 23, 26, 29, 30, 38, 43, 59, 62] [3, 12, 42, 48, 50, 51] o_me y.2) := by
      intro N1
      induction N1 with
      | zero =>
        intro v1_1 v2_1 o_me_1 hI_me_1 hkp_me_1 hh8 hh9 hN1
        exact absurd hN1 (Nat.not_lt_zero _)
      | succ N1 ihx =>
        have ih1 := ihx
        intro v1_1 v2_1 o_me_1 hI_me_1 hkp_me_1 hh8 hh9 hN1
        show wp (lb_X9_image_23   (lp_X9_image_23   N1) v1_1 v2_1 o_me_1) (fun (y : Int32 × Ob) => ((-6) ≤ y.1.toInt ∧ y.1.toInt ≤ 2147483647) ∧ IvX9 y.2 ∧ Kp [8, 13, 14, 15, 16, 19, 20, 21, 23, 26, 29, 30, 38, 43, 59, 62] [3, 12, 42, 48, 50, 51] o_me y.2)
        unfold lb_X9_image_23
        refine wp_if (fun c10 => ?_) (fun c10 => ?_)
        · have c10 := cv_ge (a := v2_1.toInt) (b := 5484) rfl (by decide) c10
          refine wp_gd (zin_of (m := 2) rfl (by omega) (by omega)) ?_
          refine wp_lt (fun o11 eo11 => ?_)
          have hIo11 : IvX9 o11 := by rw [eo11]; exact hI_me_1
          have hkpo11 : Kp [8, 13, 14, 15, 16, 19, 20, 21, 23, 26, 29, 30, 38, 43, 59, 62] [3, 12, 42, 48, 50, 51] o_me o11 := hkp_me_1.trans (by rw [eo11]; exact Kp.tA (by decide))
          refine wp_bd (s_X9_tell o11 (0 : Int32) hIo11 ⟨by decide, by decide⟩) (fun z12 hz12 => ?_)
          obtain ⟨hz12_0, hz12_1, hz12_2⟩ := hz12
          have hkpz12_me : Kp [8, 13, 14, 15, 16, 19, 20, 21, 23, 26, 29, 30, 38, 43, 59, 62] [3, 12, 42, 48, 50, 51] o_me z12.2 := hkpo11.trans (hz12_2.mono (by decide) (by decide))
          refine wp_some ?_
          have rg13 := i32_rg z12.1
          exact (show ((-6) ≤ z12.1.toInt ∧ z12.1.toInt ≤ 2147483647) ∧ IvX9 z12.2 ∧ Kp [8, 13, 14, 15, 16, 19, 20, 21, 23, 26, 29, 30, 38, 43, 59, 62] [3, 12, 42, 48, 50, 51] o_me z12.2 from ⟨⟨by omega, by omega⟩, hz12_1, hkpz12_me⟩)
        · have c10 := cv_nge (a := v2_1.toInt) (b := 5484) rfl (by decide) c10
          have t14 : ((5484 : Int32) * v1_1).toInt = 5484 * v1_1.toInt := i32_mul (by decide) rfl (by omega) (by omega)
          have t15 : (((5484 : Int32) * v1_1) + v2_1).toInt = ((5484 : Int32) * v1_1).toInt + v2_1.toInt := i32_add rfl rfl (by omega) (by omega)
          refine wp_gd (zin_of (m := 5484) rfl (by omega) (by omega)) ?_
          refine wp_gd (zin_of (m := 10968) rfl (by omega) (by omega)) ?_
          refine wp_lt (fun o16 eo16 => ?_)
          have hIo16 : IvX9 o16 := by rw [eo16]; exact hI_me_1
          have ko16_v : (gA o16 4 (((5484 : Int32) * v1_1) + v2_1).toNatClampNeg).toInt = (gA o_me_1 3 v2_1.toNatClampNeg).toInt := by rw [eo16]; exact congrArg Int32.toInt (upd_eq (g := gA o_me_1 4) (i := (((5484 : Int32) * v1_1) + v2_1)) (v := (gA o_me_1 3 v2_1.toNatClampNeg)))
          have hkpo16 : Kp [8, 13, 14, 15, 16, 19, 20, 21, 23, 26, 29, 30, 38, 43, 59, 62] [3, 12, 42, 48, 50, 51] o_me o16 := hkp_me_1.trans (by rw [eo16]; exact Kp.tA (by decide))
          refine wp_lt (fun x17 ex17 => ?_)
          have tx17 : x17.toInt = v2_1.toInt + 1 := by rw [ex17]; exact i32_add rfl (by decide) (by omega) (by omega)
          exact ih1 v1_1 x17 o16 hIo16 hkpo16 ⟨by omega, by omega⟩ ⟨by omega, by omega⟩ (by omega)
    exact lp1 zfu p0 (0 : Int32) o1 hIo1 hkpo1 ⟨by omega, by omega⟩ ⟨by decide, by decide⟩ (by show _ < 100000; omega)

set_option maxHeartbeats 4000000 in
set_option maxRecDepth 100000 in
theorem s_X9_isTold (o_me : Ob) (p0 : Int32) (hI_me : IvX9 o_me) (q0 : 0 ≤ p0.toInt ∧ p0.toInt ≤ 395) : wp (f_X9_isTold  o_me p0) (fun (y : Int32) => (0 ≤ y.toInt ∧ y.toInt ≤ 1)) := by
  have li0 : (0 : Int32).toInt = 0 := by decide
  have li1 : (0 : Int64).toInt = 0 := by decide
  have li2 : (1 : Int32).toInt = 1 := by decide
  have li3 : (4 : Int32).toInt = 4 := by decide
  have li4 : (9 : Int64).toInt = 9 := by decide
  unfold f_X9_isTold
  refine wp_gd (zin_of (m := 400) rfl (by omega) (by omega)) ?_
  refine wp_bd (s_X9_isPerson o_me (gA o_me 12 p0.toNatClampNeg) hI_me ) (fun z1 hz1 => ?_)
  obtain ⟨hz1_0, hz1_1⟩ := hz1
  have lp1 : ∀ (N1 : Nat) (v1_1 : Int32) (v2_1 : Int32) (v3_1 : Int32), (0 ≤ v1_1.toInt ∧ v1_1.toInt ≤ 395) → (0 ≤ v2_1.toInt ∧ v2_1.toInt ≤ 1) → (0 ≤ v3_1.toInt ∧ v3_1.toInt ≤ 4) → (v1_1.toInt ≤ p0.toInt + 0) → (p0.toInt ≤ v1_1.toInt + 0) → (v2_1.toInt ≤ z1.toInt + 0) → (4 - v3_1.toInt).toNat < N1 → wp (lp_X9_isTold_13 o_me  N1 (v1_1, v2_1, v3_1)) (fun (y : Int32) => (0 ≤ y.toInt ∧ y.toInt ≤ 1)) := by
    intro N1
    induction N1 with
    | zero =>
      intro v1_1 v2_1 v3_1 hh2 hh3 hh4 hh5 hh6 hh7 hN1
      exact absurd hN1 (Nat.not_lt_zero _)
    | succ N1 ihx =>
      have ih1 := ihx
      intro v1_1 v2_1 v3_1 hh2 hh3 hh4 hh5 hh6 hh7 hN1
      show wp (lb_X9_isTold_13 o_me  (lp_X9_isTold_13 o_me  N1) v1_1 v2_1 v3_1) (fun (y : Int32) => (0 ≤ y.toInt ∧ y.toInt ≤ 1))
      unfold lb_X9_isTold_13
      refine wp_if (fun c8 => ?_) (fun c8 => ?_)
      · have c8 := cv_ge (a := v3_1.toInt) (b := 4) rfl (by decide) c8
        refine wp_gd (zbo_of (by omega) (by omega)) ?_
        refine wp_some ?_
        exact (show (0 ≤ v2_1.toInt ∧ v2_1.toInt ≤ 1) from ⟨by omega, by omega⟩)
      · have c8 := cv_nge (a := v3_1.toInt) (b := 4) rfl (by decide) c8
        refine wp_if (fun c9 => ?_) (fun c9 => ?_)
        · have c9 := cv_eq (a := v2_1.toInt) (b := 0) rfl (by decide) c9
          unfold bk_X9_isTold_47
          obtain ⟨w10, ew10⟩ : ∃ z : Int32, z = (0 : Int32) := ⟨_, rfl⟩
          have tw10 : w10.toInt = 0 := by rw [ew10]; decide
          rw [show bk_X9_isTold_48 o_me (lp_X9_isTold_13 o_me  N1) v1_1 v3_1 (0 : Int32) = bk_X9_isTold_48 o_me (lp_X9_isTold_13 o_me  N1) v1_1 v3_1 w10 from by rw [ew10]]
          unfold bk_X9_isTold_48
          refine wp_lt (fun x11 ex11 => ?_)
          have tx11 : x11.toInt = v3_1.toInt + 1 := by rw [ex11]; exact i32_add rfl (by decide) (by omega) (by omega)
          exact ih1 v1_1 w10 x11  ⟨by omega, by omega⟩ ⟨by omega, by omega⟩ ⟨by omega, by omega⟩ (by omega) (by omega) (by omega) (by omega)
        · have c9z := c9
          have c9 := cv_ne (a := v2_1.toInt) (b := 0) rfl (by decide) c9
          have t12 : (v1_1 + (1 : Int32)).toInt = v1_1.toInt + 1 := i32_add rfl (by decide) (by omega) (by omega)
          have t13 : ((v1_1 + (1 : Int32)) + v3_1).toInt = (v1_1 + (1 : Int32)).toInt + v3_1.toInt := i32_add rfl rfl (by omega) (by omega)
          refine wp_gd (zin_of (m := 400) rfl (by omega) (by omega)) ?_
          have rg14 := i32_rg (gA o_me 12 ((v1_1 + (1 : Int32)) + v3_1).toNatClampNeg)
          have t15 : ((gA o_me 12 ((v1_1 + (1 : Int32)) + v3_1).toNatClampNeg).toInt64).toInt = (gA o_me 12 ((v1_1 + (1 : Int32)) + v3_1).toNatClampNeg).toInt := Int32.toInt_toInt64 _
          refine wp_bd (s_X9_in ((gA o_me 12 ((v1_1 + (1 : Int32)) + v3_1).toNatClampNeg).toInt64) (0 : Int64) (9 : Int64)  ) (fun z16 hz16 => ?_)
          obtain ⟨hz16_0, hz16_1⟩ := hz16
          refine wp_if (fun c17 => ?_) (fun c17 => ?_)
          · have c17 := cv_eq (a := z16.toInt) (b := 0) rfl (by decide) c17
            unfold bk_X9_isTold_47
            obtain ⟨w18, ew18⟩ : ∃ z : Int32, z = (0 : Int32) := ⟨_, rfl⟩
            have tw18 : w18.toInt = 0 := by rw [ew18]; decide
            rw [show bk_X9_isTold_48 o_me (lp_X9_isTold_13 o_me  N1) v1_1 v3_1 (0 : Int32) = bk_X9_isTold_48 o_me (lp_X9_isTold_13 o_me  N1) v1_1 v3_1 w18 from by rw [ew18]]
            unfold bk_X9_isTold_48
            refine wp_lt (fun x19 ex19 => ?_)
            have tx19 : x19.toInt = v3_1.toInt + 1 := by rw [ex19]; exact i32_add rfl (by decide) (by omega) (by omega)
            exact ih1 v1_1 w18 x19  ⟨by omega, by omega⟩ ⟨by omega, by omega⟩ ⟨by omega, by omega⟩ (by omega) (by omega) (by omega) (by omega)
          · have c17z := c17
            have c17i := hz16_1 c17
            have c17 := cv_ne (a := z16.toInt) (b := 0) rfl (by decide) c17
            obtain ⟨w20, ew20⟩ : ∃ z : Int32, z = (1 : Int32) := ⟨_, rfl⟩
            have tw20 : w20.toInt = 1 := by rw [ew20]; decide
            rw [show bk_X9_isTold_48 o_me (lp_X9_isTold_13 o_me  N1) v1_1 v3_1 (1 : Int32) = bk_X9_isTold_48 o_me (lp_X9_isTold_13 o_me  N1) v1_1 v3_1 w20 from by rw [ew20]]
            unfold bk_X9_isTold_48
            refine wp_lt (fun x21 ex21 => ?_)
            have tx21 : x21.toInt = v3_1.toInt + 1 := by rw [ex21]; exact i32_add rfl (by decide) (by omega) (by omega)
            exact ih1 v1_1 w20 x21  ⟨by omega, by omega⟩ ⟨by omega, by omega⟩ ⟨by omega, by omega⟩ (by omega) (by omega) (by omega) (by omega)
  exact lp1 zfu p0 z1 (0 : Int32)  ⟨by omega, by omega⟩ ⟨by omega, by omega⟩ ⟨by decide, by decide⟩ (by omega) (by omega) (by omega) (by show _ < 100000; omega)

set_option maxHeartbeats 4000000 in
set_option maxRecDepth 100000 in
theorem s_X9_ladder (o_me : Ob) (p0 : Int32) (p1 : Int32) (hI_me : IvX9 o_me)  : wp (f_X9_ladder  o_me p0 p1) (fun (y : Int64 × Ob) => IvX9 y.2 ∧ Kp [8, 13, 14, 15, 16, 19, 20, 21, 23, 26, 29, 30, 38, 43, 59, 62] [3, 12, 42, 48, 50, 51] o_me y.2) := by
  have li0 : (-1 : Int64).toInt = (-1) := by decide
  have li1 : (0 : Int32).toInt = 0 := by decide
  have li2 : (0 : Int64).toInt = 0 := by decide
  have li3 : (1 : Int32).toInt = 1 := by decide
  have li4 : (1 : Int64).toInt = 1 := by decide
  have li5 : (2 : Int32).toInt = 2 := by decide
  have li6 : (5 : Int64).toInt = 5 := by decide
  have li7 : (60 : Int64).toInt = 60 := by decide
  unfold f_X9_ladder
  refine wp_lt (fun o1 eo1 => ?_)
  have hIo1 : IvX9 o1 := by rw [eo1]; exact hI_me
  have ko1_v : (gI o1 0).toInt = 0 := by rw [eo1]; exact (show ((0 : Int32)).toInt = _ from by decide)
  have hkpo1 : Kp [8, 13, 14, 15, 16, 19, 20, 21, 23, 26, 29, 30, 38, 43, 59, 62] [3, 12, 42, 48, 50, 51] o_me o1 := Kp.rf.trans (by rw [eo1]; exact Kp.sI (by decide))
  have rg2 := i32_rg p0
  have t3 : p0.toInt64.toInt = p0.toInt := Int32.toInt_toInt64 _
  refine wp_bd (s_X9_in p0.toInt64 (1 : Int64) (60 : Int64)  ) (fun z4 hz4 => ?_)
  obtain ⟨hz4_0, hz4_1⟩ := hz4
  refine wp_if (fun c5 => ?_) (fun c5 => ?_)
  · have c5 := cv_eq (a := z4.toInt) (b := 0) rfl (by decide) c5
    refine wp_some ?_
    exact (show IvX9 o1 ∧ Kp [8, 13, 14, 15, 16, 19, 20, 21, 23, 26, 29, 30, 38, 43, 59, 62] [3, 12, 42, 48, 50, 51] o_me o1 from ⟨hIo1, hkpo1⟩)
  · have c5z := c5
    have c5i := hz4_1 c5
    have c5 := cv_ne (a := z4.toInt) (b := 0) rfl (by decide) c5
    have rg6 := i32_rg p1
    have t7 : p1.toInt64.toInt = p1.toInt := Int32.toInt_toInt64 _
    refine wp_bd (s_X9_in p1.toInt64 (1 : Int64) (5 : Int64)  ) (fun z8 hz8 => ?_)
    obtain ⟨hz8_0, hz8_1⟩ := hz8
    refine wp_if (fun c9 => ?_) (fun c9 => ?_)
    · have c9 := cv_eq (a := z8.toInt) (b := 0) rfl (by decide) c9
      refine wp_some ?_
      exact (show IvX9 o1 ∧ Kp [8, 13, 14, 15, 16, 19, 20, 21, 23, 26, 29, 30, 38, 43, 59, 62] [3, 12, 42, 48, 50, 51] o_me o1 from ⟨hIo1, hkpo1⟩)
    · have c9z := c9
      have c9i := hz8_1 c9
      have c9 := cv_ne (a := z8.toInt) (b := 0) rfl (by decide) c9
      refine wp_lt (fun o10 eo10 => ?_)
      have hIo10 : IvX9 o10 := by rw [eo10]; exact hIo1
      have ko10_k11 : (gI o10 0).toInt = (gI o1 0).toInt := by rw [eo10]; rfl
      have hkpo10 : Kp [8, 13, 14, 15, 16, 19, 20, 21, 23, 26, 29, 30, 38, 43, 59, 62] [3, 12, 42, 48, 50, 51] o_me o10 := hkpo1.trans (by rw [eo10]; exact Kp.tM)
      have lp1 : ∀ (N1 : Nat) (v1_1 : Int32) (v2_1 : Int32) (v3_1 : Int32) (o_me_1 : Ob), IvX9 o_me_1 → Kp [8, 13, 14, 15, 16, 19, 20, 21, 23, 26, 29, 30, 38, 43, 59, 62] [3, 12, 42, 48, 50, 51] o_me o_me_1 → (1 ≤ v1_1.toInt ∧ v1_1.toInt ≤ 60) → (1 ≤ v2_1.toInt ∧ v2_1.toInt ≤ 5) → (1 ≤ v3_1.toInt ∧ v3_1.toInt ≤ 61) → (v3_1.toInt ≤ v1_1.toInt + 1) → (61 - v3_1.toInt).toNat < N1 → wp (lp_X9_ladder_42   N1 (v1_1, v2_1, v3_1, o_me_1)) (fun (y : Int64 × Ob) => IvX9 y.2 ∧ Kp [8, 13, 14, 15, 16, 19, 20, 21, 23, 26, 29, 30, 38, 43, 59, 62] [3, 12, 42, 48, 50, 51] o_me y.2) := by
        intro N1
        induction N1 with
        | zero =>
          intro v1_1 v2_1 v3_1 o_me_1 hI_me_1 hkp_me_1 hh12 hh13 hh14 hh15 hN1
          exact absurd hN1 (Nat.not_lt_zero _)
        | succ N1 ihx =>
          have ih1 := ihx
          intro v1_1 v2_1 v3_1 o_me_1 hI_me_1 hkp_me_1 hh12 hh13 hh14 hh15 hN1
          show wp (lb_X9_ladder_42   (lp_X9_ladder_42   N1) v1_1 v2_1 v3_1 o_me_1) (fun (y : Int64 × Ob) => IvX9 y.2 ∧ Kp [8, 13, 14, 15, 16, 19, 20, 21, 23, 26, 29, 30, 38, 43, 59, 62] [3, 12, 42, 48, 50, 51] o_me y.2)
          unfold lb_X9_ladder_42
          refine wp_if (fun c16 => ?_) (fun c16 => ?_)
          · have c16 := cv_gt (a := v3_1.toInt) (b := v1_1.toInt) rfl rfl c16
            refine wp_gd (zin_of (m := 61) rfl (by omega) (by omega)) ?_
            refine wp_some ?_
            exact (show IvX9 o_me_1 ∧ Kp [8, 13, 14, 15, 16, 19, 20, 21, 23, 26, 29, 30, 38, 43, 59, 62] [3, 12, 42, 48, 50, 51] o_me o_me_1 from ⟨hI_me_1, hkp_me_1⟩)
          · have c16 := cv_ngt (a := v3_1.toInt) (b := v1_1.toInt) rfl rfl c16
            refine wp_gd (zin_of (m := 61) rfl (by omega) (by omega)) ?_
            refine wp_lt (fun o17 eo17 => ?_)
            have hIo17 : IvX9 o17 := by rw [eo17]; exact hI_me_1
            have hkpo17 : Kp [8, 13, 14, 15, 16, 19, 20, 21, 23, 26, 29, 30, 38, 43, 59, 62] [3, 12, 42, 48, 50, 51] o_me o17 := hkp_me_1.trans (by rw [eo17]; exact Kp.tM)
            have lp2 : ∀ (N2 : Nat) (v1_2 : Int32) (v2_2 : Int32) (v3_2 : Int32) (v4_2 : Int32) (o_me_2 : Ob), IvX9 o_me_2 → Kp [8, 13, 14, 15, 16, 19, 20, 21, 23, 26, 29, 30, 38, 43, 59, 62] [3, 12, 42, 48, 50, 51] o_me o_me_2 → (1 ≤ v1_2.toInt ∧ v1_2.toInt ≤ 60) → (1 ≤ v2_2.toInt ∧ v2_2.toInt ≤ 5) → (1 ≤ v3_2.toInt ∧ v3_2.toInt ≤ 60) → (1 ≤ v4_2.toInt ∧ v4_2.toInt ≤ 6) → (v3_2.toInt ≤ v1_2.toInt + 0) → (v4_2.toInt ≤ v1_2.toInt + 1) → (v4_2.toInt ≤ v2_2.toInt + 1) → (v4_2.toInt ≤ v3_2.toInt + 1) → (v1_2.toInt ≤ v1_1.toInt + 0) → (v1_1.toInt ≤ v1_2.toInt + 0) → (v3_1.toInt ≤ v1_2.toInt + 0) → (v2_2.toInt ≤ v2_1.toInt + 0) → (v2_1.toInt ≤ v2_2.toInt + 0) → (v3_2.toInt ≤ v1_1.toInt + 0) → (v3_2.toInt ≤ v3_1.toInt + 0) → (v3_1.toInt ≤ v3_2.toInt + 0) → (6 - v4_2.toInt).toNat < N2 → wp (lp_X9_ladder_57  (lp_X9_ladder_42   N1) N2 (v1_2, v2_2, v3_2, v4_2, o_me_2)) (fun (y : Int64 × Ob) => IvX9 y.2 ∧ Kp [8, 13, 14, 15, 16, 19, 20, 21, 23, 26, 29, 30, 38, 43, 59, 62] [3, 12, 42, 48, 50, 51] o_me y.2) := by
              intro N2
              induction N2 with
              | zero =>
                intro v1_2 v2_2 v3_2 v4_2 o_me_2 hI_me_2 hkp_me_2 hh18 hh19 hh20 hh21 hh22 hh23 hh24 hh25 hh26 hh27 hh28 hh29 hh30 hh31 hh32 hh33 hN2
                exact absurd hN2 (Nat.not_lt_zero _)
              | succ N2 ihx =>
                have ih2 := ihx
                intro v1_2 v2_2 v3_2 v4_2 o_me_2 hI_me_2 hkp_me_2 hh18 hh19 hh20 hh21 hh22 hh23 hh24 hh25 hh26 hh27 hh28 hh29 hh30 hh31 hh32 hh33 hN2
                show wp (lb_X9_ladder_57  (lp_X9_ladder_42   N1) (lp_X9_ladder_57  (lp_X9_ladder_42   N1) N2) v1_2 v2_2 v3_2 v4_2 o_me_2) (fun (y : Int64 × Ob) => IvX9 y.2 ∧ Kp [8, 13, 14, 15, 16, 19, 20, 21, 23, 26, 29, 30, 38, 43, 59, 62] [3, 12, 42, 48, 50, 51] o_me y.2)
                unfold lb_X9_ladder_57
                refine wp_if (fun c34 => ?_) (fun c34 => ?_)
                · have c34 := cv_gt (a := v4_2.toInt) (b := v2_2.toInt) rfl rfl c34
                  unfold bk_X9_ladder_98
                  refine wp_lt (fun x35 ex35 => ?_)
                  have tx35 : x35.toInt = v3_2.toInt + 1 := by rw [ex35]; exact i32_add rfl (by decide) (by omega) (by omega)
                  exact ih1 v1_2 v2_2 x35 o_me_2 hI_me_2 hkp_me_2 ⟨by omega, by omega⟩ ⟨by omega, by omega⟩ ⟨by omega, by omega⟩ (by omega) (by omega)
                · have c34 := cv_ngt (a := v4_2.toInt) (b := v2_2.toInt) rfl rfl c34
                  refine wp_if (fun c36 => ?_) (fun c36 => ?_)
                  · have c36 := cv_gt (a := v4_2.toInt) (b := v3_2.toInt) rfl rfl c36
                    unfold bk_X9_ladder_98
                    refine wp_lt (fun x37 ex37 => ?_)
                    have tx37 : x37.toInt = v3_2.toInt + 1 := by rw [ex37]; exact i32_add rfl (by decide) (by omega) (by omega)
                    exact ih1 v1_2 v2_2 x37 o_me_2 hI_me_2 hkp_me_2 ⟨by omega, by omega⟩ ⟨by omega, by omega⟩ ⟨by omega, by omega⟩ (by omega) (by omega)
                  · have c36 := cv_ngt (a := v4_2.toInt) (b := v3_2.toInt) rfl rfl c36
                    refine wp_if (fun c38 => ?_) (fun c38 => ?_)
                    · have c38 := cv_eq (a := v3_2.toInt) (b := 2) rfl (by decide) c38
                      unfold bk_X9_ladder_98
                      refine wp_lt (fun x39 ex39 => ?_)
                      have tx39 : x39.toInt = v3_2.toInt + 1 := by rw [ex39]; exact i32_add rfl (by decide) (by omega) (by omega)
                      exact ih1 v1_2 v2_2 x39 o_me_2 hI_me_2 hkp_me_2 ⟨by omega, by omega⟩ ⟨by omega, by omega⟩ ⟨by omega, by omega⟩ (by omega) (by omega)
                    · have c38 := cv_ne (a := v3_2.toInt) (b := 2) rfl (by decide) c38
                      refine wp_gd (zin_of (m := 61) rfl (by omega) (by omega)) ?_
                      have t40 : (v3_2 - v4_2).toInt = v3_2.toInt - v4_2.toInt := i32_sub rfl rfl (by omega) (by omega)
                      refine wp_gd (zin_of (m := 61) rfl (by omega) (by omega)) ?_
                      refine wp_gd (zin_of (m := 61) rfl (by omega) (by omega)) ?_
                      refine wp_lt (fun o41 eo41 => ?_)
                      have hIo41 : IvX9 o41 := by rw [eo41]; exact hI_me_2
                      have hkpo41 : Kp [8, 13, 14, 15, 16, 19, 20, 21, 23, 26, 29, 30, 38, 43, 59, 62] [3, 12, 42, 48, 50, 51] o_me o41 := hkp_me_2.trans (by rw [eo41]; exact Kp.tM)
                      refine wp_lt (fun x42 ex42 => ?_)
                      have tx42 : x42.toInt = v4_2.toInt + 1 := by rw [ex42]; exact i32_add rfl (by decide) (by omega) (by omega)
                      exact ih2 v1_2 v2_2 v3_2 x42 o41 hIo41 hkpo41 ⟨by omega, by omega⟩ ⟨by omega, by omega⟩ ⟨by omega, by omega⟩ ⟨by omega, by omega⟩ (by omega) (by omega) (by omega) (by omega) (by omega) (by omega) (by omega) (by omega) (by omega) (by omega) (by omega) (by omega) (by omega)
            exact lp2 zfu v1_1 v2_1 v3_1 (1 : Int32) o17 hIo17 hkpo17 ⟨by omega, by omega⟩ ⟨by omega, by omega⟩ ⟨by omega, by omega⟩ ⟨by decide, by decide⟩ (by omega) (by omega) (by omega) (by omega) (by omega) (by omega) (by omega) (by omega) (by omega) (by omega) (by omega) (by omega) (by show _ < 100000; omega)
      exact lp1 zfu p0 p1 (1 : Int32) o10 hIo10 hkpo10 ⟨by omega, by omega⟩ ⟨by omega, by omega⟩ ⟨by decide, by decide⟩ (by omega) (by show _ < 100000; omega)

set_option maxHeartbeats 4000000 in
set_option maxRecDepth 100000 in
theorem s_X9_partAt (o_me : Ob) (hI_me : IvX9 o_me)  : wp (f_X9_partAt  o_me) (fun (y : Int32) => ((-1) ≤ y.toInt ∧ y.toInt ≤ 9)) := by
  have li0 : (-1 : Int32).toInt = (-1) := by decide
  have li1 : (0 : Int32).toInt = 0 := by decide
  have li2 : (1 : Int32).toInt = 1 := by decide
  have li3 : (9 : Int32).toInt = 9 := by decide
  unfold f_X9_partAt
  have lp1 : ∀ (N1 : Nat) (v1_1 : Int32) (v2_1 : Int32), ((-1) ≤ v1_1.toInt ∧ v1_1.toInt ≤ 9) → (0 ≤ v2_1.toInt ∧ v2_1.toInt ≤ 9) → (v1_1.toInt ≤ v2_1.toInt + 0) → (9 - v2_1.toInt).toNat < N1 → wp (lp_X9_partAt_4 o_me  N1 (v1_1, v2_1)) (fun (y : Int32) => ((-1) ≤ y.toInt ∧ y.toInt ≤ 9)) := by
    intro N1
    induction N1 with
    | zero =>
      intro v1_1 v2_1 hh1 hh2 hh3 hN1
      exact absurd hN1 (Nat.not_lt_zero _)
    | succ N1 ihx =>
      have ih1 := ihx
      intro v1_1 v2_1 hh1 hh2 hh3 hN1
      show wp (lb_X9_partAt_4 o_me  (lp_X9_partAt_4 o_me  N1) v1_1 v2_1) (fun (y : Int32) => ((-1) ≤ y.toInt ∧ y.toInt ≤ 9))
      unfold lb_X9_partAt_4
      refine wp_if (fun c4 => ?_) (fun c4 => ?_)
      · have c4 := cv_ge (a := v2_1.toInt) (b := 9) rfl (by decide) c4
        refine wp_some ?_
        exact (show ((-1) ≤ v1_1.toInt ∧ v1_1.toInt ≤ 9) from ⟨by omega, by omega⟩)
      · have c4 := cv_nge (a := v2_1.toInt) (b := 9) rfl (by decide) c4
        refine wp_gd (zin_of (m := 9) rfl (by omega) (by omega)) ?_
        refine wp_bd (s_X9_isWord o_me (gM o_me 31 v2_1.toNatClampNeg) hI_me ) (fun z5 hz5 => ?_)
        have hz5_0 := hz5
        refine wp_if (fun c6 => ?_) (fun c6 => ?_)
        · have c6 := cv_eq (a := z5.toInt) (b := 0) rfl (by decide) c6
          unfold bk_X9_partAt_30
          refine wp_lt (fun x7 ex7 => ?_)
          have tx7 : x7.toInt = v2_1.toInt + 1 := by rw [ex7]; exact i32_add rfl (by decide) (by omega) (by omega)
          exact ih1 v1_1 x7  ⟨by omega, by omega⟩ ⟨by omega, by omega⟩ (by omega) (by omega)
        · have c6z := c6
          have c6 := cv_ne (a := z5.toInt) (b := 0) rfl (by decide) c6
          have t8 : (v2_1 + (1 : Int32)).toInt = v2_1.toInt + 1 := i32_add rfl (by decide) (by omega) (by omega)
          obtain ⟨w9, ew9⟩ : ∃ z : Int32, z = v2_1 + (1 : Int32) := ⟨_, rfl⟩
          have tw9 : w9.toInt = (v2_1 + (1 : Int32)).toInt := by rw [ew9]
          rw [show bk_X9_partAt_30 o_me (lp_X9_partAt_4 o_me  N1) v2_1 (v2_1 + (1 : Int32)) = bk_X9_partAt_30 o_me (lp_X9_partAt_4 o_me  N1) v2_1 w9 from by rw [ew9]]
          unfold bk_X9_partAt_30
          refine wp_lt (fun x10 ex10 => ?_)
          have tx10 : x10.toInt = v2_1.toInt + 1 := by rw [ex10]; exact i32_add rfl (by decide) (by omega) (by omega)
          exact ih1 w9 x10  ⟨by omega, by omega⟩ ⟨by omega, by omega⟩ (by omega) (by omega)
  exact lp1 zfu (-1 : Int32) (0 : Int32)  ⟨by decide, by decide⟩ ⟨by decide, by decide⟩ (by omega) (by show _ < 100000; omega)

set_option maxHeartbeats 4000000 in
set_option maxRecDepth 100000 in
theorem s_X9_number (o_me : Ob) (p0 : Int64) (p1 : Int64) (hI_me : IvX9 o_me) (r0 : (gI o_me 15).toInt ≤ (gI o_me 13).toInt + 0) : wp (f_X9_number  o_me p0 p1) (fun (y : Int32 × Ob) => IvX9 y.2 ∧ Kp [8, 13, 20, 21, 23, 26, 29, 30, 38, 43, 59, 62] [3, 12, 42, 48, 50, 51] o_me y.2 ∧ ((gI y.2 15).toInt ≤ (gI y.2 13).toInt + 0)) := by
  have li0 : (0 : Int32).toInt = 0 := by decide
  have li1 : (1 : Int32).toInt = 1 := by decide
  have li2 : (2 : Int32).toInt = 2 := by decide
  unfold f_X9_number
  refine wp_lt (fun x1 ex1 => ?_)
  have tx1 : x1.toInt = ((gL o_me 17).toInt32).toInt := by rw [ex1]
  have t2 := igX9_16 hI_me
  refine wp_if (fun c3 => ?_) (fun c3 => ?_)
  · have c3 := cv_eq (a := (gI o_me 16).toInt) (b := 2) rfl (by decide) c3
    refine wp_bd (s_X9_in (gL o_me 17) p0 p1  ) (fun z4 hz4 => ?_)
    obtain ⟨hz4_0, hz4_1⟩ := hz4
    refine wp_if (fun c5 => ?_) (fun c5 => ?_)
    · have c5 := cv_eq (a := z4.toInt) (b := 0) rfl (by decide) c5
      unfold bk_X9_number_32
      obtain ⟨w6, ew6⟩ : ∃ z : Int32, z = (0 : Int32) := ⟨_, rfl⟩
      have tw6 : w6.toInt = 0 := by rw [ew6]; decide
      rw [show bk_X9_number_33   x1 (0 : Int32) o_me = bk_X9_number_33   x1 w6 o_me from by rw [ew6]]
      unfold bk_X9_number_33
      have t8 := igX9_15 hI_me
      have t9 := igX9_13 hI_me
      refine wp_bd (s_X9_must o_me w6 hI_me ⟨by omega, by omega⟩ (by omega)) (fun z7 hz7 => ?_)
      obtain ⟨hz7_0, hz7_1, hz7_2⟩ := hz7
      have hkpz7_me : Kp [8, 13, 20, 21, 23, 26, 29, 30, 38, 43, 59, 62] [3, 12, 42, 48, 50, 51] o_me z7 := Kp.rf.trans (hz7_1.mono (by decide) (by decide))
      have kz7_k10 : (gI z7 13).toInt = (gI o_me 13).toInt := congrArg Int32.toInt (hz7_1.1 13 (by decide))
      refine wp_some ?_
      have t11 := igX9_15 hz7_0
      exact (show IvX9 z7 ∧ Kp [8, 13, 20, 21, 23, 26, 29, 30, 38, 43, 59, 62] [3, 12, 42, 48, 50, 51] o_me z7 ∧ ((gI z7 15).toInt ≤ (gI z7 13).toInt + 0) from ⟨hz7_0, hkpz7_me, (by omega)⟩)
    · have c5z := c5
      have c5i := hz4_1 c5
      have c5 := cv_ne (a := z4.toInt) (b := 0) rfl (by decide) c5
      obtain ⟨w12, ew12⟩ : ∃ z : Int32, z = (1 : Int32) := ⟨_, rfl⟩
      have tw12 : w12.toInt = 1 := by rw [ew12]; decide
      rw [show bk_X9_number_33   x1 (1 : Int32) o_me = bk_X9_number_33   x1 w12 o_me from by rw [ew12]]
      unfold bk_X9_number_33
      have t14 := igX9_15 hI_me
      have t15 := igX9_13 hI_me
      refine wp_bd (s_X9_must o_me w12 hI_me ⟨by omega, by omega⟩ (by omega)) (fun z13 hz13 => ?_)
      obtain ⟨hz13_0, hz13_1, hz13_2⟩ := hz13
      have hkpz13_me : Kp [8, 13, 20, 21, 23, 26, 29, 30, 38, 43, 59, 62] [3, 12, 42, 48, 50, 51] o_me z13 := Kp.rf.trans (hz13_1.mono (by decide) (by decide))
      have kz13_k16 : (gI z13 13).toInt = (gI o_me 13).toInt := congrArg Int32.toInt (hz13_1.1 13 (by decide))
      refine wp_some ?_
      have t17 := igX9_15 hz13_0
      exact (show IvX9 z13 ∧ Kp [8, 13, 20, 21, 23, 26, 29, 30, 38, 43, 59, 62] [3, 12, 42, 48, 50, 51] o_me z13 ∧ ((gI z13 15).toInt ≤ (gI z13 13).toInt + 0) from ⟨hz13_0, hkpz13_me, (by omega)⟩)
  · have c3 := cv_ne (a := (gI o_me 16).toInt) (b := 2) rfl (by decide) c3
    unfold bk_X9_number_32
    obtain ⟨w18, ew18⟩ : ∃ z : Int32, z = (0 : Int32) := ⟨_, rfl⟩
    have tw18 : w18.toInt = 0 := by rw [ew18]; decide
    rw [show bk_X9_number_33   x1 (0 : Int32) o_me = bk_X9_number_33   x1 w18 o_me from by rw [ew18]]
    unfold bk_X9_number_33
    have t20 := igX9_15 hI_me
    have t21 := igX9_13 hI_me
    refine wp_bd (s_X9_must o_me w18 hI_me ⟨by omega, by omega⟩ (by omega)) (fun z19 hz19 => ?_)
    obtain ⟨hz19_0, hz19_1, hz19_2⟩ := hz19
    have hkpz19_me : Kp [8, 13, 20, 21, 23, 26, 29, 30, 38, 43, 59, 62] [3, 12, 42, 48, 50, 51] o_me z19 := Kp.rf.trans (hz19_1.mono (by decide) (by decide))
    have kz19_k22 : (gI z19 13).toInt = (gI o_me 13).toInt := congrArg Int32.toInt (hz19_1.1 13 (by decide))
    refine wp_some ?_
    have t23 := igX9_15 hz19_0
    exact (show IvX9 z19 ∧ Kp [8, 13, 20, 21, 23, 26, 29, 30, 38, 43, 59, 62] [3, 12, 42, 48, 50, 51] o_me z19 ∧ ((gI z19 15).toInt ≤ (gI z19 13).toInt + 0) from ⟨hz19_0, hkpz19_me, (by omega)⟩)

set_option maxHeartbeats 4000000 in
set_option maxRecDepth 100000 in
theorem s_X9_orderPartAt (o_me : Ob) (hI_me : IvX9 o_me)  : wp (f_X9_orderPartAt  o_me) (fun (y : Int32) => ((-1) ≤ y.toInt ∧ y.toInt ≤ 7)) := by
  have li0 : (-1 : Int32).toInt = (-1) := by decide
  have li1 : (0 : Int32).toInt = 0 := by decide
  have li2 : (1 : Int32).toInt = 1 := by decide
  have li3 : (7 : Int32).toInt = 7 := by decide
  unfold f_X9_orderPartAt
  have lp1 : ∀ (N1 : Nat) (v1_1 : Int32) (v2_1 : Int32), ((-1) ≤ v1_1.toInt ∧ v1_1.toInt ≤ 7) → (0 ≤ v2_1.toInt ∧ v2_1.toInt ≤ 7) → (v1_1.toInt ≤ v2_1.toInt + 0) → (7 - v2_1.toInt).toNat < N1 → wp (lp_X9_orderPartAt_4 o_me  N1 (v1_1, v2_1)) (fun (y : Int32) => ((-1) ≤ y.toInt ∧ y.toInt ≤ 7)) := by
    intro N1
    induction N1 with
    | zero =>
      intro v1_1 v2_1 hh1 hh2 hh3 hN1
      exact absurd hN1 (Nat.not_lt_zero _)
    | succ N1 ihx =>
      have ih1 := ihx
      intro v1_1 v2_1 hh1 hh2 hh3 hN1
      show wp (lb_X9_orderPartAt_4 o_me  (lp_X9_orderPartAt_4 o_me  N1) v1_1 v2_1) (fun (y : Int32) => ((-1) ≤ y.toInt ∧ y.toInt ≤ 7))
      unfold lb_X9_orderPartAt_4
      refine wp_if (fun c4 => ?_) (fun c4 => ?_)
      · have c4 := cv_ge (a := v2_1.toInt) (b := 7) rfl (by decide) c4
        refine wp_some ?_
        exact (show ((-1) ≤ v1_1.toInt ∧ v1_1.toInt ≤ 7) from ⟨by omega, by omega⟩)
      · have c4 := cv_nge (a := v2_1.toInt) (b := 7) rfl (by decide) c4
        refine wp_gd (zin_of (m := 7) rfl (by omega) (by omega)) ?_
        refine wp_bd (s_X9_isWord o_me (gM o_me 32 v2_1.toNatClampNeg) hI_me ) (fun z5 hz5 => ?_)
        have hz5_0 := hz5
        refine wp_if (fun c6 => ?_) (fun c6 => ?_)
        · have c6 := cv_eq (a := z5.toInt) (b := 0) rfl (by decide) c6
          unfold bk_X9_orderPartAt_30
          refine wp_lt (fun x7 ex7 => ?_)
          have tx7 : x7.toInt = v2_1.toInt + 1 := by rw [ex7]; exact i32_add rfl (by decide) (by omega) (by omega)
          exact ih1 v1_1 x7  ⟨by omega, by omega⟩ ⟨by omega, by omega⟩ (by omega) (by omega)
        · have c6z := c6
          have c6 := cv_ne (a := z5.toInt) (b := 0) rfl (by decide) c6
          have t8 : (v2_1 + (1 : Int32)).toInt = v2_1.toInt + 1 := i32_add rfl (by decide) (by omega) (by omega)
          obtain ⟨w9, ew9⟩ : ∃ z : Int32, z = v2_1 + (1 : Int32) := ⟨_, rfl⟩
          have tw9 : w9.toInt = (v2_1 + (1 : Int32)).toInt := by rw [ew9]
          rw [show bk_X9_orderPartAt_30 o_me (lp_X9_orderPartAt_4 o_me  N1) v2_1 (v2_1 + (1 : Int32)) = bk_X9_orderPartAt_30 o_me (lp_X9_orderPartAt_4 o_me  N1) v2_1 w9 from by rw [ew9]]
          unfold bk_X9_orderPartAt_30
          refine wp_lt (fun x10 ex10 => ?_)
          have tx10 : x10.toInt = v2_1.toInt + 1 := by rw [ex10]; exact i32_add rfl (by decide) (by omega) (by omega)
          exact ih1 w9 x10  ⟨by omega, by omega⟩ ⟨by omega, by omega⟩ (by omega) (by omega)
  exact lp1 zfu (-1 : Int32) (0 : Int32)  ⟨by decide, by decide⟩ ⟨by decide, by decide⟩ (by omega) (by show _ < 100000; omega)

set_option maxHeartbeats 4000000 in
set_option maxRecDepth 100000 in
theorem s_X9_seen (o_me : Ob) (p0 : Int32) (p1 : Int32) (hI_me : IvX9 o_me)  : wp (f_X9_seen  o_me p0 p1) (fun (y : Int32 × Ob) => ((-6) ≤ y.1.toInt ∧ y.1.toInt ≤ 2147483647) ∧ IvX9 y.2 ∧ Kp [8, 13, 14, 15, 16, 19, 20, 21, 23, 26, 29, 30, 38, 43, 59, 62] [12, 42, 48, 50, 51] o_me y.2) := by
  have li0 : (-1 : Int32).toInt = (-1) := by decide
  have li1 : (-5 : Int32).toInt = (-5) := by decide
  have li2 : (0 : Int32).toInt = 0 := by decide
  have li3 : (0 : Int64).toInt = 0 := by decide
  have li4 : (1 : Int32).toInt = 1 := by decide
  have li5 : (2 : Int32).toInt = 2 := by decide
  have li6 : (6 : Int32).toInt = 6 := by decide
  have li7 : (71 : Int32).toInt = 71 := by decide
  have li8 : (9 : Int64).toInt = 9 := by decide
  unfold f_X9_seen
  refine wp_lt (fun o1 eo1 => ?_)
  have hIo1 : IvX9 o1 := by rw [eo1]; exact hI_me
  have ko1_v : (gI o1 0).toInt = 0 := by rw [eo1]; exact (show ((0 : Int32)).toInt = _ from by decide)
  have hkpo1 : Kp [8, 13, 14, 15, 16, 19, 20, 21, 23, 26, 29, 30, 38, 43, 59, 62] [12, 42, 48, 50, 51] o_me o1 := Kp.rf.trans (by rw [eo1]; exact Kp.sI (by decide))
  refine wp_bd (s_X9_isRace p0  ) (fun z2 hz2 => ?_)
  obtain ⟨hz2_0, hz2_1⟩ := hz2
  refine wp_if (fun c3 => ?_) (fun c3 => ?_)
  · have c3 := cv_eq (a := z2.toInt) (b := 0) rfl (by decide) c3
    unfold bk_X9_seen_24
    refine wp_bd (s_X9_tell o1 (-1 : Int32) hIo1 ⟨by decide, by decide⟩) (fun z4 hz4 => ?_)
    obtain ⟨hz4_0, hz4_1, hz4_2⟩ := hz4
    have hkpz4_me : Kp [8, 13, 14, 15, 16, 19, 20, 21, 23, 26, 29, 30, 38, 43, 59, 62] [12, 42, 48, 50, 51] o_me z4.2 := hkpo1.trans (hz4_2.mono (by decide) (by decide))
    refine wp_some ?_
    have rg5 := i32_rg z4.1
    exact (show ((-6) ≤ z4.1.toInt ∧ z4.1.toInt ≤ 2147483647) ∧ IvX9 z4.2 ∧ Kp [8, 13, 14, 15, 16, 19, 20, 21, 23, 26, 29, 30, 38, 43, 59, 62] [12, 42, 48, 50, 51] o_me z4.2 from ⟨⟨by omega, by omega⟩, hz4_1, hkpz4_me⟩)
  · have c3z := c3
    have c3i := hz2_1 c3
    have c3 := cv_ne (a := z2.toInt) (b := 0) rfl (by decide) c3
    have rg6 := i32_rg p1
    have t7 : p1.toInt64.toInt = p1.toInt := Int32.toInt_toInt64 _
    refine wp_bd (s_X9_in p1.toInt64 (0 : Int64) (9 : Int64)  ) (fun z8 hz8 => ?_)
    obtain ⟨hz8_0, hz8_1⟩ := hz8
    refine wp_if (fun c9 => ?_) (fun c9 => ?_)
    · have c9 := cv_eq (a := z8.toInt) (b := 0) rfl (by decide) c9
      unfold bk_X9_seen_24
      refine wp_bd (s_X9_tell o1 (-1 : Int32) hIo1 ⟨by decide, by decide⟩) (fun z10 hz10 => ?_)
      obtain ⟨hz10_0, hz10_1, hz10_2⟩ := hz10
      have hkpz10_me : Kp [8, 13, 14, 15, 16, 19, 20, 21, 23, 26, 29, 30, 38, 43, 59, 62] [12, 42, 48, 50, 51] o_me z10.2 := hkpo1.trans (hz10_2.mono (by decide) (by decide))
      refine wp_some ?_
      have rg11 := i32_rg z10.1
      exact (show ((-6) ≤ z10.1.toInt ∧ z10.1.toInt ≤ 2147483647) ∧ IvX9 z10.2 ∧ Kp [8, 13, 14, 15, 16, 19, 20, 21, 23, 26, 29, 30, 38, 43, 59, 62] [12, 42, 48, 50, 51] o_me z10.2 from ⟨⟨by omega, by omega⟩, hz10_1, hkpz10_me⟩)
    · have c9z := c9
      have c9i := hz8_1 c9
      have c9 := cv_ne (a := z8.toInt) (b := 0) rfl (by decide) c9
      have t12 := iaX9_3_1 hIo1 (j := (1 : Int32)) (by decide) (by decide)
      refine wp_lt (fun x13 ex13 => ?_)
      have tx13 : x13.toInt = (gA o1 3 (1 : Int32).toNatClampNeg).toInt := by rw [ex13]
      refine wp_if (fun c14 => ?_) (fun c14 => ?_)
      · have c14 := cv_eq (a := x13.toInt) (b := 6) rfl (by decide) c14
        refine wp_bd (s_X9_tell o1 (-5 : Int32) hIo1 ⟨by decide, by decide⟩) (fun z15 hz15 => ?_)
        obtain ⟨hz15_0, hz15_1, hz15_2⟩ := hz15
        have hkpz15_me : Kp [8, 13, 14, 15, 16, 19, 20, 21, 23, 26, 29, 30, 38, 43, 59, 62] [12, 42, 48, 50, 51] o_me z15.2 := hkpo1.trans (hz15_2.mono (by decide) (by decide))
        have kz15_k16 : (gA z15.2 3 (1 : Int32).toNatClampNeg).toInt = (gA o1 3 (1 : Int32).toNatClampNeg).toInt := congrArg (fun g => (g (1 : Int32).toNatClampNeg).toInt) (hz15_2.2 3 (by decide))
        refine wp_some ?_
        have rg17 := i32_rg z15.1
        exact (show ((-6) ≤ z15.1.toInt ∧ z15.1.toInt ≤ 2147483647) ∧ IvX9 z15.2 ∧ Kp [8, 13, 14, 15, 16, 19, 20, 21, 23, 26, 29, 30, 38, 43, 59, 62] [12, 42, 48, 50, 51] o_me z15.2 from ⟨⟨by omega, by omega⟩, hz15_1, hkpz15_me⟩)
      · have c14 := cv_ne (a := x13.toInt) (b := 6) rfl (by decide) c14
        have t18 : ((2 : Int32) * x13).toInt = 2 * x13.toInt := i32_mul (by decide) rfl (by omega) (by omega)
        have t19 : ((71 : Int32) + ((2 : Int32) * x13)).toInt = 71 + ((2 : Int32) * x13).toInt := i32_add (by decide) rfl (by omega) (by omega)
        refine wp_gd (zin_of (m := 5484) rfl (by omega) (by omega)) ?_
        refine wp_lt (fun o20 eo20 => ?_)
        have hIo20 : IvX9 o20 := by rw [eo20]; exact ibX9_3 hIo1 (by omega) (Or.inr (Or.inl (by first | omega | decide))) (Or.inr (Or.inl (by first | omega | decide))) (Or.inr (Or.inl (by first | omega | decide))) (Or.inr (Or.inl (by first | omega | decide))) (Or.inr (Or.inl (by first | omega | decide))) (Or.inr (Or.inl (by first | omega | decide))) (Or.inr (Or.inl (by first | omega | decide))) (Or.inr (Or.inl (by first | omega | decide))) (Or.inr (Or.inr ⟨by omega, by omega⟩))
        have ko20_k21 : (gA o20 3 (1 : Int32).toNatClampNeg).toInt = (gA o1 3 (1 : Int32).toNatClampNeg).toInt := by rw [eo20]; exact congrArg Int32.toInt (upd_ne (g := gA o1 3) (i := ((71 : Int32) + ((2 : Int32) * x13))) (j := (1 : Int32)) (v := p0) (by omega) (by decide) (by omega))
        have ko20_k22 : (gI o20 0).toInt = (gI o1 0).toInt := by rw [eo20]; rfl
        have ko20_v : (gA o20 3 ((71 : Int32) + ((2 : Int32) * x13)).toNatClampNeg).toInt = p0.toInt := by rw [eo20]; exact congrArg Int32.toInt (upd_eq (g := gA o1 3) (i := ((71 : Int32) + ((2 : Int32) * x13))) (v := p0))
        have hkpo20 : Kp [8, 13, 14, 15, 16, 19, 20, 21, 23, 26, 29, 30, 38, 43, 59, 62] [12, 42, 48, 50, 51] o_me o20 := hkpo1.trans (by rw [eo20]; exact Kp.tA (by decide))
        have t23 : (((71 : Int32) + ((2 : Int32) * x13)) + (1 : Int32)).toInt = ((71 : Int32) + ((2 : Int32) * x13)).toInt + 1 := i32_add rfl (by decide) (by omega) (by omega)
        refine wp_gd (zin_of (m := 5484) rfl (by omega) (by omega)) ?_
        refine wp_lt (fun o24 eo24 => ?_)
        have hIo24 : IvX9 o24 := by rw [eo24]; exact ibX9_3 hIo20 (by omega) (Or.inr (Or.inl (by first | omega | decide))) (Or.inr (Or.inl (by first | omega | decide))) (Or.inr (Or.inl (by first | omega | decide))) (Or.inr (Or.inl (by first | omega | decide))) (Or.inr (Or.inl (by first | omega | decide))) (Or.inr (Or.inl (by first | omega | decide))) (Or.inr (Or.inl (by first | omega | decide))) (Or.inr (Or.inl (by first | omega | decide))) (Or.inr (Or.inr ⟨by omega, by omega⟩))
        have ko24_k25 : (gA o24 3 (1 : Int32).toNatClampNeg).toInt = (gA o20 3 (1 : Int32).toNatClampNeg).toInt := by rw [eo24]; exact congrArg Int32.toInt (upd_ne (g := gA o20 3) (i := (((71 : Int32) + ((2 : Int32) * x13)) + (1 : Int32))) (j := (1 : Int32)) (v := p1) (by omega) (by decide) (by omega))
        have ko24_k26 : (gI o24 0).toInt = (gI o20 0).toInt := by rw [eo24]; rfl
        have ko24_v : (gA o24 3 (((71 : Int32) + ((2 : Int32) * x13)) + (1 : Int32)).toNatClampNeg).toInt = p1.toInt := by rw [eo24]; exact congrArg Int32.toInt (upd_eq (g := gA o20 3) (i := (((71 : Int32) + ((2 : Int32) * x13)) + (1 : Int32))) (v := p1))
        have hkpo24 : Kp [8, 13, 14, 15, 16, 19, 20, 21, 23, 26, 29, 30, 38, 43, 59, 62] [12, 42, 48, 50, 51] o_me o24 := hkpo20.trans (by rw [eo24]; exact Kp.tA (by decide))
        have t27 : ((gA o24 3 (1 : Int32).toNatClampNeg) + (1 : Int32)).toInt = (gA o24 3 (1 : Int32).toNatClampNeg).toInt + 1 := i32_add rfl (by decide) (by omega) (by omega)
        refine wp_lt (fun o28 eo28 => ?_)
        have hIo28 : IvX9 o28 := by rw [eo28]; exact ibX9_3 hIo24 (by decide) (Or.inr (Or.inl (by first | omega | decide))) (Or.inr (Or.inr ⟨by omega, by omega⟩)) (Or.inl (by first | omega | decide)) (Or.inl (by first | omega | decide)) (Or.inl (by first | omega | decide)) (Or.inl (by first | omega | decide)) (Or.inl (by first | omega | decide)) (Or.inl (by first | omega | decide)) (Or.inl (by first | omega | decide))
        have ko28_k29 : (gA o28 3 (((71 : Int32) + ((2 : Int32) * x13)) + (1 : Int32)).toNatClampNeg).toInt = (gA o24 3 (((71 : Int32) + ((2 : Int32) * x13)) + (1 : Int32)).toNatClampNeg).toInt := by rw [eo28]; exact congrArg Int32.toInt (upd_ne (g := gA o24 3) (i := (1 : Int32)) (j := (((71 : Int32) + ((2 : Int32) * x13)) + (1 : Int32))) (v := ((gA o24 3 (1 : Int32).toNatClampNeg) + (1 : Int32))) (by decide) (by omega) (by omega))
        have ko28_k30 : (gI o28 0).toInt = (gI o24 0).toInt := by rw [eo28]; rfl
        have ko28_v : (gA o28 3 (1 : Int32).toNatClampNeg).toInt = ((gA o24 3 (1 : Int32).toNatClampNeg) + (1 : Int32)).toInt := by rw [eo28]; exact congrArg Int32.toInt (upd_eq (g := gA o24 3) (i := (1 : Int32)) (v := ((gA o24 3 (1 : Int32).toNatClampNeg) + (1 : Int32))))
        have hkpo28 : Kp [8, 13, 14, 15, 16, 19, 20, 21, 23, 26, 29, 30, 38, 43, 59, 62] [12, 42, 48, 50, 51] o_me o28 := hkpo24.trans (by rw [eo28]; exact Kp.tA (by decide))
        have t31 : (x13 + (1 : Int32)).toInt = x13.toInt + 1 := i32_add rfl (by decide) (by omega) (by omega)
        have rg33 := i32_rg (x13 + (1 : Int32))
        refine wp_bd (s_X9_tell o28 (x13 + (1 : Int32)) hIo28 ⟨by omega, by omega⟩) (fun z32 hz32 => ?_)
        obtain ⟨hz32_0, hz32_1, hz32_2⟩ := hz32
        have hkpz32_me : Kp [8, 13, 14, 15, 16, 19, 20, 21, 23, 26, 29, 30, 38, 43, 59, 62] [12, 42, 48, 50, 51] o_me z32.2 := hkpo28.trans (hz32_2.mono (by decide) (by decide))
        have kz32_k34 : (gA z32.2 3 (((71 : Int32) + ((2 : Int32) * x13)) + (1 : Int32)).toNatClampNeg).toInt = (gA o28 3 (((71 : Int32) + ((2 : Int32) * x13)) + (1 : Int32)).toNatClampNeg).toInt := congrArg (fun g => (g (((71 : Int32) + ((2 : Int32) * x13)) + (1 : Int32)).toNatClampNeg).toInt) (hz32_2.2 3 (by decide))
        have kz32_k35 : (gA z32.2 3 (1 : Int32).toNatClampNeg).toInt = (gA o28 3 (1 : Int32).toNatClampNeg).toInt := congrArg (fun g => (g (1 : Int32).toNatClampNeg).toInt) (hz32_2.2 3 (by decide))
        refine wp_some ?_
        have rg36 := i32_rg z32.1
        exact (show ((-6) ≤ z32.1.toInt ∧ z32.1.toInt ≤ 2147483647) ∧ IvX9 z32.2 ∧ Kp [8, 13, 14, 15, 16, 19, 20, 21, 23, 26, 29, 30, 38, 43, 59, 62] [12, 42, 48, 50, 51] o_me z32.2 from ⟨⟨by omega, by omega⟩, hz32_1, hkpz32_me⟩)

set_option maxHeartbeats 4000000 in
set_option maxRecDepth 100000 in
theorem s_X9_status (o_me : Ob) (hI_me : IvX9 o_me)  : wp (f_X9_status  o_me) (fun (y : Int32 × Ob) => IvX9 y.2 ∧ Kp [8, 13, 14, 15, 16, 19, 20, 21, 23, 26, 29, 30, 38, 43, 59, 62] [3, 12, 42, 48, 50, 51] o_me y.2) := by
  have li0 : (0 : Int32).toInt = 0 := by decide
  unfold f_X9_status
  refine wp_lt (fun o1 eo1 => ?_)
  have hIo1 : IvX9 o1 := by rw [eo1]; exact hI_me
  have ko1_v : (gI o1 0).toInt = 0 := by rw [eo1]; exact (show ((0 : Int32)).toInt = _ from by decide)
  have hkpo1 : Kp [8, 13, 14, 15, 16, 19, 20, 21, 23, 26, 29, 30, 38, 43, 59, 62] [3, 12, 42, 48, 50, 51] o_me o1 := Kp.rf.trans (by rw [eo1]; exact Kp.sI (by decide))
  refine wp_some ?_
  exact (show IvX9 o1 ∧ Kp [8, 13, 14, 15, 16, 19, 20, 21, 23, 26, 29, 30, 38, 43, 59, 62] [3, 12, 42, 48, 50, 51] o_me o1 from ⟨hIo1, hkpo1⟩)

set_option maxHeartbeats 4000000 in
set_option maxRecDepth 100000 in
theorem s_X9_stopped (o_me : Ob) (hI_me : IvX9 o_me)  : wp (f_X9_stopped  o_me) (fun (y : Int32 × Ob) => IvX9 y.2 ∧ Kp [8, 13, 14, 15, 16, 19, 20, 21, 23, 26, 29, 30, 38, 43, 59, 62] [3, 12, 42, 48, 50, 51] o_me y.2) := by
  have li0 : (0 : Int32).toInt = 0 := by decide
  unfold f_X9_stopped
  refine wp_lt (fun o1 eo1 => ?_)
  have hIo1 : IvX9 o1 := by rw [eo1]; exact hI_me
  have ko1_v : (gI o1 0).toInt = 0 := by rw [eo1]; exact (show ((0 : Int32)).toInt = _ from by decide)
  have hkpo1 : Kp [8, 13, 14, 15, 16, 19, 20, 21, 23, 26, 29, 30, 38, 43, 59, 62] [3, 12, 42, 48, 50, 51] o_me o1 := Kp.rf.trans (by rw [eo1]; exact Kp.sI (by decide))
  refine wp_some ?_
  exact (show IvX9 o1 ∧ Kp [8, 13, 14, 15, 16, 19, 20, 21, 23, 26, 29, 30, 38, 43, 59, 62] [3, 12, 42, 48, 50, 51] o_me o1 from ⟨hIo1, hkpo1⟩)

set_option maxHeartbeats 4000000 in
set_option maxRecDepth 100000 in
theorem s_X9_strength (o_me : Ob) (p0 : Int32) (p1 : Int32) (p2 : Int32) (hI_me : IvX9 o_me)  : wp (f_X9_strength  o_me p0 p1 p2) (fun (y : Int32 × Ob) => IvX9 y.2 ∧ Kp [8, 13, 14, 15, 16, 19, 20, 21, 23, 26, 29, 30, 38, 43, 59, 62] [12, 42, 48, 50, 51] o_me y.2) := by
  have li0 : (-1 : Int32).toInt = (-1) := by decide
  have li1 : (-2 : Int32).toInt = (-2) := by decide
  have li2 : (0 : Int32).toInt = 0 := by decide
  have li3 : (0 : Int64).toInt = 0 := by decide
  have li4 : (36 : Int32).toInt = 36 := by decide
  have li5 : (4 : Int32).toInt = 4 := by decide
  have li6 : (9 : Int64).toInt = 9 := by decide
  unfold f_X9_strength
  refine wp_lt (fun o1 eo1 => ?_)
  have hIo1 : IvX9 o1 := by rw [eo1]; exact hI_me
  have ko1_v : (gI o1 0).toInt = 0 := by rw [eo1]; exact (show ((0 : Int32)).toInt = _ from by decide)
  have hkpo1 : Kp [8, 13, 14, 15, 16, 19, 20, 21, 23, 26, 29, 30, 38, 43, 59, 62] [12, 42, 48, 50, 51] o_me o1 := Kp.rf.trans (by rw [eo1]; exact Kp.sI (by decide))
  refine wp_bd (s_X9_isRace p1  ) (fun z2 hz2 => ?_)
  obtain ⟨hz2_0, hz2_1⟩ := hz2
  refine wp_if (fun c3 => ?_) (fun c3 => ?_)
  · have c3 := cv_eq (a := z2.toInt) (b := 0) rfl (by decide) c3
    unfold bk_X9_strength_24
    refine wp_bd (s_X9_tell o1 (-1 : Int32) hIo1 ⟨by decide, by decide⟩) (fun z4 hz4 => ?_)
    obtain ⟨hz4_0, hz4_1, hz4_2⟩ := hz4
    have hkpz4_me : Kp [8, 13, 14, 15, 16, 19, 20, 21, 23, 26, 29, 30, 38, 43, 59, 62] [12, 42, 48, 50, 51] o_me z4.2 := hkpo1.trans (hz4_2.mono (by decide) (by decide))
    refine wp_some ?_
    exact (show IvX9 z4.2 ∧ Kp [8, 13, 14, 15, 16, 19, 20, 21, 23, 26, 29, 30, 38, 43, 59, 62] [12, 42, 48, 50, 51] o_me z4.2 from ⟨hz4_1, hkpz4_me⟩)
  · have c3z := c3
    have c3i := hz2_1 c3
    have c3 := cv_ne (a := z2.toInt) (b := 0) rfl (by decide) c3
    have rg5 := i32_rg p2
    have t6 : p2.toInt64.toInt = p2.toInt := Int32.toInt_toInt64 _
    refine wp_bd (s_X9_in p2.toInt64 (0 : Int64) (9 : Int64)  ) (fun z7 hz7 => ?_)
    obtain ⟨hz7_0, hz7_1⟩ := hz7
    refine wp_if (fun c8 => ?_) (fun c8 => ?_)
    · have c8 := cv_eq (a := z7.toInt) (b := 0) rfl (by decide) c8
      unfold bk_X9_strength_24
      refine wp_bd (s_X9_tell o1 (-1 : Int32) hIo1 ⟨by decide, by decide⟩) (fun z9 hz9 => ?_)
      obtain ⟨hz9_0, hz9_1, hz9_2⟩ := hz9
      have hkpz9_me : Kp [8, 13, 14, 15, 16, 19, 20, 21, 23, 26, 29, 30, 38, 43, 59, 62] [12, 42, 48, 50, 51] o_me z9.2 := hkpo1.trans (hz9_2.mono (by decide) (by decide))
      refine wp_some ?_
      exact (show IvX9 z9.2 ∧ Kp [8, 13, 14, 15, 16, 19, 20, 21, 23, 26, 29, 30, 38, 43, 59, 62] [12, 42, 48, 50, 51] o_me z9.2 from ⟨hz9_1, hkpz9_me⟩)
    · have c8z := c8
      have c8i := hz7_1 c8
      have c8 := cv_ne (a := z7.toInt) (b := 0) rfl (by decide) c8
      refine wp_bd (s_X9_isPerson o1 p0 hIo1 ) (fun z10 hz10 => ?_)
      obtain ⟨hz10_0, hz10_1⟩ := hz10
      refine wp_if (fun c11 => ?_) (fun c11 => ?_)
      · have c11 := cv_eq (a := z10.toInt) (b := 0) rfl (by decide) c11
        refine wp_bd (s_X9_tell o1 (-2 : Int32) hIo1 ⟨by decide, by decide⟩) (fun z12 hz12 => ?_)
        obtain ⟨hz12_0, hz12_1, hz12_2⟩ := hz12
        have hkpz12_me : Kp [8, 13, 14, 15, 16, 19, 20, 21, 23, 26, 29, 30, 38, 43, 59, 62] [12, 42, 48, 50, 51] o_me z12.2 := hkpo1.trans (hz12_2.mono (by decide) (by decide))
        refine wp_some ?_
        exact (show IvX9 z12.2 ∧ Kp [8, 13, 14, 15, 16, 19, 20, 21, 23, 26, 29, 30, 38, 43, 59, 62] [12, 42, 48, 50, 51] o_me z12.2 from ⟨hz12_1, hkpz12_me⟩)
      · have c11z := c11
        have c11i := hz10_1 c11
        have c11 := cv_ne (a := z10.toInt) (b := 0) rfl (by decide) c11
        have t13 : ((4 : Int32) * p0).toInt = 4 * p0.toInt := i32_mul (by decide) rfl (by omega) (by omega)
        have t14 : ((36 : Int32) + ((4 : Int32) * p0)).toInt = 36 + ((4 : Int32) * p0).toInt := i32_add (by decide) rfl (by omega) (by omega)
        have t15 : (((36 : Int32) + ((4 : Int32) * p0)) + p1).toInt = ((36 : Int32) + ((4 : Int32) * p0)).toInt + p1.toInt := i32_add rfl rfl (by omega) (by omega)
        refine wp_bd (s_X9_change o1 (((36 : Int32) + ((4 : Int32) * p0)) + p1) p2 hIo1 ⟨by omega, by omega⟩) (fun z16 hz16 => ?_)
        obtain ⟨hz16_0, hz16_1⟩ := hz16
        have hkpz16_me : Kp [8, 13, 14, 15, 16, 19, 20, 21, 23, 26, 29, 30, 38, 43, 59, 62] [12, 42, 48, 50, 51] o_me z16.2 := hkpo1.trans (hz16_1.mono (by decide) (by decide))
        refine wp_some ?_
        exact (show IvX9 z16.2 ∧ Kp [8, 13, 14, 15, 16, 19, 20, 21, 23, 26, 29, 30, 38, 43, 59, 62] [12, 42, 48, 50, 51] o_me z16.2 from ⟨hz16_0, hkpz16_me⟩)

set_option maxHeartbeats 4000000 in
set_option maxRecDepth 100000 in
theorem s_X9_take (o_me : Ob) (p0 : Int32) (hI_me : IvX9 o_me)  : wp (f_X9_take  o_me p0) (fun (y : Int32 × Ob) => ((-6) ≤ y.1.toInt ∧ y.1.toInt ≤ 2147483647) ∧ IvX9 y.2 ∧ Kp [13, 14, 15, 16, 19, 20, 21, 23, 26, 29, 30, 38, 43, 59, 62] [12, 42, 48, 50, 51] o_me y.2) := by
  have li0 : (0 : Int32).toInt = 0 := by decide
  unfold f_X9_take
  refine wp_lt (fun o1 eo1 => ?_)
  have hIo1 : IvX9 o1 := by rw [eo1]; exact hI_me
  have ko1_v : (gI o1 0).toInt = 0 := by rw [eo1]; exact (show ((0 : Int32)).toInt = _ from by decide)
  have hkpo1 : Kp [13, 14, 15, 16, 19, 20, 21, 23, 26, 29, 30, 38, 43, 59, 62] [12, 42, 48, 50, 51] o_me o1 := Kp.rf.trans (by rw [eo1]; exact Kp.sI (by decide))
  refine wp_bd (s_X9_takeNow o1 p0 hIo1 ) (fun z2 hz2 => ?_)
  obtain ⟨hz2_0, hz2_1, hz2_2⟩ := hz2
  have hkpz2_me : Kp [13, 14, 15, 16, 19, 20, 21, 23, 26, 29, 30, 38, 43, 59, 62] [12, 42, 48, 50, 51] o_me z2.2 := hkpo1.trans (hz2_2.mono (by decide) (by decide))
  have rg4 := i32_rg z2.1
  refine wp_bd (s_X9_tell z2.2 z2.1 hz2_1 ⟨by omega, by omega⟩) (fun z3 hz3 => ?_)
  obtain ⟨hz3_0, hz3_1, hz3_2⟩ := hz3
  have hkpz3_me : Kp [13, 14, 15, 16, 19, 20, 21, 23, 26, 29, 30, 38, 43, 59, 62] [12, 42, 48, 50, 51] o_me z3.2 := hkpz2_me.trans (hz3_2.mono (by decide) (by decide))
  refine wp_some ?_
  have rg5 := i32_rg z3.1
  exact (show ((-6) ≤ z3.1.toInt ∧ z3.1.toInt ≤ 2147483647) ∧ IvX9 z3.2 ∧ Kp [13, 14, 15, 16, 19, 20, 21, 23, 26, 29, 30, 38, 43, 59, 62] [12, 42, 48, 50, 51] o_me z3.2 from ⟨⟨by omega, by omega⟩, hz3_1, hkpz3_me⟩)

set_option maxHeartbeats 4000000 in
set_option maxRecDepth 100000 in
theorem s_X9_change_v1 (o_me : Ob) (p0 : Int32) (p1 : Int32) (hI_me : IvX9 o_me) (q0 : 4 ≤ p0.toInt ∧ p0.toInt ≤ 6) : wp (f_X9_change  o_me p0 p1) (fun (y : Int32 × Ob) => IvX9 y.2 ∧ Kp [8, 13, 14, 15, 16, 19, 20, 21, 23, 26, 29, 30, 38, 43, 59, 62] [12, 42, 48, 50, 51] o_me y.2) := by
  have li0 : (0 : Int32).toInt = 0 := by decide
  unfold f_X9_change
  refine wp_gd (zin_of (m := 5484) rfl (by omega) (by omega)) ?_
  refine wp_lt (fun x1 ex1 => ?_)
  have tx1 : x1.toInt = (gA o_me 3 p0.toNatClampNeg).toInt := by rw [ex1]
  refine wp_gd (zin_of (m := 5484) rfl (by omega) (by omega)) ?_
  refine wp_lt (fun o2 eo2 => ?_)
  have hIo2 : IvX9 o2 := by rw [eo2]; exact ibX9_3 hI_me (by omega) (Or.inr (Or.inl (by first | omega | decide))) (Or.inr (Or.inl (by first | omega | decide))) (Or.inr (Or.inl (by first | omega | decide))) (Or.inr (Or.inl (by first | omega | decide))) (Or.inl (by first | omega | decide)) (Or.inl (by first | omega | decide)) (Or.inl (by first | omega | decide)) (Or.inl (by first | omega | decide)) (Or.inl (by first | omega | decide))
  have ko2_v : (gA o2 3 p0.toNatClampNeg).toInt = p1.toInt := by rw [eo2]; exact congrArg Int32.toInt (upd_eq (g := gA o_me 3) (i := p0) (v := p1))
  have hkpo2 : Kp [8, 13, 14, 15, 16, 19, 20, 21, 23, 26, 29, 30, 38, 43, 59, 62] [12, 42, 48, 50, 51] o_me o2 := Kp.rf.trans (by rw [eo2]; exact Kp.tA (by decide))
  refine wp_lt (fun o3 eo3 => ?_)
  have hIo3 : IvX9 o3 := by rw [eo3]; exact hIo2
  have ko3_k4 : (gA o3 3 p0.toNatClampNeg).toInt = (gA o2 3 p0.toNatClampNeg).toInt := by rw [eo3]; rfl
  have ko3_v : (gI o3 1).toInt = 0 := by rw [eo3]; exact (show ((0 : Int32)).toInt = _ from by decide)
  have hkpo3 : Kp [8, 13, 14, 15, 16, 19, 20, 21, 23, 26, 29, 30, 38, 43, 59, 62] [12, 42, 48, 50, 51] o_me o3 := hkpo2.trans (by rw [eo3]; exact Kp.sI (by decide))
  refine wp_some ?_
  exact (show IvX9 o3 ∧ Kp [8, 13, 14, 15, 16, 19, 20, 21, 23, 26, 29, 30, 38, 43, 59, 62] [12, 42, 48, 50, 51] o_me o3 from ⟨hIo3, hkpo3⟩)

set_option maxHeartbeats 4000000 in
set_option maxRecDepth 100000 in
theorem s_X9_terms (o_me : Ob) (p0 : Int32) (p1 : Int32) (hI_me : IvX9 o_me)  : wp (f_X9_terms  o_me p0 p1) (fun (y : Int32 × Ob) => IvX9 y.2 ∧ Kp [13, 14, 15, 16, 19, 20, 21, 23, 26, 29, 30, 38, 43, 59, 62] [12, 42, 48, 50, 51] o_me y.2) := by
  have li0 : (-1 : Int32).toInt = (-1) := by decide
  have li1 : (0 : Int32).toInt = 0 := by decide
  have li2 : (0 : Int64).toInt = 0 := by decide
  have li3 : (1 : Int32).toInt = 1 := by decide
  have li4 : (10 : Int64).toInt = 10 := by decide
  have li5 : (2 : Int32).toInt = 2 := by decide
  have li6 : (4 : Int32).toInt = 4 := by decide
  have li7 : (9 : Int64).toInt = 9 := by decide
  have li8 : (999 : Int64).toInt = 999 := by decide
  unfold f_X9_terms
  refine wp_lt (fun o1 eo1 => ?_)
  have hIo1 : IvX9 o1 := by rw [eo1]; exact hI_me
  have ko1_v : (gI o1 0).toInt = 0 := by rw [eo1]; exact (show ((0 : Int32)).toInt = _ from by decide)
  have hkpo1 : Kp [13, 14, 15, 16, 19, 20, 21, 23, 26, 29, 30, 38, 43, 59, 62] [12, 42, 48, 50, 51] o_me o1 := Kp.rf.trans (by rw [eo1]; exact Kp.sI (by decide))
  refine wp_if (fun c2 => ?_) (fun c2 => ?_)
  · have c2 := cv_eq (a := p0.toInt) (b := 0) rfl (by decide) c2
    have rg3 := i32_rg p1
    have t4 : p1.toInt64.toInt = p1.toInt := Int32.toInt_toInt64 _
    refine wp_bd (s_X9_in p1.toInt64 (0 : Int64) (999 : Int64)  ) (fun z5 hz5 => ?_)
    obtain ⟨hz5_0, hz5_1⟩ := hz5
    unfold bk_X9_terms_60
    refine wp_if (fun c6 => ?_) (fun c6 => ?_)
    · have c6 := cv_eq (a := z5.toInt) (b := 0) rfl (by decide) c6
      refine wp_bd (s_X9_tell o1 (-1 : Int32) hIo1 ⟨by decide, by decide⟩) (fun z7 hz7 => ?_)
      obtain ⟨hz7_0, hz7_1, hz7_2⟩ := hz7
      have hkpz7_me : Kp [13, 14, 15, 16, 19, 20, 21, 23, 26, 29, 30, 38, 43, 59, 62] [12, 42, 48, 50, 51] o_me z7.2 := hkpo1.trans (hz7_2.mono (by decide) (by decide))
      refine wp_some ?_
      exact (show IvX9 z7.2 ∧ Kp [13, 14, 15, 16, 19, 20, 21, 23, 26, 29, 30, 38, 43, 59, 62] [12, 42, 48, 50, 51] o_me z7.2 from ⟨hz7_1, hkpz7_me⟩)
    · have c6z := c6
      have c6i := hz5_1 c6
      have c6 := cv_ne (a := z5.toInt) (b := 0) rfl (by decide) c6
      refine wp_lt (fun o8 eo8 => ?_)
      have hIo8 : IvX9 o8 := by rw [eo8]; exact ipX9_8 hIo1 ⟨by decide, by decide⟩
      have ko8_k9 : (gI o8 0).toInt = (gI o1 0).toInt := by rw [eo8]; rfl
      have ko8_v : (gI o8 8).toInt = 0 := by rw [eo8]; exact (show ((0 : Int32)).toInt = _ from by decide)
      have hkpo8 : Kp [13, 14, 15, 16, 19, 20, 21, 23, 26, 29, 30, 38, 43, 59, 62] [12, 42, 48, 50, 51] o_me o8 := hkpo1.trans (by rw [eo8]; exact Kp.sI (by decide))
      have t10 : ((4 : Int32) + p0).toInt = 4 + p0.toInt := i32_add (by decide) rfl (by omega) (by omega)
      refine wp_bd (s_X9_change_v1 o8 ((4 : Int32) + p0) p1 hIo8 ⟨by omega, by omega⟩) (fun z11 hz11 => ?_)
      obtain ⟨hz11_0, hz11_1⟩ := hz11
      have hkpz11_me : Kp [13, 14, 15, 16, 19, 20, 21, 23, 26, 29, 30, 38, 43, 59, 62] [12, 42, 48, 50, 51] o_me z11.2 := hkpo8.trans (hz11_1.mono (by decide) (by decide))
      have kz11_k12 : (gI z11.2 8).toInt = (gI o8 8).toInt := congrArg Int32.toInt (hz11_1.1 8 (by decide))
      refine wp_some ?_
      exact (show IvX9 z11.2 ∧ Kp [13, 14, 15, 16, 19, 20, 21, 23, 26, 29, 30, 38, 43, 59, 62] [12, 42, 48, 50, 51] o_me z11.2 from ⟨hz11_0, hkpz11_me⟩)
  · have c2z := c2
    have c2 := cv_ne (a := p0.toInt) (b := 0) rfl (by decide) c2
    refine wp_if (fun c13 => ?_) (fun c13 => ?_)
    · have c13 := cv_eq (a := p0.toInt) (b := 1) rfl (by decide) c13
      have rg14 := i32_rg p1
      have t15 : p1.toInt64.toInt = p1.toInt := Int32.toInt_toInt64 _
      refine wp_bd (s_X9_in p1.toInt64 (0 : Int64) (10 : Int64)  ) (fun z16 hz16 => ?_)
      obtain ⟨hz16_0, hz16_1⟩ := hz16
      unfold bk_X9_terms_60
      refine wp_if (fun c17 => ?_) (fun c17 => ?_)
      · have c17 := cv_eq (a := z16.toInt) (b := 0) rfl (by decide) c17
        refine wp_bd (s_X9_tell o1 (-1 : Int32) hIo1 ⟨by decide, by decide⟩) (fun z18 hz18 => ?_)
        obtain ⟨hz18_0, hz18_1, hz18_2⟩ := hz18
        have hkpz18_me : Kp [13, 14, 15, 16, 19, 20, 21, 23, 26, 29, 30, 38, 43, 59, 62] [12, 42, 48, 50, 51] o_me z18.2 := hkpo1.trans (hz18_2.mono (by decide) (by decide))
        refine wp_some ?_
        exact (show IvX9 z18.2 ∧ Kp [13, 14, 15, 16, 19, 20, 21, 23, 26, 29, 30, 38, 43, 59, 62] [12, 42, 48, 50, 51] o_me z18.2 from ⟨hz18_1, hkpz18_me⟩)
      · have c17z := c17
        have c17i := hz16_1 c17
        have c17 := cv_ne (a := z16.toInt) (b := 0) rfl (by decide) c17
        refine wp_lt (fun o19 eo19 => ?_)
        have hIo19 : IvX9 o19 := by rw [eo19]; exact ipX9_8 hIo1 ⟨by decide, by decide⟩
        have ko19_k20 : (gI o19 0).toInt = (gI o1 0).toInt := by rw [eo19]; rfl
        have ko19_v : (gI o19 8).toInt = 0 := by rw [eo19]; exact (show ((0 : Int32)).toInt = _ from by decide)
        have hkpo19 : Kp [13, 14, 15, 16, 19, 20, 21, 23, 26, 29, 30, 38, 43, 59, 62] [12, 42, 48, 50, 51] o_me o19 := hkpo1.trans (by rw [eo19]; exact Kp.sI (by decide))
        have t21 : ((4 : Int32) + p0).toInt = 4 + p0.toInt := i32_add (by decide) rfl (by omega) (by omega)
        refine wp_bd (s_X9_change_v1 o19 ((4 : Int32) + p0) p1 hIo19 ⟨by omega, by omega⟩) (fun z22 hz22 => ?_)
        obtain ⟨hz22_0, hz22_1⟩ := hz22
        have hkpz22_me : Kp [13, 14, 15, 16, 19, 20, 21, 23, 26, 29, 30, 38, 43, 59, 62] [12, 42, 48, 50, 51] o_me z22.2 := hkpo19.trans (hz22_1.mono (by decide) (by decide))
        have kz22_k23 : (gI z22.2 8).toInt = (gI o19 8).toInt := congrArg Int32.toInt (hz22_1.1 8 (by decide))
        refine wp_some ?_
        exact (show IvX9 z22.2 ∧ Kp [13, 14, 15, 16, 19, 20, 21, 23, 26, 29, 30, 38, 43, 59, 62] [12, 42, 48, 50, 51] o_me z22.2 from ⟨hz22_0, hkpz22_me⟩)
    · have c13 := cv_ne (a := p0.toInt) (b := 1) rfl (by decide) c13
      refine wp_if (fun c24 => ?_) (fun c24 => ?_)
      · have c24 := cv_eq (a := p0.toInt) (b := 2) rfl (by decide) c24
        have rg25 := i32_rg p1
        have t26 : p1.toInt64.toInt = p1.toInt := Int32.toInt_toInt64 _
        refine wp_bd (s_X9_in p1.toInt64 (0 : Int64) (9 : Int64)  ) (fun z27 hz27 => ?_)
        obtain ⟨hz27_0, hz27_1⟩ := hz27
        refine wp_if (fun c28 => ?_) (fun c28 => ?_)
        · have c28 := cv_eq (a := z27.toInt) (b := 0) rfl (by decide) c28
          unfold bk_X9_terms_59
          obtain ⟨w29, ew29⟩ : ∃ z : Int32, z = (0 : Int32) := ⟨_, rfl⟩
          have tw29 : w29.toInt = 0 := by rw [ew29]; decide
          rw [show bk_X9_terms_60   p0 p1 (0 : Int32) o1 = bk_X9_terms_60   p0 p1 w29 o1 from by rw [ew29]]
          unfold bk_X9_terms_60
          refine wp_if (fun c30 => ?_) (fun c30 => ?_)
          · have c30 := cv_eq (a := w29.toInt) (b := 0) rfl (by decide) c30
            refine wp_bd (s_X9_tell o1 (-1 : Int32) hIo1 ⟨by decide, by decide⟩) (fun z31 hz31 => ?_)
            obtain ⟨hz31_0, hz31_1, hz31_2⟩ := hz31
            have hkpz31_me : Kp [13, 14, 15, 16, 19, 20, 21, 23, 26, 29, 30, 38, 43, 59, 62] [12, 42, 48, 50, 51] o_me z31.2 := hkpo1.trans (hz31_2.mono (by decide) (by decide))
            refine wp_some ?_
            exact (show IvX9 z31.2 ∧ Kp [13, 14, 15, 16, 19, 20, 21, 23, 26, 29, 30, 38, 43, 59, 62] [12, 42, 48, 50, 51] o_me z31.2 from ⟨hz31_1, hkpz31_me⟩)
          · have c30z := c30
            have c30 := cv_ne (a := w29.toInt) (b := 0) rfl (by decide) c30
            exfalso; omega
        · have c28z := c28
          have c28i := hz27_1 c28
          have c28 := cv_ne (a := z27.toInt) (b := 0) rfl (by decide) c28
          obtain ⟨w32, ew32⟩ : ∃ z : Int32, z = (1 : Int32) := ⟨_, rfl⟩
          have tw32 : w32.toInt = 1 := by rw [ew32]; decide
          rw [show bk_X9_terms_60   p0 p1 (1 : Int32) o1 = bk_X9_terms_60   p0 p1 w32 o1 from by rw [ew32]]
          unfold bk_X9_terms_60
          refine wp_if (fun c33 => ?_) (fun c33 => ?_)
          · have c33 := cv_eq (a := w32.toInt) (b := 0) rfl (by decide) c33
            exfalso; omega
          · have c33z := c33
            have c33 := cv_ne (a := w32.toInt) (b := 0) rfl (by decide) c33
            refine wp_lt (fun o34 eo34 => ?_)
            have hIo34 : IvX9 o34 := by rw [eo34]; exact ipX9_8 hIo1 ⟨by decide, by decide⟩
            have ko34_k35 : (gI o34 0).toInt = (gI o1 0).toInt := by rw [eo34]; rfl
            have ko34_v : (gI o34 8).toInt = 0 := by rw [eo34]; exact (show ((0 : Int32)).toInt = _ from by decide)
            have hkpo34 : Kp [13, 14, 15, 16, 19, 20, 21, 23, 26, 29, 30, 38, 43, 59, 62] [12, 42, 48, 50, 51] o_me o34 := hkpo1.trans (by rw [eo34]; exact Kp.sI (by decide))
            have t36 : ((4 : Int32) + p0).toInt = 4 + p0.toInt := i32_add (by decide) rfl (by omega) (by omega)
            refine wp_bd (s_X9_change_v1 o34 ((4 : Int32) + p0) p1 hIo34 ⟨by omega, by omega⟩) (fun z37 hz37 => ?_)
            obtain ⟨hz37_0, hz37_1⟩ := hz37
            have hkpz37_me : Kp [13, 14, 15, 16, 19, 20, 21, 23, 26, 29, 30, 38, 43, 59, 62] [12, 42, 48, 50, 51] o_me z37.2 := hkpo34.trans (hz37_1.mono (by decide) (by decide))
            have kz37_k38 : (gI z37.2 8).toInt = (gI o34 8).toInt := congrArg Int32.toInt (hz37_1.1 8 (by decide))
            refine wp_some ?_
            exact (show IvX9 z37.2 ∧ Kp [13, 14, 15, 16, 19, 20, 21, 23, 26, 29, 30, 38, 43, 59, 62] [12, 42, 48, 50, 51] o_me z37.2 from ⟨hz37_0, hkpz37_me⟩)
      · have c24 := cv_ne (a := p0.toInt) (b := 2) rfl (by decide) c24
        unfold bk_X9_terms_59
        obtain ⟨w39, ew39⟩ : ∃ z : Int32, z = (0 : Int32) := ⟨_, rfl⟩
        have tw39 : w39.toInt = 0 := by rw [ew39]; decide
        rw [show bk_X9_terms_60   p0 p1 (0 : Int32) o1 = bk_X9_terms_60   p0 p1 w39 o1 from by rw [ew39]]
        unfold bk_X9_terms_60
        refine wp_if (fun c40 => ?_) (fun c40 => ?_)
        · have c40 := cv_eq (a := w39.toInt) (b := 0) rfl (by decide) c40
          refine wp_bd (s_X9_tell o1 (-1 : Int32) hIo1 ⟨by decide, by decide⟩) (fun z41 hz41 => ?_)
          obtain ⟨hz41_0, hz41_1, hz41_2⟩ := hz41
          have hkpz41_me : Kp [13, 14, 15, 16, 19, 20, 21, 23, 26, 29, 30, 38, 43, 59, 62] [12, 42, 48, 50, 51] o_me z41.2 := hkpo1.trans (hz41_2.mono (by decide) (by decide))
          refine wp_some ?_
          exact (show IvX9 z41.2 ∧ Kp [13, 14, 15, 16, 19, 20, 21, 23, 26, 29, 30, 38, 43, 59, 62] [12, 42, 48, 50, 51] o_me z41.2 from ⟨hz41_1, hkpz41_me⟩)
        · have c40z := c40
          have c40 := cv_ne (a := w39.toInt) (b := 0) rfl (by decide) c40
          exfalso; omega

set_option maxHeartbeats 4000000 in
set_option maxRecDepth 100000 in
theorem s_X2_isPerson (o_me : Ob) (p0 : Int32) (hI_me : IvX2 o_me)  : wp (f_X2_isPerson  o_me p0) (fun (y : Int32) => (0 ≤ y.toInt ∧ y.toInt ≤ 1) ∧ (¬ y = 0 → (0 ≤ p0.toInt ∧ p0.toInt ≤ 6) ∧ (p0.toInt ≤ (gI o_me 7).toInt + (-1)))) := by
  have li0 : (0 : Int32).toInt = 0 := by decide
  have li1 : (1 : Int32).toInt = 1 := by decide
  unfold f_X2_isPerson
  refine wp_if (fun c1 => ?_) (fun c1 => ?_)
  · have c1 := cv_lt (a := p0.toInt) (b := 0) rfl (by decide) c1
    refine wp_some ?_
    exact (show (0 ≤ (0 : Int32).toInt ∧ (0 : Int32).toInt ≤ 1) ∧ (¬ (0 : Int32) = 0 → (0 ≤ p0.toInt ∧ p0.toInt ≤ 6) ∧ (p0.toInt ≤ (gI o_me 7).toInt + (-1))) from ⟨⟨by decide, by decide⟩, (fun h9 => absurd rfl h9)⟩)
  · have c1 := cv_nlt (a := p0.toInt) (b := 0) rfl (by decide) c1
    have t2 := igX2_7 hI_me
    refine wp_if (fun c3 => ?_) (fun c3 => ?_)
    · have c3 := cv_ge (a := p0.toInt) (b := (gI o_me 7).toInt) rfl rfl c3
      refine wp_some ?_
      exact (show (0 ≤ (0 : Int32).toInt ∧ (0 : Int32).toInt ≤ 1) ∧ (¬ (0 : Int32) = 0 → (0 ≤ p0.toInt ∧ p0.toInt ≤ 6) ∧ (p0.toInt ≤ (gI o_me 7).toInt + (-1))) from ⟨⟨by decide, by decide⟩, (fun h9 => absurd rfl h9)⟩)
    · have c3 := cv_nge (a := p0.toInt) (b := (gI o_me 7).toInt) rfl rfl c3
      refine wp_some ?_
      exact (show (0 ≤ (1 : Int32).toInt ∧ (1 : Int32).toInt ≤ 1) ∧ (¬ (1 : Int32) = 0 → (0 ≤ p0.toInt ∧ p0.toInt ≤ 6) ∧ (p0.toInt ≤ (gI o_me 7).toInt + (-1))) from ⟨⟨by decide, by decide⟩, (fun h9 => ⟨⟨by omega, by omega⟩, by omega⟩)⟩)

set_option maxHeartbeats 4000000 in
set_option maxRecDepth 100000 in
theorem s_X8_isRace (p0 : Int32)  : wp (f_X8_isRace  p0) (fun (y : Int32) => (0 ≤ y.toInt ∧ y.toInt ≤ 1) ∧ (¬ y = 0 → (0 ≤ p0.toInt ∧ p0.toInt ≤ 3))) := by
  have li0 : (0 : Int32).toInt = 0 := by decide
  have li1 : (1 : Int32).toInt = 1 := by decide
  have li2 : (4 : Int32).toInt = 4 := by decide
  unfold f_X8_isRace
  refine wp_if (fun c1 => ?_) (fun c1 => ?_)
  · have c1 := cv_lt (a := p0.toInt) (b := 0) rfl (by decide) c1
    refine wp_some ?_
    exact (show (0 ≤ (0 : Int32).toInt ∧ (0 : Int32).toInt ≤ 1) ∧ (¬ (0 : Int32) = 0 → (0 ≤ p0.toInt ∧ p0.toInt ≤ 3)) from ⟨⟨by decide, by decide⟩, (fun h9 => absurd rfl h9)⟩)
  · have c1 := cv_nlt (a := p0.toInt) (b := 0) rfl (by decide) c1
    refine wp_if (fun c2 => ?_) (fun c2 => ?_)
    · have c2 := cv_ge (a := p0.toInt) (b := 4) rfl (by decide) c2
      refine wp_some ?_
      exact (show (0 ≤ (0 : Int32).toInt ∧ (0 : Int32).toInt ≤ 1) ∧ (¬ (0 : Int32) = 0 → (0 ≤ p0.toInt ∧ p0.toInt ≤ 3)) from ⟨⟨by decide, by decide⟩, (fun h9 => absurd rfl h9)⟩)
    · have c2 := cv_nge (a := p0.toInt) (b := 4) rfl (by decide) c2
      refine wp_some ?_
      exact (show (0 ≤ (1 : Int32).toInt ∧ (1 : Int32).toInt ≤ 1) ∧ (¬ (1 : Int32) = 0 → (0 ≤ p0.toInt ∧ p0.toInt ≤ 3)) from ⟨⟨by decide, by decide⟩, (fun h9 => ⟨by omega, by omega⟩)⟩)

set_option maxHeartbeats 4000000 in
set_option maxRecDepth 100000 in
theorem s_X2_isLaw (o_me : Ob) (p0 : Int32) (hI_me : IvX2 o_me)  : wp (f_X2_isLaw  o_me p0) (fun (y : Int32) => (0 ≤ y.toInt ∧ y.toInt ≤ 1) ∧ (¬ y = 0 → (0 ≤ p0.toInt ∧ p0.toInt ≤ 5) ∧ (p0.toInt ≤ (gI o_me 9).toInt + (-1)))) := by
  have li0 : (0 : Int32).toInt = 0 := by decide
  have li1 : (1 : Int32).toInt = 1 := by decide
  unfold f_X2_isLaw
  refine wp_if (fun c1 => ?_) (fun c1 => ?_)
  · have c1 := cv_lt (a := p0.toInt) (b := 0) rfl (by decide) c1
    refine wp_some ?_
    exact (show (0 ≤ (0 : Int32).toInt ∧ (0 : Int32).toInt ≤ 1) ∧ (¬ (0 : Int32) = 0 → (0 ≤ p0.toInt ∧ p0.toInt ≤ 5) ∧ (p0.toInt ≤ (gI o_me 9).toInt + (-1))) from ⟨⟨by decide, by decide⟩, (fun h9 => absurd rfl h9)⟩)
  · have c1 := cv_nlt (a := p0.toInt) (b := 0) rfl (by decide) c1
    have t2 := igX2_9 hI_me
    refine wp_if (fun c3 => ?_) (fun c3 => ?_)
    · have c3 := cv_ge (a := p0.toInt) (b := (gI o_me 9).toInt) rfl rfl c3
      refine wp_some ?_
      exact (show (0 ≤ (0 : Int32).toInt ∧ (0 : Int32).toInt ≤ 1) ∧ (¬ (0 : Int32) = 0 → (0 ≤ p0.toInt ∧ p0.toInt ≤ 5) ∧ (p0.toInt ≤ (gI o_me 9).toInt + (-1))) from ⟨⟨by decide, by decide⟩, (fun h9 => absurd rfl h9)⟩)
    · have c3 := cv_nge (a := p0.toInt) (b := (gI o_me 9).toInt) rfl rfl c3
      refine wp_some ?_
      exact (show (0 ≤ (1 : Int32).toInt ∧ (1 : Int32).toInt ≤ 1) ∧ (¬ (1 : Int32) = 0 → (0 ≤ p0.toInt ∧ p0.toInt ≤ 5) ∧ (p0.toInt ≤ (gI o_me 9).toInt + (-1))) from ⟨⟨by decide, by decide⟩, (fun h9 => ⟨⟨by omega, by omega⟩, by omega⟩)⟩)

set_option maxHeartbeats 4000000 in
set_option maxRecDepth 100000 in
theorem s_X1_told_N (o_me : Ob) (p1 : Int32) (p2 : Int32) (p3 : Int32) (p4 : Int32) (hI_me : IvX1 o_me)  : wp (f_X1_told_N  o_me p1 p2 p3 p4) (fun (y : Int64) => ((-9000000000000000000) ≤ y.toInt ∧ y.toInt ≤ (-9000000000000000000))) := by
  have li0 : (-9000000000000000000 : Int64).toInt = (-9000000000000000000) := by decide
  unfold f_X1_told_N
  refine wp_some ?_
  exact (show ((-9000000000000000000) ≤ (-9000000000000000000 : Int64).toInt ∧ (-9000000000000000000 : Int64).toInt ≤ (-9000000000000000000)) from ⟨by decide, by decide⟩)

set_option maxHeartbeats 4000000 in
set_option maxRecDepth 100000 in
theorem s_X3_setLawWords_O (o_me : Ob) (o_a0 : Ob) (o_a0_now : Ob) (p1 : Int32) (p2 : Int32) (p3 : Int32) (hI_me : IvX3 o_me) (hI_a0 : IvX2 o_a0) (hI_a0_now : IvX4 o_a0_now) (q0 : 0 ≤ p1.toInt ∧ p1.toInt ≤ 6) (q1 : 0 ≤ p2.toInt ∧ p2.toInt ≤ 3) : wp (f_X3_setLawWords_O  o_me o_a0 o_a0_now p1 p2 p3) (fun (y : Ob) => IvX3 y ∧ Kp [] [] o_me y) := by
  have li0 : (0 : Int32).toInt = 0 := by decide
  have li1 : (1 : Int32).toInt = 1 := by decide
  have li2 : (2 : Int32).toInt = 2 := by decide
  have li3 : (3 : Int32).toInt = 3 := by decide
  have li4 : (4 : Int32).toInt = 4 := by decide
  have li5 : (5 : Int32).toInt = 5 := by decide
  have li6 : (6 : Int32).toInt = 6 := by decide
  have li7 : (7 : Int32).toInt = 7 := by decide
  have li8 : (8 : Int32).toInt = 8 := by decide
  unfold f_X3_setLawWords_O
  refine wp_lt (fun o1 eo1 => ?_)
  have hIo1 : IvX3 o1 := by rw [eo1]; exact hI_me
  have ko1_v : (gA o1 0 (0 : Int32).toNatClampNeg).toInt = p1.toInt := by rw [eo1]; exact congrArg Int32.toInt (upd_eq (g := gA o_me 0) (i := (0 : Int32)) (v := p1))
  have hkpo1 : Kp [] [] o_me o1 := Kp.rf.trans (by rw [eo1]; exact Kp.tA (by decide))
  refine wp_lt (fun o2 eo2 => ?_)
  have hIo2 : IvX3 o2 := by rw [eo2]; exact hIo1
  have ko2_k3 : (gA o2 0 (0 : Int32).toNatClampNeg).toInt = (gA o1 0 (0 : Int32).toNatClampNeg).toInt := by rw [eo2]; exact congrArg Int32.toInt (upd_ne (g := gA o1 0) (i := (1 : Int32)) (j := (0 : Int32)) (v := p2) (by decide) (by decide) (by decide))
  have ko2_v : (gA o2 0 (1 : Int32).toNatClampNeg).toInt = p2.toInt := by rw [eo2]; exact congrArg Int32.toInt (upd_eq (g := gA o1 0) (i := (1 : Int32)) (v := p2))
  have hkpo2 : Kp [] [] o_me o2 := hkpo1.trans (by rw [eo2]; exact Kp.tA (by decide))
  have t4 : (p1 * (4 : Int32)).toInt = p1.toInt * 4 := i32_mul rfl (by decide) (by omega) (by omega)
  have t5 : ((p1 * (4 : Int32)) + p2).toInt = (p1 * (4 : Int32)).toInt + p2.toInt := i32_add rfl rfl (by omega) (by omega)
  refine wp_gd (zin_of (m := 28) rfl (by omega) (by omega)) ?_
  refine wp_lt (fun o6 eo6 => ?_)
  have hIo6 : IvX3 o6 := by rw [eo6]; exact hIo2
  have ko6_k7 : (gA o6 0 (0 : Int32).toNatClampNeg).toInt = (gA o2 0 (0 : Int32).toNatClampNeg).toInt := by rw [eo6]; exact congrArg Int32.toInt (upd_ne (g := gA o2 0) (i := (2 : Int32)) (j := (0 : Int32)) (v := (gA o_a0 2 ((p1 * (4 : Int32)) + p2).toNatClampNeg)) (by decide) (by decide) (by decide))
  have ko6_k8 : (gA o6 0 (1 : Int32).toNatClampNeg).toInt = (gA o2 0 (1 : Int32).toNatClampNeg).toInt := by rw [eo6]; exact congrArg Int32.toInt (upd_ne (g := gA o2 0) (i := (2 : Int32)) (j := (1 : Int32)) (v := (gA o_a0 2 ((p1 * (4 : Int32)) + p2).toNatClampNeg)) (by decide) (by decide) (by decide))
  have ko6_v : (gA o6 0 (2 : Int32).toNatClampNeg).toInt = (gA o_a0 2 ((p1 * (4 : Int32)) + p2).toNatClampNeg).toInt := by rw [eo6]; exact congrArg Int32.toInt (upd_eq (g := gA o2 0) (i := (2 : Int32)) (v := (gA o_a0 2 ((p1 * (4 : Int32)) + p2).toNatClampNeg)))
  have hkpo6 : Kp [] [] o_me o6 := hkpo2.trans (by rw [eo6]; exact Kp.tA (by decide))
  refine wp_gd (zin_of (m := 7) rfl (by omega) (by omega)) ?_
  have t9 := iaX4_0_0 hI_a0_now (j := p1) (by omega) (by omega)
  refine wp_lt (fun o10 eo10 => ?_)
  have hIo10 : IvX3 o10 := by rw [eo10]; exact hIo6
  have ko10_k11 : (gA o10 0 (0 : Int32).toNatClampNeg).toInt = (gA o6 0 (0 : Int32).toNatClampNeg).toInt := by rw [eo10]; exact congrArg Int32.toInt (upd_ne (g := gA o6 0) (i := (3 : Int32)) (j := (0 : Int32)) (v := (gA o_a0_now 0 p1.toNatClampNeg)) (by decide) (by decide) (by decide))
  have ko10_k12 : (gA o10 0 (1 : Int32).toNatClampNeg).toInt = (gA o6 0 (1 : Int32).toNatClampNeg).toInt := by rw [eo10]; exact congrArg Int32.toInt (upd_ne (g := gA o6 0) (i := (3 : Int32)) (j := (1 : Int32)) (v := (gA o_a0_now 0 p1.toNatClampNeg)) (by decide) (by decide) (by decide))
  have ko10_k13 : (gA o10 0 (2 : Int32).toNatClampNeg).toInt = (gA o6 0 (2 : Int32).toNatClampNeg).toInt := by rw [eo10]; exact congrArg Int32.toInt (upd_ne (g := gA o6 0) (i := (3 : Int32)) (j := (2 : Int32)) (v := (gA o_a0_now 0 p1.toNatClampNeg)) (by decide) (by decide) (by decide))
  have ko10_v : (gA o10 0 (3 : Int32).toNatClampNeg).toInt = (gA o_a0_now 0 p1.toNatClampNeg).toInt := by rw [eo10]; exact congrArg Int32.toInt (upd_eq (g := gA o6 0) (i := (3 : Int32)) (v := (gA o_a0_now 0 p1.toNatClampNeg)))
  have hkpo10 : Kp [] [] o_me o10 := hkpo6.trans (by rw [eo10]; exact Kp.tA (by decide))
  refine wp_gd (zin_of (m := 7) rfl (by omega) (by omega)) ?_
  refine wp_lt (fun o14 eo14 => ?_)
  have hIo14 : IvX3 o14 := by rw [eo14]; exact hIo10
  have ko14_k15 : (gA o14 0 (0 : Int32).toNatClampNeg).toInt = (gA o10 0 (0 : Int32).toNatClampNeg).toInt := by rw [eo14]; exact congrArg Int32.toInt (upd_ne (g := gA o10 0) (i := (4 : Int32)) (j := (0 : Int32)) (v := (gA o_a0_now 1 p1.toNatClampNeg)) (by decide) (by decide) (by decide))
  have ko14_k16 : (gA o14 0 (1 : Int32).toNatClampNeg).toInt = (gA o10 0 (1 : Int32).toNatClampNeg).toInt := by rw [eo14]; exact congrArg Int32.toInt (upd_ne (g := gA o10 0) (i := (4 : Int32)) (j := (1 : Int32)) (v := (gA o_a0_now 1 p1.toNatClampNeg)) (by decide) (by decide) (by decide))
  have ko14_k17 : (gA o14 0 (2 : Int32).toNatClampNeg).toInt = (gA o10 0 (2 : Int32).toNatClampNeg).toInt := by rw [eo14]; exact congrArg Int32.toInt (upd_ne (g := gA o10 0) (i := (4 : Int32)) (j := (2 : Int32)) (v := (gA o_a0_now 1 p1.toNatClampNeg)) (by decide) (by decide) (by decide))
  have ko14_k18 : (gA o14 0 (3 : Int32).toNatClampNeg).toInt = (gA o10 0 (3 : Int32).toNatClampNeg).toInt := by rw [eo14]; exact congrArg Int32.toInt (upd_ne (g := gA o10 0) (i := (4 : Int32)) (j := (3 : Int32)) (v := (gA o_a0_now 1 p1.toNatClampNeg)) (by decide) (by decide) (by decide))
  have ko14_v : (gA o14 0 (4 : Int32).toNatClampNeg).toInt = (gA o_a0_now 1 p1.toNatClampNeg).toInt := by rw [eo14]; exact congrArg Int32.toInt (upd_eq (g := gA o10 0) (i := (4 : Int32)) (v := (gA o_a0_now 1 p1.toNatClampNeg)))
  have hkpo14 : Kp [] [] o_me o14 := hkpo10.trans (by rw [eo14]; exact Kp.tA (by decide))
  refine wp_lt (fun o19 eo19 => ?_)
  have hIo19 : IvX3 o19 := by rw [eo19]; exact hIo14
  have ko19_k20 : (gA o19 0 (0 : Int32).toNatClampNeg).toInt = (gA o14 0 (0 : Int32).toNatClampNeg).toInt := by rw [eo19]; exact congrArg Int32.toInt (upd_ne (g := gA o14 0) (i := (5 : Int32)) (j := (0 : Int32)) (v := p3) (by decide) (by decide) (by decide))
  have ko19_k21 : (gA o19 0 (1 : Int32).toNatClampNeg).toInt = (gA o14 0 (1 : Int32).toNatClampNeg).toInt := by rw [eo19]; exact congrArg Int32.toInt (upd_ne (g := gA o14 0) (i := (5 : Int32)) (j := (1 : Int32)) (v := p3) (by decide) (by decide) (by decide))
  have ko19_k22 : (gA o19 0 (2 : Int32).toNatClampNeg).toInt = (gA o14 0 (2 : Int32).toNatClampNeg).toInt := by rw [eo19]; exact congrArg Int32.toInt (upd_ne (g := gA o14 0) (i := (5 : Int32)) (j := (2 : Int32)) (v := p3) (by decide) (by decide) (by decide))
  have ko19_k23 : (gA o19 0 (3 : Int32).toNatClampNeg).toInt = (gA o14 0 (3 : Int32).toNatClampNeg).toInt := by rw [eo19]; exact congrArg Int32.toInt (upd_ne (g := gA o14 0) (i := (5 : Int32)) (j := (3 : Int32)) (v := p3) (by decide) (by decide) (by decide))
  have ko19_k24 : (gA o19 0 (4 : Int32).toNatClampNeg).toInt = (gA o14 0 (4 : Int32).toNatClampNeg).toInt := by rw [eo19]; exact congrArg Int32.toInt (upd_ne (g := gA o14 0) (i := (5 : Int32)) (j := (4 : Int32)) (v := p3) (by decide) (by decide) (by decide))
  have ko19_v : (gA o19 0 (5 : Int32).toNatClampNeg).toInt = p3.toInt := by rw [eo19]; exact congrArg Int32.toInt (upd_eq (g := gA o14 0) (i := (5 : Int32)) (v := p3))
  have hkpo19 : Kp [] [] o_me o19 := hkpo14.trans (by rw [eo19]; exact Kp.tA (by decide))
  refine wp_lt (fun o25 eo25 => ?_)
  have hIo25 : IvX3 o25 := by rw [eo25]; exact hIo19
  have ko25_k26 : (gA o25 0 (0 : Int32).toNatClampNeg).toInt = (gA o19 0 (0 : Int32).toNatClampNeg).toInt := by rw [eo25]; exact congrArg Int32.toInt (upd_ne (g := gA o19 0) (i := (6 : Int32)) (j := (0 : Int32)) (v := (gI o_a0_now 3)) (by decide) (by decide) (by decide))
  have ko25_k27 : (gA o25 0 (1 : Int32).toNatClampNeg).toInt = (gA o19 0 (1 : Int32).toNatClampNeg).toInt := by rw [eo25]; exact congrArg Int32.toInt (upd_ne (g := gA o19 0) (i := (6 : Int32)) (j := (1 : Int32)) (v := (gI o_a0_now 3)) (by decide) (by decide) (by decide))
  have ko25_k28 : (gA o25 0 (2 : Int32).toNatClampNeg).toInt = (gA o19 0 (2 : Int32).toNatClampNeg).toInt := by rw [eo25]; exact congrArg Int32.toInt (upd_ne (g := gA o19 0) (i := (6 : Int32)) (j := (2 : Int32)) (v := (gI o_a0_now 3)) (by decide) (by decide) (by decide))
  have ko25_k29 : (gA o25 0 (3 : Int32).toNatClampNeg).toInt = (gA o19 0 (3 : Int32).toNatClampNeg).toInt := by rw [eo25]; exact congrArg Int32.toInt (upd_ne (g := gA o19 0) (i := (6 : Int32)) (j := (3 : Int32)) (v := (gI o_a0_now 3)) (by decide) (by decide) (by decide))
  have ko25_k30 : (gA o25 0 (4 : Int32).toNatClampNeg).toInt = (gA o19 0 (4 : Int32).toNatClampNeg).toInt := by rw [eo25]; exact congrArg Int32.toInt (upd_ne (g := gA o19 0) (i := (6 : Int32)) (j := (4 : Int32)) (v := (gI o_a0_now 3)) (by decide) (by decide) (by decide))
  have ko25_k31 : (gA o25 0 (5 : Int32).toNatClampNeg).toInt = (gA o19 0 (5 : Int32).toNatClampNeg).toInt := by rw [eo25]; exact congrArg Int32.toInt (upd_ne (g := gA o19 0) (i := (6 : Int32)) (j := (5 : Int32)) (v := (gI o_a0_now 3)) (by decide) (by decide) (by decide))
  have ko25_v : (gA o25 0 (6 : Int32).toNatClampNeg).toInt = (gI o_a0_now 3).toInt := by rw [eo25]; exact congrArg Int32.toInt (upd_eq (g := gA o19 0) (i := (6 : Int32)) (v := (gI o_a0_now 3)))
  have hkpo25 : Kp [] [] o_me o25 := hkpo19.trans (by rw [eo25]; exact Kp.tA (by decide))
  refine wp_lt (fun o32 eo32 => ?_)
  have hIo32 : IvX3 o32 := by rw [eo32]; exact hIo25
  have ko32_k33 : (gA o32 0 (0 : Int32).toNatClampNeg).toInt = (gA o25 0 (0 : Int32).toNatClampNeg).toInt := by rw [eo32]; exact congrArg Int32.toInt (upd_ne (g := gA o25 0) (i := (7 : Int32)) (j := (0 : Int32)) (v := (gI o_a0_now 4)) (by decide) (by decide) (by decide))
  have ko32_k34 : (gA o32 0 (1 : Int32).toNatClampNeg).toInt = (gA o25 0 (1 : Int32).toNatClampNeg).toInt := by rw [eo32]; exact congrArg Int32.toInt (upd_ne (g := gA o25 0) (i := (7 : Int32)) (j := (1 : Int32)) (v := (gI o_a0_now 4)) (by decide) (by decide) (by decide))
  have ko32_k35 : (gA o32 0 (2 : Int32).toNatClampNeg).toInt = (gA o25 0 (2 : Int32).toNatClampNeg).toInt := by rw [eo32]; exact congrArg Int32.toInt (upd_ne (g := gA o25 0) (i := (7 : Int32)) (j := (2 : Int32)) (v := (gI o_a0_now 4)) (by decide) (by decide) (by decide))
  have ko32_k36 : (gA o32 0 (3 : Int32).toNatClampNeg).toInt = (gA o25 0 (3 : Int32).toNatClampNeg).toInt := by rw [eo32]; exact congrArg Int32.toInt (upd_ne (g := gA o25 0) (i := (7 : Int32)) (j := (3 : Int32)) (v := (gI o_a0_now 4)) (by decide) (by decide) (by decide))
  have ko32_k37 : (gA o32 0 (4 : Int32).toNatClampNeg).toInt = (gA o25 0 (4 : Int32).toNatClampNeg).toInt := by rw [eo32]; exact congrArg Int32.toInt (upd_ne (g := gA o25 0) (i := (7 : Int32)) (j := (4 : Int32)) (v := (gI o_a0_now 4)) (by decide) (by decide) (by decide))
  have ko32_k38 : (gA o32 0 (5 : Int32).toNatClampNeg).toInt = (gA o25 0 (5 : Int32).toNatClampNeg).toInt := by rw [eo32]; exact congrArg Int32.toInt (upd_ne (g := gA o25 0) (i := (7 : Int32)) (j := (5 : Int32)) (v := (gI o_a0_now 4)) (by decide) (by decide) (by decide))
  have ko32_k39 : (gA o32 0 (6 : Int32).toNatClampNeg).toInt = (gA o25 0 (6 : Int32).toNatClampNeg).toInt := by rw [eo32]; exact congrArg Int32.toInt (upd_ne (g := gA o25 0) (i := (7 : Int32)) (j := (6 : Int32)) (v := (gI o_a0_now 4)) (by decide) (by decide) (by decide))
  have ko32_v : (gA o32 0 (7 : Int32).toNatClampNeg).toInt = (gI o_a0_now 4).toInt := by rw [eo32]; exact congrArg Int32.toInt (upd_eq (g := gA o25 0) (i := (7 : Int32)) (v := (gI o_a0_now 4)))
  have hkpo32 : Kp [] [] o_me o32 := hkpo25.trans (by rw [eo32]; exact Kp.tA (by decide))
  refine wp_lt (fun o40 eo40 => ?_)
  have hIo40 : IvX3 o40 := by rw [eo40]; exact hIo32
  have ko40_k41 : (gA o40 0 (0 : Int32).toNatClampNeg).toInt = (gA o32 0 (0 : Int32).toNatClampNeg).toInt := by rw [eo40]; exact congrArg Int32.toInt (upd_ne (g := gA o32 0) (i := (8 : Int32)) (j := (0 : Int32)) (v := (gI o_a0 12)) (by decide) (by decide) (by decide))
  have ko40_k42 : (gA o40 0 (1 : Int32).toNatClampNeg).toInt = (gA o32 0 (1 : Int32).toNatClampNeg).toInt := by rw [eo40]; exact congrArg Int32.toInt (upd_ne (g := gA o32 0) (i := (8 : Int32)) (j := (1 : Int32)) (v := (gI o_a0 12)) (by decide) (by decide) (by decide))
  have ko40_k43 : (gA o40 0 (2 : Int32).toNatClampNeg).toInt = (gA o32 0 (2 : Int32).toNatClampNeg).toInt := by rw [eo40]; exact congrArg Int32.toInt (upd_ne (g := gA o32 0) (i := (8 : Int32)) (j := (2 : Int32)) (v := (gI o_a0 12)) (by decide) (by decide) (by decide))
  have ko40_k44 : (gA o40 0 (3 : Int32).toNatClampNeg).toInt = (gA o32 0 (3 : Int32).toNatClampNeg).toInt := by rw [eo40]; exact congrArg Int32.toInt (upd_ne (g := gA o32 0) (i := (8 : Int32)) (j := (3 : Int32)) (v := (gI o_a0 12)) (by decide) (by decide) (by decide))
  have ko40_k45 : (gA o40 0 (4 : Int32).toNatClampNeg).toInt = (gA o32 0 (4 : Int32).toNatClampNeg).toInt := by rw [eo40]; exact congrArg Int32.toInt (upd_ne (g := gA o32 0) (i := (8 : Int32)) (j := (4 : Int32)) (v := (gI o_a0 12)) (by decide) (by decide) (by decide))
  have ko40_k46 : (gA o40 0 (5 : Int32).toNatClampNeg).toInt = (gA o32 0 (5 : Int32).toNatClampNeg).toInt := by rw [eo40]; exact congrArg Int32.toInt (upd_ne (g := gA o32 0) (i := (8 : Int32)) (j := (5 : Int32)) (v := (gI o_a0 12)) (by decide) (by decide) (by decide))
  have ko40_k47 : (gA o40 0 (6 : Int32).toNatClampNeg).toInt = (gA o32 0 (6 : Int32).toNatClampNeg).toInt := by rw [eo40]; exact congrArg Int32.toInt (upd_ne (g := gA o32 0) (i := (8 : Int32)) (j := (6 : Int32)) (v := (gI o_a0 12)) (by decide) (by decide) (by decide))
  have ko40_k48 : (gA o40 0 (7 : Int32).toNatClampNeg).toInt = (gA o32 0 (7 : Int32).toNatClampNeg).toInt := by rw [eo40]; exact congrArg Int32.toInt (upd_ne (g := gA o32 0) (i := (8 : Int32)) (j := (7 : Int32)) (v := (gI o_a0 12)) (by decide) (by decide) (by decide))
  have ko40_v : (gA o40 0 (8 : Int32).toNatClampNeg).toInt = (gI o_a0 12).toInt := by rw [eo40]; exact congrArg Int32.toInt (upd_eq (g := gA o32 0) (i := (8 : Int32)) (v := (gI o_a0 12)))
  have hkpo40 : Kp [] [] o_me o40 := hkpo32.trans (by rw [eo40]; exact Kp.tA (by decide))
  refine wp_some ?_
  exact (show IvX3 o40 ∧ Kp [] [] o_me o40 from ⟨hIo40, hkpo40⟩)

set_option maxHeartbeats 4000000 in
set_option maxRecDepth 100000 in
theorem s_X3_wordWorth (o_me : Ob) (p0 : Int32) (hI_me : IvX3 o_me)  : wp (f_X3_wordWorth  o_me p0) (fun (y : Int64) => ((-9000000000000000000) ≤ y.toInt ∧ y.toInt ≤ 2147483647)) := by
  have li0 : (-9000000000000000000 : Int64).toInt = (-9000000000000000000) := by decide
  have li1 : (19 : Int32).toInt = 19 := by decide
  unfold f_X3_wordWorth
  refine wp_if (fun c1 => ?_) (fun c1 => ?_)
  · have c1 := cv_lt (a := p0.toInt) (b := 0) rfl (by decide) c1
    refine wp_some ?_
    exact (show ((-9000000000000000000) ≤ (-9000000000000000000 : Int64).toInt ∧ (-9000000000000000000 : Int64).toInt ≤ 2147483647) from ⟨by decide, by decide⟩)
  · have c1 := cv_nlt (a := p0.toInt) (b := 0) rfl (by decide) c1
    refine wp_if (fun c2 => ?_) (fun c2 => ?_)
    · have c2 := cv_ge (a := p0.toInt) (b := 19) rfl (by decide) c2
      refine wp_some ?_
      exact (show ((-9000000000000000000) ≤ (-9000000000000000000 : Int64).toInt ∧ (-9000000000000000000 : Int64).toInt ≤ 2147483647) from ⟨by decide, by decide⟩)
    · have c2 := cv_nge (a := p0.toInt) (b := 19) rfl (by decide) c2
      refine wp_gd (zin_of (m := 19) rfl (by omega) (by omega)) ?_
      have rg3 := i32_rg (gA o_me 0 p0.toNatClampNeg)
      have t4 : ((gA o_me 0 p0.toNatClampNeg).toInt64).toInt = (gA o_me 0 p0.toNatClampNeg).toInt := Int32.toInt_toInt64 _
      refine wp_some ?_
      exact (show ((-9000000000000000000) ≤ ((gA o_me 0 p0.toNatClampNeg).toInt64).toInt ∧ ((gA o_me 0 p0.toNatClampNeg).toInt64).toInt ≤ 2147483647) from ⟨by omega, by omega⟩)

set_option maxHeartbeats 4000000 in
set_option maxRecDepth 100000 in
theorem s_X3_joined (p0 : Int32) (p1 : Int64) (p2 : Int64)  : wp (f_X3_joined  p0 p1 p2) (fun (y : Int64) => ((-9000000000000000000) ≤ y.toInt ∧ y.toInt ≤ 1000000000)) := by
  have li0 : (-1000000000 : Int64).toInt = (-1000000000) := by decide
  have li1 : (-9000000000000000000 : Int64).toInt = (-9000000000000000000) := by decide
  have li2 : (0 : Int64).toInt = 0 := by decide
  have li3 : (1 : Int64).toInt = 1 := by decide
  have li4 : (1000000000 : Int64).toInt = 1000000000 := by decide
  unfold f_X3_joined
  refine wp_if (fun c1 => ?_) (fun c1 => ?_)
  · have c1 := cv_eq (a := p0.toInt) (b := 5) rfl (by decide) c1
    refine wp_lt (fun x2 ex2 => ?_)
    have tx2 : x2.toInt = (p1 + p2).toInt := by rw [ex2]
    unfold bk_X3_joined_164
    refine wp_if (fun c3 => ?_) (fun c3 => ?_)
    · have c3 := cvl_gt (a := x2.toInt) (b := 1000000000) rfl (by decide) c3
      unfold bk_X3_joined_182
      refine wp_some ?_
      exact (show ((-9000000000000000000) ≤ (-9000000000000000000 : Int64).toInt ∧ (-9000000000000000000 : Int64).toInt ≤ 1000000000) from ⟨by decide, by decide⟩)
    · have c3 := cvl_ngt (a := x2.toInt) (b := 1000000000) rfl (by decide) c3
      refine wp_if (fun c4 => ?_) (fun c4 => ?_)
      · have c4 := cvl_ge (a := x2.toInt) (b := (-1000000000)) rfl (by decide) c4
        refine wp_some ?_
        exact (show ((-9000000000000000000) ≤ x2.toInt ∧ x2.toInt ≤ 1000000000) from ⟨by omega, by omega⟩)
      · have c4 := cvl_nge (a := x2.toInt) (b := (-1000000000)) rfl (by decide) c4
        unfold bk_X3_joined_182
        refine wp_some ?_
        exact (show ((-9000000000000000000) ≤ (-9000000000000000000 : Int64).toInt ∧ (-9000000000000000000 : Int64).toInt ≤ 1000000000) from ⟨by decide, by decide⟩)
  have c1 := cv_ne (a := p0.toInt) (b := 5) rfl (by decide) c1
  refine wp_if (fun c5 => ?_) (fun c5 => ?_)
  · have c5 := cv_eq (a := p0.toInt) (b := 6) rfl (by decide) c5
    refine wp_lt (fun x6 ex6 => ?_)
    have tx6 : x6.toInt = (p1 - p2).toInt := by rw [ex6]
    unfold bk_X3_joined_164
    refine wp_if (fun c7 => ?_) (fun c7 => ?_)
    · have c7 := cvl_gt (a := x6.toInt) (b := 1000000000) rfl (by decide) c7
      unfold bk_X3_joined_182
      refine wp_some ?_
      exact (show ((-9000000000000000000) ≤ (-9000000000000000000 : Int64).toInt ∧ (-9000000000000000000 : Int64).toInt ≤ 1000000000) from ⟨by decide, by decide⟩)
    · have c7 := cvl_ngt (a := x6.toInt) (b := 1000000000) rfl (by decide) c7
      refine wp_if (fun c8 => ?_) (fun c8 => ?_)
      · have c8 := cvl_ge (a := x6.toInt) (b := (-1000000000)) rfl (by decide) c8
        refine wp_some ?_
        exact (show ((-9000000000000000000) ≤ x6.toInt ∧ x6.toInt ≤ 1000000000) from ⟨by omega, by omega⟩)
      · have c8 := cvl_nge (a := x6.toInt) (b := (-1000000000)) rfl (by decide) c8
        unfold bk_X3_joined_182
        refine wp_some ?_
        exact (show ((-9000000000000000000) ≤ (-9000000000000000000 : Int64).toInt ∧ (-9000000000000000000 : Int64).toInt ≤ 1000000000) from ⟨by decide, by decide⟩)
  have c5 := cv_ne (a := p0.toInt) (b := 6) rfl (by decide) c5
  refine wp_if (fun c9 => ?_) (fun c9 => ?_)
  · have c9 := cv_eq (a := p0.toInt) (b := 7) rfl (by decide) c9
    refine wp_lt (fun x10 ex10 => ?_)
    have tx10 : x10.toInt = (p1 * p2).toInt := by rw [ex10]
    unfold bk_X3_joined_164
    refine wp_if (fun c11 => ?_) (fun c11 => ?_)
    · have c11 := cvl_gt (a := x10.toInt) (b := 1000000000) rfl (by decide) c11
      unfold bk_X3_joined_182
      refine wp_some ?_
      exact (show ((-9000000000000000000) ≤ (-9000000000000000000 : Int64).toInt ∧ (-9000000000000000000 : Int64).toInt ≤ 1000000000) from ⟨by decide, by decide⟩)
    · have c11 := cvl_ngt (a := x10.toInt) (b := 1000000000) rfl (by decide) c11
      refine wp_if (fun c12 => ?_) (fun c12 => ?_)
      · have c12 := cvl_ge (a := x10.toInt) (b := (-1000000000)) rfl (by decide) c12
        refine wp_some ?_
        exact (show ((-9000000000000000000) ≤ x10.toInt ∧ x10.toInt ≤ 1000000000) from ⟨by omega, by omega⟩)
      · have c12 := cvl_nge (a := x10.toInt) (b := (-1000000000)) rfl (by decide) c12
        unfold bk_X3_joined_182
        refine wp_some ?_
        exact (show ((-9000000000000000000) ≤ (-9000000000000000000 : Int64).toInt ∧ (-9000000000000000000 : Int64).toInt ≤ 1000000000) from ⟨by decide, by decide⟩)
  have c9 := cv_ne (a := p0.toInt) (b := 7) rfl (by decide) c9
  refine wp_if (fun c13 => ?_) (fun c13 => ?_)
  · have c13 := cv_eq (a := p0.toInt) (b := 8) rfl (by decide) c13
    refine wp_if (fun c14 => ?_) (fun c14 => ?_)
    · have c14 := cvl_eq (a := p2.toInt) (b := 0) rfl (by decide) c14
      obtain ⟨w15, ew15⟩ : ∃ z : Int64, z = (-9000000000000000000 : Int64) := ⟨_, rfl⟩
      have tw15 : w15.toInt = (-9000000000000000000) := by rw [ew15]; decide
      rw [show bk_X3_joined_91   (-9000000000000000000 : Int64) = bk_X3_joined_91   w15 from by rw [ew15]]
      unfold bk_X3_joined_91
      unfold bk_X3_joined_164
      refine wp_if (fun c16 => ?_) (fun c16 => ?_)
      · have c16 := cvl_gt (a := w15.toInt) (b := 1000000000) rfl (by decide) c16
        exfalso; omega
      · have c16 := cvl_ngt (a := w15.toInt) (b := 1000000000) rfl (by decide) c16
        refine wp_if (fun c17 => ?_) (fun c17 => ?_)
        · have c17 := cvl_ge (a := w15.toInt) (b := (-1000000000)) rfl (by decide) c17
          exfalso; omega
        · have c17 := cvl_nge (a := w15.toInt) (b := (-1000000000)) rfl (by decide) c17
          unfold bk_X3_joined_182
          refine wp_some ?_
          exact (show ((-9000000000000000000) ≤ (-9000000000000000000 : Int64).toInt ∧ (-9000000000000000000 : Int64).toInt ≤ 1000000000) from ⟨by decide, by decide⟩)
    · have c14z := mt (fun e9 => (lg_cmp_eq _ _).mpr e9) c14
      have c14 := cvl_ne (a := p2.toInt) (b := 0) rfl (by decide) c14
      refine wp_gd (decide_eq_true c14z) ?_
      obtain ⟨w18, ew18⟩ : ∃ z : Int64, z = p1 / p2 := ⟨_, rfl⟩
      have tw18 : w18.toInt = (p1 / p2).toInt := by rw [ew18]
      rw [show bk_X3_joined_91   (p1 / p2) = bk_X3_joined_91   w18 from by rw [ew18]]
      unfold bk_X3_joined_91
      unfold bk_X3_joined_164
      refine wp_if (fun c19 => ?_) (fun c19 => ?_)
      · have c19 := cvl_gt (a := w18.toInt) (b := 1000000000) rfl (by decide) c19
        unfold bk_X3_joined_182
        refine wp_some ?_
        exact (show ((-9000000000000000000) ≤ (-9000000000000000000 : Int64).toInt ∧ (-9000000000000000000 : Int64).toInt ≤ 1000000000) from ⟨by decide, by decide⟩)
      · have c19 := cvl_ngt (a := w18.toInt) (b := 1000000000) rfl (by decide) c19
        refine wp_if (fun c20 => ?_) (fun c20 => ?_)
        · have c20 := cvl_ge (a := w18.toInt) (b := (-1000000000)) rfl (by decide) c20
          refine wp_some ?_
          exact (show ((-9000000000000000000) ≤ w18.toInt ∧ w18.toInt ≤ 1000000000) from ⟨by omega, by omega⟩)
        · have c20 := cvl_nge (a := w18.toInt) (b := (-1000000000)) rfl (by decide) c20
          unfold bk_X3_joined_182
          refine wp_some ?_
          exact (show ((-9000000000000000000) ≤ (-9000000000000000000 : Int64).toInt ∧ (-9000000000000000000 : Int64).toInt ≤ 1000000000) from ⟨by decide, by decide⟩)
  have c13 := cv_ne (a := p0.toInt) (b := 8) rfl (by decide) c13
  refine wp_if (fun c21 => ?_) (fun c21 => ?_)
  · have c21 := cv_eq (a := p0.toInt) (b := 9) rfl (by decide) c21
    refine wp_if (fun c22 => ?_) (fun c22 => ?_)
    · have c22 := cvl_eq (a := p2.toInt) (b := 0) rfl (by decide) c22
      obtain ⟨w23, ew23⟩ : ∃ z : Int64, z = (-9000000000000000000 : Int64) := ⟨_, rfl⟩
      have tw23 : w23.toInt = (-9000000000000000000) := by rw [ew23]; decide
      rw [show bk_X3_joined_111   (-9000000000000000000 : Int64) = bk_X3_joined_111   w23 from by rw [ew23]]
      unfold bk_X3_joined_111
      unfold bk_X3_joined_164
      refine wp_if (fun c24 => ?_) (fun c24 => ?_)
      · have c24 := cvl_gt (a := w23.toInt) (b := 1000000000) rfl (by decide) c24
        exfalso; omega
      · have c24 := cvl_ngt (a := w23.toInt) (b := 1000000000) rfl (by decide) c24
        refine wp_if (fun c25 => ?_) (fun c25 => ?_)
        · have c25 := cvl_ge (a := w23.toInt) (b := (-1000000000)) rfl (by decide) c25
          exfalso; omega
        · have c25 := cvl_nge (a := w23.toInt) (b := (-1000000000)) rfl (by decide) c25
          unfold bk_X3_joined_182
          refine wp_some ?_
          exact (show ((-9000000000000000000) ≤ (-9000000000000000000 : Int64).toInt ∧ (-9000000000000000000 : Int64).toInt ≤ 1000000000) from ⟨by decide, by decide⟩)
    · have c22z := mt (fun e9 => (lg_cmp_eq _ _).mpr e9) c22
      have c22 := cvl_ne (a := p2.toInt) (b := 0) rfl (by decide) c22
      refine wp_gd (decide_eq_true c22z) ?_
      obtain ⟨w26, ew26⟩ : ∃ z : Int64, z = p1 - p1 / p2 * p2 := ⟨_, rfl⟩
      have tw26 : w26.toInt = (p1 - p1 / p2 * p2).toInt := by rw [ew26]
      rw [show bk_X3_joined_111   (p1 - p1 / p2 * p2) = bk_X3_joined_111   w26 from by rw [ew26]]
      unfold bk_X3_joined_111
      unfold bk_X3_joined_164
      refine wp_if (fun c27 => ?_) (fun c27 => ?_)
      · have c27 := cvl_gt (a := w26.toInt) (b := 1000000000) rfl (by decide) c27
        unfold bk_X3_joined_182
        refine wp_some ?_
        exact (show ((-9000000000000000000) ≤ (-9000000000000000000 : Int64).toInt ∧ (-9000000000000000000 : Int64).toInt ≤ 1000000000) from ⟨by decide, by decide⟩)
      · have c27 := cvl_ngt (a := w26.toInt) (b := 1000000000) rfl (by decide) c27
        refine wp_if (fun c28 => ?_) (fun c28 => ?_)
        · have c28 := cvl_ge (a := w26.toInt) (b := (-1000000000)) rfl (by decide) c28
          refine wp_some ?_
          exact (show ((-9000000000000000000) ≤ w26.toInt ∧ w26.toInt ≤ 1000000000) from ⟨by omega, by omega⟩)
        · have c28 := cvl_nge (a := w26.toInt) (b := (-1000000000)) rfl (by decide) c28
          unfold bk_X3_joined_182
          refine wp_some ?_
          exact (show ((-9000000000000000000) ≤ (-9000000000000000000 : Int64).toInt ∧ (-9000000000000000000 : Int64).toInt ≤ 1000000000) from ⟨by decide, by decide⟩)
  have c21 := cv_ne (a := p0.toInt) (b := 9) rfl (by decide) c21
  refine wp_if (fun c29 => ?_) (fun c29 => ?_)
  · have c29 := cv_eq (a := p0.toInt) (b := 10) rfl (by decide) c29
    refine wp_if (fun c30 => ?_) (fun c30 => ?_)
    · have c30 := cvl_ge (a := p1.toInt) (b := p2.toInt) rfl rfl c30
      obtain ⟨w31, ew31⟩ : ∃ z : Int64, z = (0 : Int64) := ⟨_, rfl⟩
      have tw31 : w31.toInt = 0 := by rw [ew31]; decide
      rw [show bk_X3_joined_127   (0 : Int64) = bk_X3_joined_127   w31 from by rw [ew31]]
      unfold bk_X3_joined_127
      unfold bk_X3_joined_164
      refine wp_if (fun c32 => ?_) (fun c32 => ?_)
      · have c32 := cvl_gt (a := w31.toInt) (b := 1000000000) rfl (by decide) c32
        exfalso; omega
      · have c32 := cvl_ngt (a := w31.toInt) (b := 1000000000) rfl (by decide) c32
        refine wp_if (fun c33 => ?_) (fun c33 => ?_)
        · have c33 := cvl_ge (a := w31.toInt) (b := (-1000000000)) rfl (by decide) c33
          refine wp_some ?_
          exact (show ((-9000000000000000000) ≤ w31.toInt ∧ w31.toInt ≤ 1000000000) from ⟨by omega, by omega⟩)
        · have c33 := cvl_nge (a := w31.toInt) (b := (-1000000000)) rfl (by decide) c33
          exfalso; omega
    · have c30 := cvl_nge (a := p1.toInt) (b := p2.toInt) rfl rfl c30
      obtain ⟨w34, ew34⟩ : ∃ z : Int64, z = (1 : Int64) := ⟨_, rfl⟩
      have tw34 : w34.toInt = 1 := by rw [ew34]; decide
      rw [show bk_X3_joined_127   (1 : Int64) = bk_X3_joined_127   w34 from by rw [ew34]]
      unfold bk_X3_joined_127
      unfold bk_X3_joined_164
      refine wp_if (fun c35 => ?_) (fun c35 => ?_)
      · have c35 := cvl_gt (a := w34.toInt) (b := 1000000000) rfl (by decide) c35
        exfalso; omega
      · have c35 := cvl_ngt (a := w34.toInt) (b := 1000000000) rfl (by decide) c35
        refine wp_if (fun c36 => ?_) (fun c36 => ?_)
        · have c36 := cvl_ge (a := w34.toInt) (b := (-1000000000)) rfl (by decide) c36
          refine wp_some ?_
          exact (show ((-9000000000000000000) ≤ w34.toInt ∧ w34.toInt ≤ 1000000000) from ⟨by omega, by omega⟩)
        · have c36 := cvl_nge (a := w34.toInt) (b := (-1000000000)) rfl (by decide) c36
          exfalso; omega
  have c29 := cv_ne (a := p0.toInt) (b := 10) rfl (by decide) c29
  refine wp_if (fun c37 => ?_) (fun c37 => ?_)
  · have c37 := cv_eq (a := p0.toInt) (b := 11) rfl (by decide) c37
    refine wp_if (fun c38 => ?_) (fun c38 => ?_)
    · have c38 := cvl_le (a := p1.toInt) (b := p2.toInt) rfl rfl c38
      obtain ⟨w39, ew39⟩ : ∃ z : Int64, z = (0 : Int64) := ⟨_, rfl⟩
      have tw39 : w39.toInt = 0 := by rw [ew39]; decide
      rw [show bk_X3_joined_143   (0 : Int64) = bk_X3_joined_143   w39 from by rw [ew39]]
      unfold bk_X3_joined_143
      unfold bk_X3_joined_164
      refine wp_if (fun c40 => ?_) (fun c40 => ?_)
      · have c40 := cvl_gt (a := w39.toInt) (b := 1000000000) rfl (by decide) c40
        exfalso; omega
      · have c40 := cvl_ngt (a := w39.toInt) (b := 1000000000) rfl (by decide) c40
        refine wp_if (fun c41 => ?_) (fun c41 => ?_)
        · have c41 := cvl_ge (a := w39.toInt) (b := (-1000000000)) rfl (by decide) c41
          refine wp_some ?_
          exact (show ((-9000000000000000000) ≤ w39.toInt ∧ w39.toInt ≤ 1000000000) from ⟨by omega, by omega⟩)
        · have c41 := cvl_nge (a := w39.toInt) (b := (-1000000000)) rfl (by decide) c41
          exfalso; omega
    · have c38 := cvl_nle (a := p1.toInt) (b := p2.toInt) rfl rfl c38
      obtain ⟨w42, ew42⟩ : ∃ z : Int64, z = (1 : Int64) := ⟨_, rfl⟩
      have tw42 : w42.toInt = 1 := by rw [ew42]; decide
      rw [show bk_X3_joined_143   (1 : Int64) = bk_X3_joined_143   w42 from by rw [ew42]]
      unfold bk_X3_joined_143
      unfold bk_X3_joined_164
      refine wp_if (fun c43 => ?_) (fun c43 => ?_)
      · have c43 := cvl_gt (a := w42.toInt) (b := 1000000000) rfl (by decide) c43
        exfalso; omega
      · have c43 := cvl_ngt (a := w42.toInt) (b := 1000000000) rfl (by decide) c43
        refine wp_if (fun c44 => ?_) (fun c44 => ?_)
        · have c44 := cvl_ge (a := w42.toInt) (b := (-1000000000)) rfl (by decide) c44
          refine wp_some ?_
          exact (show ((-9000000000000000000) ≤ w42.toInt ∧ w42.toInt ≤ 1000000000) from ⟨by omega, by omega⟩)
        · have c44 := cvl_nge (a := w42.toInt) (b := (-1000000000)) rfl (by decide) c44
          exfalso; omega
  have c37 := cv_ne (a := p0.toInt) (b := 11) rfl (by decide) c37
  refine wp_if (fun c45 => ?_) (fun c45 => ?_)
  · have c45 := cv_eq (a := p0.toInt) (b := 12) rfl (by decide) c45
    refine wp_if (fun c46 => ?_) (fun c46 => ?_)
    · have c46 := cvl_eq (a := p1.toInt) (b := p2.toInt) rfl rfl c46
      obtain ⟨w47, ew47⟩ : ∃ z : Int64, z = (1 : Int64) := ⟨_, rfl⟩
      have tw47 : w47.toInt = 1 := by rw [ew47]; decide
      rw [show bk_X3_joined_159   (1 : Int64) = bk_X3_joined_159   w47 from by rw [ew47]]
      unfold bk_X3_joined_159
      unfold bk_X3_joined_164
      refine wp_if (fun c48 => ?_) (fun c48 => ?_)
      · have c48 := cvl_gt (a := w47.toInt) (b := 1000000000) rfl (by decide) c48
        exfalso; omega
      · have c48 := cvl_ngt (a := w47.toInt) (b := 1000000000) rfl (by decide) c48
        refine wp_if (fun c49 => ?_) (fun c49 => ?_)
        · have c49 := cvl_ge (a := w47.toInt) (b := (-1000000000)) rfl (by decide) c49
          refine wp_some ?_
          exact (show ((-9000000000000000000) ≤ w47.toInt ∧ w47.toInt ≤ 1000000000) from ⟨by omega, by omega⟩)
        · have c49 := cvl_nge (a := w47.toInt) (b := (-1000000000)) rfl (by decide) c49
          exfalso; omega
    · have c46 := cvl_ne (a := p1.toInt) (b := p2.toInt) rfl rfl c46
      obtain ⟨w50, ew50⟩ : ∃ z : Int64, z = (0 : Int64) := ⟨_, rfl⟩
      have tw50 : w50.toInt = 0 := by rw [ew50]; decide
      rw [show bk_X3_joined_159   (0 : Int64) = bk_X3_joined_159   w50 from by rw [ew50]]
      unfold bk_X3_joined_159
      unfold bk_X3_joined_164
      refine wp_if (fun c51 => ?_) (fun c51 => ?_)
      · have c51 := cvl_gt (a := w50.toInt) (b := 1000000000) rfl (by decide) c51
        exfalso; omega
      · have c51 := cvl_ngt (a := w50.toInt) (b := 1000000000) rfl (by decide) c51
        refine wp_if (fun c52 => ?_) (fun c52 => ?_)
        · have c52 := cvl_ge (a := w50.toInt) (b := (-1000000000)) rfl (by decide) c52
          refine wp_some ?_
          exact (show ((-9000000000000000000) ≤ w50.toInt ∧ w50.toInt ≤ 1000000000) from ⟨by omega, by omega⟩)
        · have c52 := cvl_nge (a := w50.toInt) (b := (-1000000000)) rfl (by decide) c52
          exfalso; omega
  have c45 := cv_ne (a := p0.toInt) (b := 12) rfl (by decide) c45
  obtain ⟨w53, ew53⟩ : ∃ z : Int64, z = (-9000000000000000000 : Int64) := ⟨_, rfl⟩
  have tw53 : w53.toInt = (-9000000000000000000) := by rw [ew53]; decide
  rw [show bk_X3_joined_164   (-9000000000000000000 : Int64) = bk_X3_joined_164   w53 from by rw [ew53]]
  unfold bk_X3_joined_164
  refine wp_if (fun c54 => ?_) (fun c54 => ?_)
  · have c54 := cvl_gt (a := w53.toInt) (b := 1000000000) rfl (by decide) c54
    exfalso; omega
  · have c54 := cvl_ngt (a := w53.toInt) (b := 1000000000) rfl (by decide) c54
    refine wp_if (fun c55 => ?_) (fun c55 => ?_)
    · have c55 := cvl_ge (a := w53.toInt) (b := (-1000000000)) rfl (by decide) c55
      exfalso; omega
    · have c55 := cvl_nge (a := w53.toInt) (b := (-1000000000)) rfl (by decide) c55
      unfold bk_X3_joined_182
      refine wp_some ?_
      exact (show ((-9000000000000000000) ≤ (-9000000000000000000 : Int64).toInt ∧ (-9000000000000000000 : Int64).toInt ≤ 1000000000) from ⟨by decide, by decide⟩)

set_option maxHeartbeats 4000000 in
set_option maxRecDepth 100000 in
theorem s_X1_nearest (p0 : Int64) (p1 : Int32)  : wp (f_X1_nearest  p0 p1) (fun (y : Int32) => True) := by
  have li0 : (0 : Int64).toInt = 0 := by decide
  unfold f_X1_nearest
  have rg1 := i32_rg p1
  have t2 : p1.toInt64.toInt = p1.toInt := Int32.toInt_toInt64 _
  have rg4 := i64_rg p0
  have t3 : (-9223372036854775808) ≤ (if p1.toInt64 < p0 then p1.toInt64 else p0).toInt ∧ (if p1.toInt64 < p0 then p1.toInt64 else p0).toInt ≤ 2147483647 := z_minl (a := p0.toInt) (b := p1.toInt64.toInt) rfl rfl (by omega) (by omega)
  have t5 : 0 ≤ (if (if p1.toInt64 < p0 then p1.toInt64 else p0) < (0 : Int64) then (0 : Int64) else (if p1.toInt64 < p0 then p1.toInt64 else p0)).toInt ∧ (if (if p1.toInt64 < p0 then p1.toInt64 else p0) < (0 : Int64) then (0 : Int64) else (if p1.toInt64 < p0 then p1.toInt64 else p0)).toInt ≤ 2147483647 := z_maxl (a := 0) (b := (if p1.toInt64 < p0 then p1.toInt64 else p0).toInt) (by decide) rfl (by omega) (by omega)
  refine wp_some ?_
  exact trivial

set_option maxHeartbeats 4000000 in
set_option maxRecDepth 100000 in
theorem s_X7_aheadOf (o_me : Ob) (o_me_court_isles : Ob) (p0 : Int32) (p1 : Int32) (hI_me : IvX7 o_me) (hI_me_court_isles : IvX2 o_me_court_isles) (q0 : 0 ≤ p0.toInt ∧ p0.toInt ≤ 6) (q1 : 0 ≤ p1.toInt ∧ p1.toInt ≤ 3) : wp (f_X7_aheadOf  o_me o_me_court_isles p0 p1) (fun (y : Int32) => True) := by
  have li0 : (-1 : Int32).toInt = (-1) := by decide
  have li1 : (0 : Int32).toInt = 0 := by decide
  have li2 : (1 : Int32).toInt = 1 := by decide
  have li3 : (7 : Int32).toInt = 7 := by decide
  unfold f_X7_aheadOf
  have t1 : (p1 * (7 : Int32)).toInt = p1.toInt * 7 := i32_mul rfl (by decide) (by omega) (by omega)
  have t2 : ((p1 * (7 : Int32)) + p0).toInt = (p1 * (7 : Int32)).toInt + p0.toInt := i32_add rfl rfl (by omega) (by omega)
  refine wp_gd (zin_of (m := 28) rfl (by omega) (by omega)) ?_
  refine wp_lt (fun x3 ex3 => ?_)
  have tx3 : x3.toInt = (gA o_me 5 ((p1 * (7 : Int32)) + p0).toNatClampNeg).toInt := by rw [ex3]
  have lp1 : ∀ (N1 : Nat) (v1_1 : Int32) (v2_1 : Int32) (v3_1 : Int32) (v4_1 : Int32) (v5_1 : Int32), (0 ≤ v1_1.toInt ∧ v1_1.toInt ≤ 6) → (0 ≤ v2_1.toInt ∧ v2_1.toInt ≤ 3) → (0 ≤ v5_1.toInt ∧ v5_1.toInt ≤ 7) → (v1_1.toInt ≤ p0.toInt + 0) → (p0.toInt ≤ v1_1.toInt + 0) → (v2_1.toInt ≤ p1.toInt + 0) → (p1.toInt ≤ v2_1.toInt + 0) → (v3_1.toInt ≤ x3.toInt + 0) → (x3.toInt ≤ v3_1.toInt + 0) → (7 - v5_1.toInt).toNat < N1 → wp (lp_X7_aheadOf_18 o_me o_me_court_isles  N1 (v1_1, v2_1, v3_1, v4_1, v5_1)) (fun (y : Int32) => True) := by
    intro N1
    induction N1 with
    | zero =>
      intro v1_1 v2_1 v3_1 v4_1 v5_1 hh4 hh5 hh6 hh7 hh8 hh9 hh10 hh11 hh12 hN1
      exact absurd hN1 (Nat.not_lt_zero _)
    | succ N1 ihx =>
      have ih1 := ihx
      intro v1_1 v2_1 v3_1 v4_1 v5_1 hh4 hh5 hh6 hh7 hh8 hh9 hh10 hh11 hh12 hN1
      show wp (lb_X7_aheadOf_18 o_me o_me_court_isles  (lp_X7_aheadOf_18 o_me o_me_court_isles  N1) v1_1 v2_1 v3_1 v4_1 v5_1) (fun (y : Int32) => True)
      unfold lb_X7_aheadOf_18
      have t13 := igX2_7 hI_me_court_isles
      refine wp_if (fun c14 => ?_) (fun c14 => ?_)
      · have c14 := cv_ge (a := v5_1.toInt) (b := (gI o_me_court_isles 7).toInt) rfl rfl c14
        refine wp_some ?_
        exact trivial
      · have c14 := cv_nge (a := v5_1.toInt) (b := (gI o_me_court_isles 7).toInt) rfl rfl c14
        have t15 : (v2_1 * (7 : Int32)).toInt = v2_1.toInt * 7 := i32_mul rfl (by decide) (by omega) (by omega)
        have t16 : ((v2_1 * (7 : Int32)) + v5_1).toInt = (v2_1 * (7 : Int32)).toInt + v5_1.toInt := i32_add rfl rfl (by omega) (by omega)
        refine wp_gd (zin_of (m := 28) rfl (by omega) (by omega)) ?_
        refine wp_lt (fun x17 ex17 => ?_)
        have tx17 : x17.toInt = (gA o_me 5 ((v2_1 * (7 : Int32)) + v5_1).toNatClampNeg).toInt := by rw [ex17]
        refine wp_if (fun c18 => ?_) (fun c18 => ?_)
        · have c18 := cv_eq (a := x17.toInt) (b := (-1)) rfl (by decide) c18
          unfold bk_X7_aheadOf_77
          refine wp_lt (fun x19 ex19 => ?_)
          have tx19 : x19.toInt = v5_1.toInt + 1 := by rw [ex19]; exact i32_add rfl (by decide) (by omega) (by omega)
          exact ih1 v1_1 v2_1 v3_1 v4_1 x19  ⟨by omega, by omega⟩ ⟨by omega, by omega⟩ ⟨by omega, by omega⟩ (by omega) (by omega) (by omega) (by omega) (by omega) (by omega) (by omega)
        · have c18 := cv_ne (a := x17.toInt) (b := (-1)) rfl (by decide) c18
          refine wp_if (fun c20 => ?_) (fun c20 => ?_)
          · have c20 := cv_gt (a := x17.toInt) (b := v3_1.toInt) rfl rfl c20
            unfold bk_X7_aheadOf_68
            refine wp_lt (fun x21 ex21 => ?_)
            have tx21 : x21.toInt = (v4_1 ||| ((1 : Int32) <<< (v5_1 &&& 31))).toInt := by rw [ex21]
            unfold bk_X7_aheadOf_77
            refine wp_lt (fun x22 ex22 => ?_)
            have tx22 : x22.toInt = v5_1.toInt + 1 := by rw [ex22]; exact i32_add rfl (by decide) (by omega) (by omega)
            exact ih1 v1_1 v2_1 v3_1 x21 x22  ⟨by omega, by omega⟩ ⟨by omega, by omega⟩ ⟨by omega, by omega⟩ (by omega) (by omega) (by omega) (by omega) (by omega) (by omega) (by omega)
          · have c20 := cv_ngt (a := x17.toInt) (b := v3_1.toInt) rfl rfl c20
            refine wp_if (fun c23 => ?_) (fun c23 => ?_)
            · have c23 := cv_eq (a := x17.toInt) (b := v3_1.toInt) rfl rfl c23
              refine wp_if (fun c24 => ?_) (fun c24 => ?_)
              · have c24 := cv_ge (a := v5_1.toInt) (b := v1_1.toInt) rfl rfl c24
                unfold bk_X7_aheadOf_77
                refine wp_lt (fun x25 ex25 => ?_)
                have tx25 : x25.toInt = v5_1.toInt + 1 := by rw [ex25]; exact i32_add rfl (by decide) (by omega) (by omega)
                exact ih1 v1_1 v2_1 v3_1 v4_1 x25  ⟨by omega, by omega⟩ ⟨by omega, by omega⟩ ⟨by omega, by omega⟩ (by omega) (by omega) (by omega) (by omega) (by omega) (by omega) (by omega)
              · have c24 := cv_nge (a := v5_1.toInt) (b := v1_1.toInt) rfl rfl c24
                unfold bk_X7_aheadOf_68
                refine wp_lt (fun x26 ex26 => ?_)
                have tx26 : x26.toInt = (v4_1 ||| ((1 : Int32) <<< (v5_1 &&& 31))).toInt := by rw [ex26]
                unfold bk_X7_aheadOf_77
                refine wp_lt (fun x27 ex27 => ?_)
                have tx27 : x27.toInt = v5_1.toInt + 1 := by rw [ex27]; exact i32_add rfl (by decide) (by omega) (by omega)
                exact ih1 v1_1 v2_1 v3_1 x26 x27  ⟨by omega, by omega⟩ ⟨by omega, by omega⟩ ⟨by omega, by omega⟩ (by omega) (by omega) (by omega) (by omega) (by omega) (by omega) (by omega)
            · have c23 := cv_ne (a := x17.toInt) (b := v3_1.toInt) rfl rfl c23
              unfold bk_X7_aheadOf_77
              refine wp_lt (fun x28 ex28 => ?_)
              have tx28 : x28.toInt = v5_1.toInt + 1 := by rw [ex28]; exact i32_add rfl (by decide) (by omega) (by omega)
              exact ih1 v1_1 v2_1 v3_1 v4_1 x28  ⟨by omega, by omega⟩ ⟨by omega, by omega⟩ ⟨by omega, by omega⟩ (by omega) (by omega) (by omega) (by omega) (by omega) (by omega) (by omega)
  exact lp1 zfu p0 p1 x3 (0 : Int32) (0 : Int32)  ⟨by omega, by omega⟩ ⟨by omega, by omega⟩ ⟨by decide, by decide⟩ (by omega) (by omega) (by omega) (by omega) (by omega) (by omega) (by show _ < 100000; omega)

set_option maxHeartbeats 4000000 in
set_option maxRecDepth 100000 in
theorem s_J6_bitCount_0f7a4 (p0 : Int32)  : wp (f_J6_bitCount_0f7a4  p0) (fun (y : Int32) => (0 ≤ y.toInt ∧ y.toInt ≤ 63)) := by
  have li0 : (1 : Int32).toInt = 1 := by decide
  have li1 : (1431655765 : Int32).toInt = 1431655765 := by decide
  have li2 : (16 : Int32).toInt = 16 := by decide
  have li3 : (2 : Int32).toInt = 2 := by decide
  have li4 : (252645135 : Int32).toInt = 252645135 := by decide
  have li5 : (4 : Int32).toInt = 4 := by decide
  have li6 : (63 : Int32).toInt = 63 := by decide
  have li7 : (8 : Int32).toInt = 8 := by decide
  have li8 : (858993459 : Int32).toInt = 858993459 := by decide
  unfold f_J6_bitCount_0f7a4
  have t1 := i32_and (x := (p0.toUInt32 >>> ((1 : Int32).toUInt32 &&& Int32.toUInt32 31)).toInt32) (y := (1431655765 : Int32)) (m := 1431655765) ⟨by decide, by decide⟩
  refine wp_lt (fun x2 ex2 => ?_)
  have tx2 : x2.toInt = (p0 - (((p0.toUInt32 >>> ((1 : Int32).toUInt32 &&& Int32.toUInt32 31)).toInt32) &&& (1431655765 : Int32))).toInt := by rw [ex2]
  have t3 := i32_and (x := x2) (y := (858993459 : Int32)) (m := 858993459) ⟨by decide, by decide⟩
  have t4 := i32_and (x := (x2.toUInt32 >>> ((2 : Int32).toUInt32 &&& Int32.toUInt32 31)).toInt32) (y := (858993459 : Int32)) (m := 858993459) ⟨by decide, by decide⟩
  have t5 : ((x2 &&& (858993459 : Int32)) + (((x2.toUInt32 >>> ((2 : Int32).toUInt32 &&& Int32.toUInt32 31)).toInt32) &&& (858993459 : Int32))).toInt = (x2 &&& (858993459 : Int32)).toInt + (((x2.toUInt32 >>> ((2 : Int32).toUInt32 &&& Int32.toUInt32 31)).toInt32) &&& (858993459 : Int32)).toInt := i32_add rfl rfl (by omega) (by omega)
  refine wp_lt (fun x6 ex6 => ?_)
  have tx6 : x6.toInt = ((x2 &&& (858993459 : Int32)) + (((x2.toUInt32 >>> ((2 : Int32).toUInt32 &&& Int32.toUInt32 31)).toInt32) &&& (858993459 : Int32))).toInt := by rw [ex6]
  have t7 := i32_and (x := x6 + ((x6.toUInt32 >>> ((4 : Int32).toUInt32 &&& Int32.toUInt32 31)).toInt32)) (y := (252645135 : Int32)) (m := 252645135) ⟨by decide, by decide⟩
  refine wp_lt (fun x8 ex8 => ?_)
  have tx8 : x8.toInt = ((x6 + ((x6.toUInt32 >>> ((4 : Int32).toUInt32 &&& Int32.toUInt32 31)).toInt32)) &&& (252645135 : Int32)).toInt := by rw [ex8]
  refine wp_lt (fun x9 ex9 => ?_)
  have tx9 : x9.toInt = (x8 + ((x8.toUInt32 >>> ((8 : Int32).toUInt32 &&& Int32.toUInt32 31)).toInt32)).toInt := by rw [ex9]
  refine wp_lt (fun x10 ex10 => ?_)
  have tx10 : x10.toInt = (x9 + ((x9.toUInt32 >>> ((16 : Int32).toUInt32 &&& Int32.toUInt32 31)).toInt32)).toInt := by rw [ex10]
  have t11 := i32_and (x := x10) (y := (63 : Int32)) (m := 63) ⟨by decide, by decide⟩
  refine wp_some ?_
  exact (show (0 ≤ (x10 &&& (63 : Int32)).toInt ∧ (x10 &&& (63 : Int32)).toInt ≤ 63) from ⟨by omega, by omega⟩)

set_option maxHeartbeats 4000000 in
set_option maxRecDepth 100000 in
theorem s_X7_lowestBits (p0 : Int32) (p1 : Int32) (q0 : (-7) ≤ p1.toInt ∧ p1.toInt ≤ 7) : wp (f_X7_lowestBits  p0 p1) (fun (y : Int32) => True) := by
  have li0 : (-1 : Int32).toInt = (-1) := by decide
  have li1 : (0 : Int32).toInt = 0 := by decide
  have li2 : (1 : Int32).toInt = 1 := by decide
  unfold f_X7_lowestBits
  have lp1 : ∀ (N1 : Nat) (v1_1 : Int32) (v2_1 : Int32) (v3_1 : Int32) (v4_1 : Int32), ((-7) ≤ v1_1.toInt ∧ v1_1.toInt ≤ 7) → (0 ≤ v4_1.toInt ∧ v4_1.toInt ≤ 7) → (v4_1.toInt ≤ v1_1.toInt + 7) → (v1_1.toInt ≤ p1.toInt + 0) → (p1.toInt ≤ v1_1.toInt + 0) → (7 - v4_1.toInt).toNat < N1 → wp (lp_X7_lowestBits_7   N1 (v1_1, v2_1, v3_1, v4_1)) (fun (y : Int32) => True) := by
    intro N1
    induction N1 with
    | zero =>
      intro v1_1 v2_1 v3_1 v4_1 hh1 hh2 hh3 hh4 hh5 hN1
      exact absurd hN1 (Nat.not_lt_zero _)
    | succ N1 ihx =>
      have ih1 := ihx
      intro v1_1 v2_1 v3_1 v4_1 hh1 hh2 hh3 hh4 hh5 hN1
      show wp (lb_X7_lowestBits_7   (lp_X7_lowestBits_7   N1) v1_1 v2_1 v3_1 v4_1) (fun (y : Int32) => True)
      unfold lb_X7_lowestBits_7
      refine wp_if (fun c6 => ?_) (fun c6 => ?_)
      · have c6 := cv_ge (a := v4_1.toInt) (b := v1_1.toInt) rfl rfl c6
        refine wp_some ?_
        exact trivial
      · have c6 := cv_nge (a := v4_1.toInt) (b := v1_1.toInt) rfl rfl c6
        refine wp_if (fun c7 => ?_) (fun c7 => ?_)
        · have c7 := cv_eq (a := v3_1.toInt) (b := 0) rfl (by decide) c7
          refine wp_some ?_
          exact trivial
        · have c7z := c7
          have c7 := cv_ne (a := v3_1.toInt) (b := 0) rfl (by decide) c7
          refine wp_lt (fun x8 ex8 => ?_)
          have tx8 : x8.toInt = (v2_1 ||| (v3_1 &&& (-v3_1))).toInt := by rw [ex8]
          refine wp_lt (fun x9 ex9 => ?_)
          have tx9 : x9.toInt = (v3_1 &&& (v3_1 - (1 : Int32))).toInt := by rw [ex9]
          refine wp_lt (fun x10 ex10 => ?_)
          have tx10 : x10.toInt = v4_1.toInt + 1 := by rw [ex10]; exact i32_add rfl (by decide) (by omega) (by omega)
          exact ih1 v1_1 x8 x9 x10  ⟨by omega, by omega⟩ ⟨by omega, by omega⟩ (by omega) (by omega) (by omega) (by omega)
  exact lp1 zfu p1 (0 : Int32) p0 (0 : Int32)  ⟨by omega, by omega⟩ ⟨by decide, by decide⟩ (by omega) (by omega) (by omega) (by show _ < 100000; omega)

set_option maxHeartbeats 4000000 in
set_option maxRecDepth 100000 in
theorem s_X8_refuse (o_me : Ob) (p0 : Int32) (hI_me : IvX8 o_me)  : wp (f_X8_refuse  o_me p0) (fun (y : Int32 × Ob) => IvX8 y.2 ∧ Kp [] [] o_me y.2) := by
  have li0 : (-6 : Int32).toInt = (-6) := by decide
  have li1 : (1 : Int32).toInt = 1 := by decide
  unfold f_X8_refuse
  refine wp_lt (fun o1 eo1 => ?_)
  have hIo1 : IvX8 o1 := by rw [eo1]; exact hI_me
  have ko1_v : (gI o1 12).toInt = p0.toInt := by rw [eo1]; rfl
  have hkpo1 : Kp [] [] o_me o1 := Kp.rf.trans (by rw [eo1]; exact Kp.sI (by decide))
  refine wp_if (fun c2 => ?_) (fun c2 => ?_)
  · have c2 := cv_ge (a := p0.toInt) (b := 0) rfl (by decide) c2
    refine wp_some ?_
    exact (show IvX8 o1 ∧ Kp [] [] o_me o1 from ⟨hIo1, hkpo1⟩)
  · have c2 := cv_nge (a := p0.toInt) (b := 0) rfl (by decide) c2
    refine wp_if (fun c3 => ?_) (fun c3 => ?_)
    · have c3 := cv_lt (a := p0.toInt) (b := (-6)) rfl (by decide) c3
      refine wp_some ?_
      exact (show IvX8 o1 ∧ Kp [] [] o_me o1 from ⟨hIo1, hkpo1⟩)
    · have c3 := cv_nlt (a := p0.toInt) (b := (-6)) rfl (by decide) c3
      have t4 : (-p0).toInt = -p0.toInt := i32_neg rfl (by omega) (by omega)
      refine wp_lt (fun x5 ex5 => ?_)
      have tx5 : x5.toInt = (-p0).toInt := by rw [ex5]
      refine wp_gd (zin_of (m := 7) rfl (by omega) (by omega)) ?_
      refine wp_gd (zin_of (m := 7) rfl (by omega) (by omega)) ?_
      refine wp_lt (fun o6 eo6 => ?_)
      have hIo6 : IvX8 o6 := by rw [eo6]; exact hIo1
      have ko6_k7 : (gI o6 12).toInt = (gI o1 12).toInt := by rw [eo6]; rfl
      have ko6_v : (gA o6 11 x5.toNatClampNeg).toInt = ((gA o1 11 x5.toNatClampNeg) + (1 : Int32)).toInt := by rw [eo6]; exact congrArg Int32.toInt (upd_eq (g := gA o1 11) (i := x5) (v := ((gA o1 11 x5.toNatClampNeg) + (1 : Int32))))
      have hkpo6 : Kp [] [] o_me o6 := hkpo1.trans (by rw [eo6]; exact Kp.tA (by decide))
      refine wp_some ?_
      exact (show IvX8 o6 ∧ Kp [] [] o_me o6 from ⟨hIo6, hkpo6⟩)

set_option maxHeartbeats 4000000 in
set_option maxRecDepth 100000 in
theorem s_X8_grant (o_me : Ob) (p0 : Int32) (hI_me : IvX8 o_me)  : wp (f_X8_grant  o_me p0) (fun (y : Int32 × Ob) => IvX8 y.2 ∧ Kp [] [] o_me y.2) := by
  have li0 : (0 : Int32).toInt = 0 := by decide
  unfold f_X8_grant
  refine wp_lt (fun o1 eo1 => ?_)
  have hIo1 : IvX8 o1 := by rw [eo1]; exact hI_me
  have ko1_v : (gI o1 12).toInt = 0 := by rw [eo1]; exact (show ((0 : Int32)).toInt = _ from by decide)
  have hkpo1 : Kp [] [] o_me o1 := Kp.rf.trans (by rw [eo1]; exact Kp.sI (by decide))
  refine wp_some ?_
  exact (show IvX8 o1 ∧ Kp [] [] o_me o1 from ⟨hIo1, hkpo1⟩)

set_option maxHeartbeats 4000000 in
set_option maxRecDepth 100000 in
theorem s_X8_beats (o_me : Ob) (o_me_isles : Ob) (p0 : Int32) (p1 : Int32) (p2 : Int32) (hI_me : IvX8 o_me) (hI_me_isles : IvX2 o_me_isles)  : wp (f_X8_beats  o_me o_me_isles p0 p1 p2) (fun (y : Int32 × Ob × Ob) => IvX8 y.2.1 ∧ Kp [] [] o_me y.2.1 ∧ IvX2 y.2.2 ∧ Kp [7, 8, 9, 10] [4] o_me_isles y.2.2) := by
  have li0 : (-1 : Int32).toInt = (-1) := by decide
  have li1 : (-2 : Int32).toInt = (-2) := by decide
  have li2 : (1 : Int32).toInt = 1 := by decide
  unfold f_X8_beats
  refine wp_if (fun c1 => ?_) (fun c1 => ?_)
  · have c1 := cv_eq (a := p0.toInt) (b := p1.toInt) rfl rfl c1
    unfold bk_X8_beats_14
    refine wp_bd (s_X8_refuse o_me (-1 : Int32) hI_me ) (fun z2 hz2 => ?_)
    obtain ⟨hz2_0, hz2_1⟩ := hz2
    have hkpz2_me : Kp [] [] o_me z2.2 := Kp.rf.trans (hz2_1.mono (by decide) (by decide))
    refine wp_some ?_
    exact (show IvX8 z2.2 ∧ Kp [] [] o_me z2.2 ∧ IvX2 o_me_isles ∧ Kp [7, 8, 9, 10] [4] o_me_isles o_me_isles from ⟨hz2_0, hkpz2_me, hI_me_isles, Kp.rf⟩)
  · have c1 := cv_ne (a := p0.toInt) (b := p1.toInt) rfl rfl c1
    refine wp_if (fun c3 => ?_) (fun c3 => ?_)
    · have c3 := cv_lt (a := p2.toInt) (b := 0) rfl (by decide) c3
      unfold bk_X8_beats_14
      refine wp_bd (s_X8_refuse o_me (-1 : Int32) hI_me ) (fun z4 hz4 => ?_)
      obtain ⟨hz4_0, hz4_1⟩ := hz4
      have hkpz4_me : Kp [] [] o_me z4.2 := Kp.rf.trans (hz4_1.mono (by decide) (by decide))
      refine wp_some ?_
      exact (show IvX8 z4.2 ∧ Kp [] [] o_me z4.2 ∧ IvX2 o_me_isles ∧ Kp [7, 8, 9, 10] [4] o_me_isles o_me_isles from ⟨hz4_0, hkpz4_me, hI_me_isles, Kp.rf⟩)
    · have c3 := cv_nlt (a := p2.toInt) (b := 0) rfl (by decide) c3
      refine wp_if (fun c5 => ?_) (fun c5 => ?_)
      · have c5 := cv_le (a := p2.toInt) (b := 1) rfl (by decide) c5
        refine wp_bd (s_X2_isPerson o_me_isles p0 hI_me_isles ) (fun z6 hz6 => ?_)
        obtain ⟨hz6_0, hz6_1⟩ := hz6
        refine wp_if (fun c7 => ?_) (fun c7 => ?_)
        · have c7 := cv_eq (a := z6.toInt) (b := 0) rfl (by decide) c7
          unfold bk_X8_beats_42
          refine wp_bd (s_X8_refuse o_me (-2 : Int32) hI_me ) (fun z8 hz8 => ?_)
          obtain ⟨hz8_0, hz8_1⟩ := hz8
          have hkpz8_me : Kp [] [] o_me z8.2 := Kp.rf.trans (hz8_1.mono (by decide) (by decide))
          refine wp_some ?_
          exact (show IvX8 z8.2 ∧ Kp [] [] o_me z8.2 ∧ IvX2 o_me_isles ∧ Kp [7, 8, 9, 10] [4] o_me_isles o_me_isles from ⟨hz8_0, hkpz8_me, hI_me_isles, Kp.rf⟩)
        · have c7z := c7
          have c7i := hz6_1 c7
          have c7 := cv_ne (a := z6.toInt) (b := 0) rfl (by decide) c7
          refine wp_bd (s_X2_isPerson o_me_isles p1 hI_me_isles ) (fun z9 hz9 => ?_)
          obtain ⟨hz9_0, hz9_1⟩ := hz9
          refine wp_if (fun c10 => ?_) (fun c10 => ?_)
          · have c10 := cv_eq (a := z9.toInt) (b := 0) rfl (by decide) c10
            unfold bk_X8_beats_42
            refine wp_bd (s_X8_refuse o_me (-2 : Int32) hI_me ) (fun z11 hz11 => ?_)
            obtain ⟨hz11_0, hz11_1⟩ := hz11
            have hkpz11_me : Kp [] [] o_me z11.2 := Kp.rf.trans (hz11_1.mono (by decide) (by decide))
            refine wp_some ?_
            exact (show IvX8 z11.2 ∧ Kp [] [] o_me z11.2 ∧ IvX2 o_me_isles ∧ Kp [7, 8, 9, 10] [4] o_me_isles o_me_isles from ⟨hz11_0, hkpz11_me, hI_me_isles, Kp.rf⟩)
          · have c10z := c10
            have c10i := hz9_1 c10
            have c10 := cv_ne (a := z9.toInt) (b := 0) rfl (by decide) c10
            refine wp_gd (zin_of (m := 7) rfl (by omega) (by omega)) ?_
            have t12 := i32_and (x := (gA o_me_isles 3 p0.toNatClampNeg) >>> (p1 &&& 31)) (y := (1 : Int32)) (m := 1) ⟨by decide, by decide⟩
            refine wp_lt (fun x13 ex13 => ?_)
            have tx13 : x13.toInt = (((gA o_me_isles 3 p0.toNatClampNeg) >>> (p1 &&& 31)) &&& (1 : Int32)).toInt := by rw [ex13]
            refine wp_gd (zin_of (m := 7) rfl (by omega) (by omega)) ?_
            refine wp_gd (zin_of (m := 7) rfl (by omega) (by omega)) ?_
            refine wp_lt (fun o14 eo14 => ?_)
            have hIo14 : IvX2 o14 := by rw [eo14]; exact hI_me_isles
            have ko14_k15 : (gI o14 7).toInt = (gI o_me_isles 7).toInt := by rw [eo14]; rfl
            have ko14_v : (gA o14 3 p0.toNatClampNeg).toInt = ((gA o_me_isles 3 p0.toNatClampNeg) ^^^ ((x13 ^^^ p2) <<< (p1 &&& 31))).toInt := by rw [eo14]; exact congrArg Int32.toInt (upd_eq (g := gA o_me_isles 3) (i := p0) (v := ((gA o_me_isles 3 p0.toNatClampNeg) ^^^ ((x13 ^^^ p2) <<< (p1 &&& 31)))))
            have hkpo14 : Kp [7, 8, 9, 10] [4] o_me_isles o14 := Kp.rf.trans (by rw [eo14]; exact Kp.tA (by decide))
            refine wp_bd (s_X8_grant o_me x13 hI_me ) (fun z16 hz16 => ?_)
            obtain ⟨hz16_0, hz16_1⟩ := hz16
            have hkpz16_me : Kp [] [] o_me z16.2 := Kp.rf.trans (hz16_1.mono (by decide) (by decide))
            refine wp_some ?_
            exact (show IvX8 z16.2 ∧ Kp [] [] o_me z16.2 ∧ IvX2 o14 ∧ Kp [7, 8, 9, 10] [4] o_me_isles o14 from ⟨hz16_0, hkpz16_me, hIo14, hkpo14⟩)
      · have c5 := cv_nle (a := p2.toInt) (b := 1) rfl (by decide) c5
        unfold bk_X8_beats_14
        refine wp_bd (s_X8_refuse o_me (-1 : Int32) hI_me ) (fun z17 hz17 => ?_)
        obtain ⟨hz17_0, hz17_1⟩ := hz17
        have hkpz17_me : Kp [] [] o_me z17.2 := Kp.rf.trans (hz17_1.mono (by decide) (by decide))
        refine wp_some ?_
        exact (show IvX8 z17.2 ∧ Kp [] [] o_me z17.2 ∧ IvX2 o_me_isles ∧ Kp [7, 8, 9, 10] [4] o_me_isles o_me_isles from ⟨hz17_0, hkpz17_me, hI_me_isles, Kp.rf⟩)

set_option maxHeartbeats 4000000 in
set_option maxRecDepth 100000 in
theorem s_X8_blots (o_me : Ob) (hI_me : IvX8 o_me)  : wp (f_X8_blots  o_me) (fun (y : Int32) => True) := by
  unfold f_X8_blots
  refine wp_some ?_
  exact trivial

set_option maxHeartbeats 4000000 in
set_option maxRecDepth 100000 in
theorem s_X8_nextDraw (p0 : Int32)  : wp (f_X8_nextDraw  p0) (fun (y : Int32) => True) := by
  have li0 : (1000003 : Int64).toInt = 1000003 := by decide
  have li1 : (1103 : Int64).toInt = 1103 := by decide
  have li2 : (12345 : Int64).toInt = 12345 := by decide
  unfold f_X8_nextDraw
  have rg1 := i32_rg p0
  have t2 : p0.toInt64.toInt = p0.toInt := Int32.toInt_toInt64 _
  refine wp_some ?_
  exact trivial

set_option maxHeartbeats 4000000 in
set_option maxRecDepth 100000 in
theorem s_X1_at (o_me : Ob) (p0 : Int32) (hI_me : IvX1 o_me)  : wp (f_X1_at  o_me p0) (fun (y : Int32) => ((-1) ≤ y.toInt ∧ y.toInt ≤ 6)) := by
  have li0 : (-1 : Int32).toInt = (-1) := by decide
  have li1 : (1 : Int32).toInt = 1 := by decide
  unfold f_X1_at
  refine wp_if (fun c1 => ?_) (fun c1 => ?_)
  · have c1 := cv_lt (a := p0.toInt) (b := 1) rfl (by decide) c1
    refine wp_some ?_
    exact (show ((-1) ≤ (-1 : Int32).toInt ∧ (-1 : Int32).toInt ≤ 6) from ⟨by decide, by decide⟩)
  · have c1 := cv_nlt (a := p0.toInt) (b := 1) rfl (by decide) c1
    have t2 := igX1_4 hI_me
    refine wp_if (fun c3 => ?_) (fun c3 => ?_)
    · have c3 := cv_gt (a := p0.toInt) (b := (gI o_me 4).toInt) rfl rfl c3
      refine wp_some ?_
      exact (show ((-1) ≤ (-1 : Int32).toInt ∧ (-1 : Int32).toInt ≤ 6) from ⟨by decide, by decide⟩)
    · have c3 := cv_ngt (a := p0.toInt) (b := (gI o_me 4).toInt) rfl rfl c3
      have t4 : (p0 - (1 : Int32)).toInt = p0.toInt - 1 := i32_sub rfl (by decide) (by omega) (by omega)
      refine wp_gd (zin_of (m := 7) rfl (by omega) (by omega)) ?_
      have t5 := iaX1_2_0 hI_me (j := p0 - (1 : Int32)) (by omega) (by omega)
      refine wp_some ?_
      exact (show ((-1) ≤ (gA o_me 2 (p0 - (1 : Int32)).toNatClampNeg).toInt ∧ (gA o_me 2 (p0 - (1 : Int32)).toNatClampNeg).toInt ≤ 6) from ⟨by omega, by omega⟩)

set_option maxHeartbeats 4000000 in
set_option maxRecDepth 100000 in
theorem s_X4_addPrizes (o_me : Ob) (p0 : Int32) (p1 : Int32) (hI_me : IvX4 o_me) (q0 : 0 ≤ p0.toInt ∧ p0.toInt ≤ 6) : wp (f_X4_addPrizes  o_me p0 p1) (fun (y : Ob) => IvX4 y ∧ Kp [] [0] o_me y) := by
  have li0 : (999 : Int32).toInt = 999 := by decide
  unfold f_X4_addPrizes
  refine wp_gd (zin_of (m := 7) rfl (by omega) (by omega)) ?_
  have rg2 := i32_rg ((gA o_me 1 p0.toNatClampNeg) + p1)
  have t1 : (-2147483648) ≤ (if ((gA o_me 1 p0.toNatClampNeg) + p1) < (999 : Int32) then ((gA o_me 1 p0.toNatClampNeg) + p1) else (999 : Int32)).toInt ∧ (if ((gA o_me 1 p0.toNatClampNeg) + p1) < (999 : Int32) then ((gA o_me 1 p0.toNatClampNeg) + p1) else (999 : Int32)).toInt ≤ 999 := z_min (a := 999) (b := ((gA o_me 1 p0.toNatClampNeg) + p1).toInt) (by decide) rfl (by omega) (by omega)
  refine wp_gd (zin_of (m := 7) rfl (by omega) (by omega)) ?_
  refine wp_lt (fun o3 eo3 => ?_)
  have hIo3 : IvX4 o3 := by rw [eo3]; exact hI_me
  have ko3_v : (gA o3 1 p0.toNatClampNeg).toInt = (if ((gA o_me 1 p0.toNatClampNeg) + p1) < (999 : Int32) then ((gA o_me 1 p0.toNatClampNeg) + p1) else (999 : Int32)).toInt := by rw [eo3]; exact congrArg Int32.toInt (upd_eq (g := gA o_me 1) (i := p0) (v := (if ((gA o_me 1 p0.toNatClampNeg) + p1) < (999 : Int32) then ((gA o_me 1 p0.toNatClampNeg) + p1) else (999 : Int32))))
  have hkpo3 : Kp [] [0] o_me o3 := Kp.rf.trans (by rw [eo3]; exact Kp.tA (by decide))
  refine wp_some ?_
  exact (show IvX4 o3 ∧ Kp [] [0] o_me o3 from ⟨hIo3, hkpo3⟩)

set_option maxHeartbeats 4000000 in
set_option maxRecDepth 100000 in
theorem s_X1_changedEntry (o_me : Ob) (o_me_isles : Ob) (o_me_isles_now : Ob) (p0 : Int32) (hI_me : IvX1 o_me) (hI_me_isles : IvX2 o_me_isles) (hI_me_isles_now : IvX4 o_me_isles_now) (q0 : 0 ≤ p0.toInt ∧ p0.toInt ≤ 6) : wp (f_X1_changedEntry  o_me o_me_isles o_me_isles_now p0) (fun (y : Int32 × Ob) => (0 ≤ y.1.toInt ∧ y.1.toInt ≤ 1) ∧ IvX4 y.2 ∧ Kp [] [0] o_me_isles_now y.2) := by
  have li0 : (1 : Int32).toInt = 1 := by decide
  unfold f_X1_changedEntry
  refine wp_lt (fun o1 eo1 => ?_)
  have hIo1 : IvX4 o1 := by rw [eo1]; exact hI_me_isles_now
  have ko1_v : (gI o1 2).toInt = ((gI o_me_isles_now 2) ^^^ ((1 : Int32) <<< (p0 &&& 31))).toInt := by rw [eo1]; rfl
  have hkpo1 : Kp [] [0] o_me_isles_now o1 := Kp.rf.trans (by rw [eo1]; exact Kp.sI (by decide))
  have t2 := i32_and (x := (gI o1 2) >>> (p0 &&& 31)) (y := (1 : Int32)) (m := 1) ⟨by decide, by decide⟩
  refine wp_some ?_
  exact (show (0 ≤ (((gI o1 2) >>> (p0 &&& 31)) &&& (1 : Int32)).toInt ∧ (((gI o1 2) >>> (p0 &&& 31)) &&& (1 : Int32)).toInt ≤ 1) ∧ IvX4 o1 ∧ Kp [] [0] o_me_isles_now o1 from ⟨⟨by omega, by omega⟩, hIo1, hkpo1⟩)

set_option maxHeartbeats 4000000 in
set_option maxRecDepth 100000 in
theorem s_X1_takenGap (o_me : Ob) (o_me_isles : Ob) (o_me_isles_now : Ob) (p0 : Int32) (hI_me : IvX1 o_me) (hI_me_isles : IvX2 o_me_isles) (hI_me_isles_now : IvX4 o_me_isles_now) (q0 : 0 ≤ p0.toInt ∧ p0.toInt ≤ 6) : wp (f_X1_takenGap  o_me o_me_isles o_me_isles_now p0) (fun (y : Int32 × Ob) => IvX4 y.2 ∧ Kp [] [0] o_me_isles_now y.2) := by
  have li0 : (0 : Int32).toInt = 0 := by decide
  unfold f_X1_takenGap
  refine wp_lt (fun x1 ex1 => ?_)
  have tx1 : x1.toInt = (gI o_me_isles_now 3).toInt := by rw [ex1]
  refine wp_bd (s_X4_addPrizes o_me_isles_now p0 x1 hI_me_isles_now ⟨by omega, by omega⟩) (fun z2 hz2 => ?_)
  obtain ⟨hz2_0, hz2_1⟩ := hz2
  have hkpz2_me_isles_now : Kp [] [0] o_me_isles_now z2 := Kp.rf.trans (hz2_1.mono (by decide) (by decide))
  refine wp_lt (fun o3 eo3 => ?_)
  have hIo3 : IvX4 o3 := by rw [eo3]; exact hz2_0
  have ko3_v : (gI o3 3).toInt = 0 := by rw [eo3]; exact (show ((0 : Int32)).toInt = _ from by decide)
  have hkpo3 : Kp [] [0] o_me_isles_now o3 := hkpz2_me_isles_now.trans (by rw [eo3]; exact Kp.sI (by decide))
  refine wp_some ?_
  exact (show IvX4 o3 ∧ Kp [] [0] o_me_isles_now o3 from ⟨hIo3, hkpo3⟩)

set_option maxHeartbeats 4000000 in
set_option maxRecDepth 100000 in
theorem s_X1_hasTradeOfLower (o_me : Ob) (o_me_isles : Ob) (o_me_isles_now : Ob) (p0 : Int32) (hI_me : IvX1 o_me) (hI_me_isles : IvX2 o_me_isles) (hI_me_isles_now : IvX4 o_me_isles_now) (q0 : 0 ≤ p0.toInt ∧ p0.toInt ≤ 6) : wp (f_X1_hasTradeOfLower  o_me o_me_isles o_me_isles_now p0) (fun (y : Int32) => (0 ≤ y.toInt ∧ y.toInt ≤ 1)) := by
  have li0 : (0 : Int32).toInt = 0 := by decide
  have li1 : (1 : Int32).toInt = 1 := by decide
  unfold f_X1_hasTradeOfLower
  have lp1 : ∀ (N1 : Nat) (v1_1 : Int32) (v2_1 : Int32), (0 ≤ v1_1.toInt ∧ v1_1.toInt ≤ 6) → (0 ≤ v2_1.toInt ∧ v2_1.toInt ≤ 6) → (v2_1.toInt ≤ v1_1.toInt + 0) → (v1_1.toInt ≤ p0.toInt + 0) → (p0.toInt ≤ v1_1.toInt + 0) → (v2_1.toInt ≤ p0.toInt + 0) → (6 - v2_1.toInt).toNat < N1 → wp (lp_X1_hasTradeOfLower_2 o_me o_me_isles o_me_isles_now  N1 (v1_1, v2_1)) (fun (y : Int32) => (0 ≤ y.toInt ∧ y.toInt ≤ 1)) := by
    intro N1
    induction N1 with
    | zero =>
      intro v1_1 v2_1 hh1 hh2 hh3 hh4 hh5 hh6 hN1
      exact absurd hN1 (Nat.not_lt_zero _)
    | succ N1 ihx =>
      have ih1 := ihx
      intro v1_1 v2_1 hh1 hh2 hh3 hh4 hh5 hh6 hN1
      show wp (lb_X1_hasTradeOfLower_2 o_me o_me_isles o_me_isles_now  (lp_X1_hasTradeOfLower_2 o_me o_me_isles o_me_isles_now  N1) v1_1 v2_1) (fun (y : Int32) => (0 ≤ y.toInt ∧ y.toInt ≤ 1))
      unfold lb_X1_hasTradeOfLower_2
      refine wp_if (fun c7 => ?_) (fun c7 => ?_)
      · have c7 := cv_ge (a := v2_1.toInt) (b := v1_1.toInt) rfl rfl c7
        refine wp_some ?_
        exact (show (0 ≤ (0 : Int32).toInt ∧ (0 : Int32).toInt ≤ 1) from ⟨by decide, by decide⟩)
      · have c7 := cv_nge (a := v2_1.toInt) (b := v1_1.toInt) rfl rfl c7
        refine wp_gd (zin_of (m := 7) rfl (by omega) (by omega)) ?_
        have t8 := iaX4_0_0 hI_me_isles_now (j := v2_1) (by omega) (by omega)
        refine wp_gd (zin_of (m := 7) rfl (by omega) (by omega)) ?_
        have t9 := iaX4_0_0 hI_me_isles_now (j := v1_1) (by omega) (by omega)
        refine wp_if (fun c10 => ?_) (fun c10 => ?_)
        · have c10 := cv_eq (a := (gA o_me_isles_now 0 v2_1.toNatClampNeg).toInt) (b := (gA o_me_isles_now 0 v1_1.toNatClampNeg).toInt) rfl rfl c10
          refine wp_some ?_
          exact (show (0 ≤ (1 : Int32).toInt ∧ (1 : Int32).toInt ≤ 1) from ⟨by decide, by decide⟩)
        · have c10 := cv_ne (a := (gA o_me_isles_now 0 v2_1.toNatClampNeg).toInt) (b := (gA o_me_isles_now 0 v1_1.toNatClampNeg).toInt) rfl rfl c10
          refine wp_lt (fun x11 ex11 => ?_)
          have tx11 : x11.toInt = v2_1.toInt + 1 := by rw [ex11]; exact i32_add rfl (by decide) (by omega) (by omega)
          exact ih1 v1_1 x11  ⟨by omega, by omega⟩ ⟨by omega, by omega⟩ (by omega) (by omega) (by omega) (by omega) (by omega)
  exact lp1 zfu p0 (0 : Int32)  ⟨by omega, by omega⟩ ⟨by decide, by decide⟩ (by omega) (by omega) (by omega) (by omega) (by show _ < 100000; omega)

set_option maxHeartbeats 4000000 in
set_option maxRecDepth 100000 in
theorem s_X4_isIn (o_me : Ob) (p0 : Int32) (hI_me : IvX4 o_me)  : wp (f_X4_isIn  o_me p0) (fun (y : Int32) => (0 ≤ y.toInt ∧ y.toInt ≤ 1)) := by
  have li0 : (0 : Int32).toInt = 0 := by decide
  have li1 : (1 : Int32).toInt = 1 := by decide
  unfold f_X4_isIn
  have t1 := i32_and (x := (gI o_me 2) >>> (p0 &&& 31)) (y := (1 : Int32)) (m := 1) ⟨by decide, by decide⟩
  refine wp_if (fun c2 => ?_) (fun c2 => ?_)
  · have c2 := cv_eq (a := (((gI o_me 2) >>> (p0 &&& 31)) &&& (1 : Int32)).toInt) (b := 1) rfl (by decide) c2
    refine wp_some ?_
    exact (show (0 ≤ (1 : Int32).toInt ∧ (1 : Int32).toInt ≤ 1) from ⟨by decide, by decide⟩)
  · have c2 := cv_ne (a := (((gI o_me 2) >>> (p0 &&& 31)) &&& (1 : Int32)).toInt) (b := 1) rfl (by decide) c2
    refine wp_some ?_
    exact (show (0 ≤ (0 : Int32).toInt ∧ (0 : Int32).toInt ≤ 1) from ⟨by decide, by decide⟩)

set_option maxHeartbeats 4000000 in
set_option maxRecDepth 100000 in
theorem s_X7_isCircle (o_me : Ob) (o_me_court_isles : Ob) (p0 : Int32) (p1 : Int32) (p2 : Int32) (hI_me : IvX7 o_me) (hI_me_court_isles : IvX2 o_me_court_isles) (q0 : 0 ≤ p0.toInt ∧ p0.toInt ≤ 6) (q1 : 0 ≤ p1.toInt ∧ p1.toInt ≤ 6) (q2 : 0 ≤ p2.toInt ∧ p2.toInt ≤ 6) : wp (f_X7_isCircle  o_me o_me_court_isles p0 p1 p2) (fun (y : Int32) => (0 ≤ y.toInt ∧ y.toInt ≤ 1)) := by
  have li0 : (0 : Int32).toInt = 0 := by decide
  have li1 : (1 : Int32).toInt = 1 := by decide
  unfold f_X7_isCircle
  refine wp_gd (zin_of (m := 7) rfl (by omega) (by omega)) ?_
  refine wp_gd (zin_of (m := 7) rfl (by omega) (by omega)) ?_
  refine wp_gd (zin_of (m := 7) rfl (by omega) (by omega)) ?_
  have t1 := i32_and (x := (((gA o_me_court_isles 3 p0.toNatClampNeg) >>> (p1 &&& 31)) &&& ((gA o_me_court_isles 3 p1.toNatClampNeg) >>> (p2 &&& 31))) &&& ((gA o_me_court_isles 3 p2.toNatClampNeg) >>> (p0 &&& 31))) (y := (1 : Int32)) (m := 1) ⟨by decide, by decide⟩
  refine wp_if (fun c2 => ?_) (fun c2 => ?_)
  · have c2 := cv_eq (a := (((((gA o_me_court_isles 3 p0.toNatClampNeg) >>> (p1 &&& 31)) &&& ((gA o_me_court_isles 3 p1.toNatClampNeg) >>> (p2 &&& 31))) &&& ((gA o_me_court_isles 3 p2.toNatClampNeg) >>> (p0 &&& 31))) &&& (1 : Int32)).toInt) (b := 1) rfl (by decide) c2
    refine wp_some ?_
    exact (show (0 ≤ (1 : Int32).toInt ∧ (1 : Int32).toInt ≤ 1) from ⟨by decide, by decide⟩)
  · have c2 := cv_ne (a := (((((gA o_me_court_isles 3 p0.toNatClampNeg) >>> (p1 &&& 31)) &&& ((gA o_me_court_isles 3 p1.toNatClampNeg) >>> (p2 &&& 31))) &&& ((gA o_me_court_isles 3 p2.toNatClampNeg) >>> (p0 &&& 31))) &&& (1 : Int32)).toInt) (b := 1) rfl (by decide) c2
    refine wp_some ?_
    exact (show (0 ≤ (0 : Int32).toInt ∧ (0 : Int32).toInt ≤ 1) from ⟨by decide, by decide⟩)

set_option maxHeartbeats 4000000 in
set_option maxRecDepth 100000 in
theorem s_X7_circleCount (o_me : Ob) (o_me_court_isles : Ob) (hI_me : IvX7 o_me) (hI_me_court_isles : IvX2 o_me_court_isles)  : wp (f_X7_circleCount  o_me o_me_court_isles) (fun (y : Int32) => True) := by
  have li0 : (0 : Int32).toInt = 0 := by decide
  have li1 : (1 : Int32).toInt = 1 := by decide
  unfold f_X7_circleCount
  have lp1 : ∀ (N1 : Nat) (v1_1 : Int32) (v2_1 : Int32), (0 ≤ v2_1.toInt ∧ v2_1.toInt ≤ 7) → (7 - v2_1.toInt).toNat < N1 → wp (lp_X7_circleCount_4 o_me o_me_court_isles  N1 (v1_1, v2_1)) (fun (y : Int32) => True) := by
    intro N1
    induction N1 with
    | zero =>
      intro v1_1 v2_1 hh1 hN1
      exact absurd hN1 (Nat.not_lt_zero _)
    | succ N1 ihx =>
      have ih1 := ihx
      intro v1_1 v2_1 hh1 hN1
      show wp (lb_X7_circleCount_4 o_me o_me_court_isles  (lp_X7_circleCount_4 o_me o_me_court_isles  N1) v1_1 v2_1) (fun (y : Int32) => True)
      unfold lb_X7_circleCount_4
      have t2 := igX2_7 hI_me_court_isles
      refine wp_if (fun c3 => ?_) (fun c3 => ?_)
      · have c3 := cv_ge (a := v2_1.toInt) (b := (gI o_me_court_isles 7).toInt) rfl rfl c3
        refine wp_some ?_
        exact trivial
      · have c3 := cv_nge (a := v2_1.toInt) (b := (gI o_me_court_isles 7).toInt) rfl rfl c3
        have t4 : (v2_1 + (1 : Int32)).toInt = v2_1.toInt + 1 := i32_add rfl (by decide) (by omega) (by omega)
        refine wp_lt (fun x5 ex5 => ?_)
        have tx5 : x5.toInt = (v2_1 + (1 : Int32)).toInt := by rw [ex5]
        have lp2 : ∀ (N2 : Nat) (v1_2 : Int32) (v2_2 : Int32) (v3_2 : Int32), (0 ≤ v2_2.toInt ∧ v2_2.toInt ≤ 6) → (1 ≤ v3_2.toInt ∧ v3_2.toInt ≤ 7) → (v2_2.toInt ≤ v3_2.toInt + (-1)) → (v2_2.toInt ≤ x5.toInt + (-1)) → (x5.toInt ≤ v2_2.toInt + 1) → (v2_2.toInt ≤ v2_1.toInt + 0) → (v2_1.toInt ≤ v2_2.toInt + 0) → (v2_2.toInt ≤ (gI o_me_court_isles 7).toInt + (-1)) → (x5.toInt ≤ v3_2.toInt + 0) → (v2_1.toInt ≤ v3_2.toInt + (-1)) → (v3_2.toInt ≤ (gI o_me_court_isles 7).toInt + 0) → (7 - v3_2.toInt).toNat < N2 → wp (lp_X7_circleCount_19 o_me o_me_court_isles (lp_X7_circleCount_4 o_me o_me_court_isles  N1) N2 (v1_2, v2_2, v3_2)) (fun (y : Int32) => True) := by
          intro N2
          induction N2 with
          | zero =>
            intro v1_2 v2_2 v3_2 hh6 hh7 hh8 hh9 hh10 hh11 hh12 hh13 hh14 hh15 hh16 hN2
            exact absurd hN2 (Nat.not_lt_zero _)
          | succ N2 ihx =>
            have ih2 := ihx
            intro v1_2 v2_2 v3_2 hh6 hh7 hh8 hh9 hh10 hh11 hh12 hh13 hh14 hh15 hh16 hN2
            show wp (lb_X7_circleCount_19 o_me o_me_court_isles (lp_X7_circleCount_4 o_me o_me_court_isles  N1) (lp_X7_circleCount_19 o_me o_me_court_isles (lp_X7_circleCount_4 o_me o_me_court_isles  N1) N2) v1_2 v2_2 v3_2) (fun (y : Int32) => True)
            unfold lb_X7_circleCount_19
            refine wp_if (fun c17 => ?_) (fun c17 => ?_)
            · have c17 := cv_ge (a := v3_2.toInt) (b := (gI o_me_court_isles 7).toInt) rfl rfl c17
              refine wp_lt (fun x18 ex18 => ?_)
              have tx18 : x18.toInt = v2_2.toInt + 1 := by rw [ex18]; exact i32_add rfl (by decide) (by omega) (by omega)
              exact ih1 v1_2 x18  ⟨by omega, by omega⟩ (by omega)
            · have c17 := cv_nge (a := v3_2.toInt) (b := (gI o_me_court_isles 7).toInt) rfl rfl c17
              have t19 : (v3_2 + (1 : Int32)).toInt = v3_2.toInt + 1 := i32_add rfl (by decide) (by omega) (by omega)
              refine wp_lt (fun x20 ex20 => ?_)
              have tx20 : x20.toInt = (v3_2 + (1 : Int32)).toInt := by rw [ex20]
              have lp3 : ∀ (N3 : Nat) (v1_3 : Int32) (v2_3 : Int32) (v3_3 : Int32) (v4_3 : Int32), (0 ≤ v2_3.toInt ∧ v2_3.toInt ≤ 5) → (1 ≤ v3_3.toInt ∧ v3_3.toInt ≤ 6) → (2 ≤ v4_3.toInt ∧ v4_3.toInt ≤ 7) → (v2_3.toInt ≤ v3_3.toInt + (-1)) → (v2_3.toInt ≤ v4_3.toInt + (-2)) → (v3_3.toInt ≤ v4_3.toInt + (-1)) → (v2_3.toInt ≤ v2_1.toInt + 0) → (v2_1.toInt ≤ v2_3.toInt + 0) → (v2_3.toInt ≤ x5.toInt + (-1)) → (x5.toInt ≤ v2_3.toInt + 1) → (v2_3.toInt ≤ v2_2.toInt + 0) → (v2_2.toInt ≤ v2_3.toInt + 0) → (v2_3.toInt ≤ v3_2.toInt + (-1)) → (v2_3.toInt ≤ x20.toInt + (-2)) → (v2_3.toInt ≤ (gI o_me_court_isles 7).toInt + (-2)) → (v2_1.toInt ≤ v3_3.toInt + (-1)) → (x5.toInt ≤ v3_3.toInt + 0) → (v2_2.toInt ≤ v3_3.toInt + (-1)) → (v3_3.toInt ≤ v3_2.toInt + 0) → (v3_2.toInt ≤ v3_3.toInt + 0) → (v3_3.toInt ≤ x20.toInt + (-1)) → (x20.toInt ≤ v3_3.toInt + 1) → (v3_3.toInt ≤ (gI o_me_court_isles 7).toInt + (-1)) → (v2_1.toInt ≤ v4_3.toInt + (-2)) → (x5.toInt ≤ v4_3.toInt + (-1)) → (v2_2.toInt ≤ v4_3.toInt + (-2)) → (v3_2.toInt ≤ v4_3.toInt + (-1)) → (x20.toInt ≤ v4_3.toInt + 0) → (v4_3.toInt ≤ (gI o_me_court_isles 7).toInt + 0) → (7 - v4_3.toInt).toNat < N3 → wp (lp_X7_circleCount_35 o_me o_me_court_isles (lp_X7_circleCount_4 o_me o_me_court_isles  N1) (lp_X7_circleCount_19 o_me o_me_court_isles (lp_X7_circleCount_4 o_me o_me_court_isles  N1) N2) N3 (v1_3, v2_3, v3_3, v4_3)) (fun (y : Int32) => True) := by
                intro N3
                induction N3 with
                | zero =>
                  intro v1_3 v2_3 v3_3 v4_3 hh21 hh22 hh23 hh24 hh25 hh26 hh27 hh28 hh29 hh30 hh31 hh32 hh33 hh34 hh35 hh36 hh37 hh38 hh39 hh40 hh41 hh42 hh43 hh44 hh45 hh46 hh47 hh48 hh49 hN3
                  exact absurd hN3 (Nat.not_lt_zero _)
                | succ N3 ihx =>
                  have ih3 := ihx
                  intro v1_3 v2_3 v3_3 v4_3 hh21 hh22 hh23 hh24 hh25 hh26 hh27 hh28 hh29 hh30 hh31 hh32 hh33 hh34 hh35 hh36 hh37 hh38 hh39 hh40 hh41 hh42 hh43 hh44 hh45 hh46 hh47 hh48 hh49 hN3
                  show wp (lb_X7_circleCount_35 o_me o_me_court_isles (lp_X7_circleCount_4 o_me o_me_court_isles  N1) (lp_X7_circleCount_19 o_me o_me_court_isles (lp_X7_circleCount_4 o_me o_me_court_isles  N1) N2) (lp_X7_circleCount_35 o_me o_me_court_isles (lp_X7_circleCount_4 o_me o_me_court_isles  N1) (lp_X7_circleCount_19 o_me o_me_court_isles (lp_X7_circleCount_4 o_me o_me_court_isles  N1) N2) N3) v1_3 v2_3 v3_3 v4_3) (fun (y : Int32) => True)
                  unfold lb_X7_circleCount_35
                  refine wp_if (fun c50 => ?_) (fun c50 => ?_)
                  · have c50 := cv_ge (a := v4_3.toInt) (b := (gI o_me_court_isles 7).toInt) rfl rfl c50
                    refine wp_lt (fun x51 ex51 => ?_)
                    have tx51 : x51.toInt = v3_3.toInt + 1 := by rw [ex51]; exact i32_add rfl (by decide) (by omega) (by omega)
                    exact ih2 v1_3 v2_3 x51  ⟨by omega, by omega⟩ ⟨by omega, by omega⟩ (by omega) (by omega) (by omega) (by omega) (by omega) (by omega) (by omega) (by omega) (by omega) (by omega)
                  · have c50 := cv_nge (a := v4_3.toInt) (b := (gI o_me_court_isles 7).toInt) rfl rfl c50
                    refine wp_bd (s_X7_isCircle o_me o_me_court_isles v2_3 v3_3 v4_3 hI_me hI_me_court_isles ⟨by omega, by omega⟩ ⟨by omega, by omega⟩ ⟨by omega, by omega⟩) (fun z52 hz52 => ?_)
                    have hz52_0 := hz52
                    refine wp_if (fun c53 => ?_) (fun c53 => ?_)
                    · have c53 := cv_eq (a := z52.toInt) (b := 0) rfl (by decide) c53
                      refine wp_bd (s_X7_isCircle o_me o_me_court_isles v2_3 v4_3 v3_3 hI_me hI_me_court_isles ⟨by omega, by omega⟩ ⟨by omega, by omega⟩ ⟨by omega, by omega⟩) (fun z54 hz54 => ?_)
                      have hz54_0 := hz54
                      refine wp_if (fun c55 => ?_) (fun c55 => ?_)
                      · have c55 := cv_eq (a := z54.toInt) (b := 0) rfl (by decide) c55
                        unfold bk_X7_circleCount_72
                        refine wp_lt (fun x56 ex56 => ?_)
                        have tx56 : x56.toInt = v4_3.toInt + 1 := by rw [ex56]; exact i32_add rfl (by decide) (by omega) (by omega)
                        exact ih3 v1_3 v2_3 v3_3 x56  ⟨by omega, by omega⟩ ⟨by omega, by omega⟩ ⟨by omega, by omega⟩ (by omega) (by omega) (by omega) (by omega) (by omega) (by omega) (by omega) (by omega) (by omega) (by omega) (by omega) (by omega) (by omega) (by omega) (by omega) (by omega) (by omega) (by omega) (by omega) (by omega) (by omega) (by omega) (by omega) (by omega) (by omega) (by omega) (by omega)
                      · have c55z := c55
                        have c55 := cv_ne (a := z54.toInt) (b := 0) rfl (by decide) c55
                        unfold bk_X7_circleCount_69
                        refine wp_lt (fun x57 ex57 => ?_)
                        unfold bk_X7_circleCount_72
                        refine wp_lt (fun x58 ex58 => ?_)
                        have tx58 : x58.toInt = v4_3.toInt + 1 := by rw [ex58]; exact i32_add rfl (by decide) (by omega) (by omega)
                        exact ih3 x57 v2_3 v3_3 x58  ⟨by omega, by omega⟩ ⟨by omega, by omega⟩ ⟨by omega, by omega⟩ (by omega) (by omega) (by omega) (by omega) (by omega) (by omega) (by omega) (by omega) (by omega) (by omega) (by omega) (by omega) (by omega) (by omega) (by omega) (by omega) (by omega) (by omega) (by omega) (by omega) (by omega) (by omega) (by omega) (by omega) (by omega) (by omega) (by omega)
                    · have c53z := c53
                      have c53 := cv_ne (a := z52.toInt) (b := 0) rfl (by decide) c53
                      unfold bk_X7_circleCount_69
                      refine wp_lt (fun x59 ex59 => ?_)
                      unfold bk_X7_circleCount_72
                      refine wp_lt (fun x60 ex60 => ?_)
                      have tx60 : x60.toInt = v4_3.toInt + 1 := by rw [ex60]; exact i32_add rfl (by decide) (by omega) (by omega)
                      exact ih3 x59 v2_3 v3_3 x60  ⟨by omega, by omega⟩ ⟨by omega, by omega⟩ ⟨by omega, by omega⟩ (by omega) (by omega) (by omega) (by omega) (by omega) (by omega) (by omega) (by omega) (by omega) (by omega) (by omega) (by omega) (by omega) (by omega) (by omega) (by omega) (by omega) (by omega) (by omega) (by omega) (by omega) (by omega) (by omega) (by omega) (by omega) (by omega) (by omega)
              exact lp3 zfu v1_2 v2_2 v3_2 x20  ⟨by omega, by omega⟩ ⟨by omega, by omega⟩ ⟨by omega, by omega⟩ (by omega) (by omega) (by omega) (by omega) (by omega) (by omega) (by omega) (by omega) (by omega) (by omega) (by omega) (by omega) (by omega) (by omega) (by omega) (by omega) (by omega) (by omega) (by omega) (by omega) (by omega) (by omega) (by omega) (by omega) (by omega) (by omega) (by show _ < 100000; omega)
        exact lp2 zfu v1_1 v2_1 x5  ⟨by omega, by omega⟩ ⟨by omega, by omega⟩ (by omega) (by omega) (by omega) (by omega) (by omega) (by omega) (by omega) (by omega) (by omega) (by show _ < 100000; omega)
  exact lp1 zfu (0 : Int32) (0 : Int32)  ⟨by decide, by decide⟩ (by show _ < 100000; omega)

set_option maxHeartbeats 4000000 in
set_option maxRecDepth 100000 in
theorem s_X8_circles (o_me : Ob) (o_me_isles : Ob) (o_me_study : Ob) (hI_me : IvX8 o_me) (hI_me_isles : IvX2 o_me_isles) (hI_me_study : IvX7 o_me_study)  : wp (f_X8_circles  o_me o_me_isles o_me_study) (fun (y : Int32) => True) := by
  unfold f_X8_circles
  refine wp_bd (s_X7_circleCount o_me_study o_me_isles hI_me_study hI_me_isles ) (fun z1 hz1 => ?_)
  refine wp_some ?_
  exact trivial

set_option maxHeartbeats 4000000 in
set_option maxRecDepth 100000 in
theorem s_X2_allPrizes (o_me : Ob) (o_me_now : Ob) (hI_me : IvX2 o_me) (hI_me_now : IvX4 o_me_now)  : wp (f_X2_allPrizes  o_me o_me_now) (fun (y : Int32) => True) := by
  have li0 : (0 : Int32).toInt = 0 := by decide
  unfold f_X2_allPrizes
  have lp1 : ∀ (N1 : Nat) (v1_1 : Int32) (v2_1 : Int32), (0 ≤ v2_1.toInt ∧ v2_1.toInt ≤ 7) → (7 - v2_1.toInt).toNat < N1 → wp (lp_X2_allPrizes_4 o_me o_me_now  N1 (v1_1, v2_1)) (fun (y : Int32) => True) := by
    intro N1
    induction N1 with
    | zero =>
      intro v1_1 v2_1 hh1 hN1
      exact absurd hN1 (Nat.not_lt_zero _)
    | succ N1 ihx =>
      have ih1 := ihx
      intro v1_1 v2_1 hh1 hN1
      show wp (lb_X2_allPrizes_4 o_me o_me_now  (lp_X2_allPrizes_4 o_me o_me_now  N1) v1_1 v2_1) (fun (y : Int32) => True)
      unfold lb_X2_allPrizes_4
      have t2 := igX2_7 hI_me
      refine wp_if (fun c3 => ?_) (fun c3 => ?_)
      · have c3 := cv_ge (a := v2_1.toInt) (b := (gI o_me 7).toInt) rfl rfl c3
        refine wp_some ?_
        exact trivial
      · have c3 := cv_nge (a := v2_1.toInt) (b := (gI o_me 7).toInt) rfl rfl c3
        refine wp_gd (zin_of (m := 7) rfl (by omega) (by omega)) ?_
        refine wp_lt (fun x4 ex4 => ?_)
        have tx4 : x4.toInt = (v1_1 + (gA o_me_now 1 v2_1.toNatClampNeg)).toInt := by rw [ex4]
        refine wp_lt (fun x5 ex5 => ?_)
        have tx5 : x5.toInt = v2_1.toInt + 1 := by rw [ex5]; exact i32_add rfl (by decide) (by omega) (by omega)
        exact ih1 x4 x5  ⟨by omega, by omega⟩ (by omega)
  exact lp1 zfu (0 : Int32) (0 : Int32)  ⟨by decide, by decide⟩ (by show _ < 100000; omega)

set_option maxHeartbeats 4000000 in
set_option maxRecDepth 100000 in
theorem s_X2_term (o_me : Ob) (o_me_now : Ob) (p0 : Int32) (hI_me : IvX2 o_me) (hI_me_now : IvX4 o_me_now)  : wp (f_X2_term  o_me o_me_now p0) (fun (y : Int32) => True) := by
  have li0 : (1 : Int32).toInt = 1 := by decide
  unfold f_X2_term
  refine wp_if (fun c1 => ?_) (fun c1 => ?_)
  · have c1 := cv_eq (a := p0.toInt) (b := 0) rfl (by decide) c1
    refine wp_some ?_
    exact trivial
  · have c1z := c1
    have c1 := cv_ne (a := p0.toInt) (b := 0) rfl (by decide) c1
    refine wp_if (fun c2 => ?_) (fun c2 => ?_)
    · have c2 := cv_eq (a := p0.toInt) (b := 1) rfl (by decide) c2
      refine wp_some ?_
      exact trivial
    · have c2 := cv_ne (a := p0.toInt) (b := 1) rfl (by decide) c2
      refine wp_some ?_
      exact trivial

set_option maxHeartbeats 4000000 in
set_option maxRecDepth 100000 in
theorem s_X8_count (o_me : Ob) (o_me_reader : Ob) (o_me_isles : Ob) (o_me_isles_now : Ob) (o_me_past : Ob) (p0 : Int32) (hI_me : IvX8 o_me) (hI_me_reader : IvX6 o_me_reader) (hI_me_isles : IvX2 o_me_isles) (hI_me_isles_now : IvX4 o_me_isles_now) (hI_me_past : IvX5 o_me_past)  : wp (f_X8_count  o_me o_me_reader o_me_isles o_me_isles_now o_me_past p0) (fun (y : Int32) => True) := by
  have li0 : (-1 : Int32).toInt = (-1) := by decide
  have li1 : (0 : Int32).toInt = 0 := by decide
  have li2 : (1 : Int32).toInt = 1 := by decide
  have li3 : (2 : Int32).toInt = 2 := by decide
  have li4 : (3 : Int32).toInt = 3 := by decide
  have li5 : (5 : Int32).toInt = 5 := by decide
  have li6 : (6 : Int32).toInt = 6 := by decide
  unfold f_X8_count
  refine wp_if (fun c1 => ?_) (fun c1 => ?_)
  · have c1 := cv_eq (a := p0.toInt) (b := 0) rfl (by decide) c1
    have t2 := igX2_7 hI_me_isles
    refine wp_some ?_
    exact trivial
  have c1 := cv_ne (a := p0.toInt) (b := 0) rfl (by decide) c1
  refine wp_if (fun c3 => ?_) (fun c3 => ?_)
  · have c3 := cv_eq (a := p0.toInt) (b := 1) rfl (by decide) c3
    refine wp_bd (s_J6_bitCount_0f7a4 (gI o_me_isles_now 2)  ) (fun z4 hz4 => ?_)
    have hz4_0 := hz4
    refine wp_some ?_
    exact trivial
  have c3 := cv_ne (a := p0.toInt) (b := 1) rfl (by decide) c3
  refine wp_if (fun c5 => ?_) (fun c5 => ?_)
  · have c5 := cv_eq (a := p0.toInt) (b := 2) rfl (by decide) c5
    refine wp_some ?_
    exact trivial
  have c5 := cv_ne (a := p0.toInt) (b := 2) rfl (by decide) c5
  refine wp_if (fun c6 => ?_) (fun c6 => ?_)
  · have c6 := cv_eq (a := p0.toInt) (b := 3) rfl (by decide) c6
    refine wp_bd (s_X2_allPrizes o_me_isles o_me_isles_now hI_me_isles hI_me_isles_now ) (fun z7 hz7 => ?_)
    refine wp_some ?_
    exact trivial
  have c6 := cv_ne (a := p0.toInt) (b := 3) rfl (by decide) c6
  refine wp_if (fun c8 => ?_) (fun c8 => ?_)
  · have c8 := cv_eq (a := p0.toInt) (b := 4) rfl (by decide) c8
    have t9 := igX2_8 hI_me_isles
    refine wp_some ?_
    exact trivial
  have c8 := cv_ne (a := p0.toInt) (b := 4) rfl (by decide) c8
  refine wp_if (fun c10 => ?_) (fun c10 => ?_)
  · have c10 := cv_eq (a := p0.toInt) (b := 5) rfl (by decide) c10
    have t11 := igX2_9 hI_me_isles
    refine wp_some ?_
    exact trivial
  have c10 := cv_ne (a := p0.toInt) (b := 5) rfl (by decide) c10
  refine wp_if (fun c12 => ?_) (fun c12 => ?_)
  · have c12 := cv_eq (a := p0.toInt) (b := 6) rfl (by decide) c12
    have t13 := igX5_3 hI_me_past
    refine wp_some ?_
    exact trivial
  have c12 := cv_ne (a := p0.toInt) (b := 6) rfl (by decide) c12
  refine wp_if (fun c14 => ?_) (fun c14 => ?_)
  · have c14 := cv_eq (a := p0.toInt) (b := 7) rfl (by decide) c14
    have t15 := igX6_2 hI_me_reader
    refine wp_some ?_
    exact trivial
  have c14 := cv_ne (a := p0.toInt) (b := 7) rfl (by decide) c14
  refine wp_if (fun c16 => ?_) (fun c16 => ?_)
  · have c16 := cv_eq (a := p0.toInt) (b := 8) rfl (by decide) c16
    refine wp_some ?_
    exact trivial
  have c16 := cv_ne (a := p0.toInt) (b := 8) rfl (by decide) c16
  refine wp_if (fun c17 => ?_) (fun c17 => ?_)
  · have c17 := cv_eq (a := p0.toInt) (b := 9) rfl (by decide) c17
    refine wp_some ?_
    exact trivial
  have c17 := cv_ne (a := p0.toInt) (b := 9) rfl (by decide) c17
  refine wp_if (fun c18 => ?_) (fun c18 => ?_)
  · have c18 := cv_eq (a := p0.toInt) (b := 10) rfl (by decide) c18
    refine wp_some ?_
    exact trivial
  have c18 := cv_ne (a := p0.toInt) (b := 10) rfl (by decide) c18
  refine wp_if (fun c19 => ?_) (fun c19 => ?_)
  · have c19 := cv_eq (a := p0.toInt) (b := 11) rfl (by decide) c19
    refine wp_some ?_
    exact trivial
  have c19 := cv_ne (a := p0.toInt) (b := 11) rfl (by decide) c19
  refine wp_if (fun c20 => ?_) (fun c20 => ?_)
  · have c20 := cv_eq (a := p0.toInt) (b := 12) rfl (by decide) c20
    refine wp_some ?_
    exact trivial
  have c20 := cv_ne (a := p0.toInt) (b := 12) rfl (by decide) c20
  refine wp_if (fun c21 => ?_) (fun c21 => ?_)
  · have c21 := cv_eq (a := p0.toInt) (b := 13) rfl (by decide) c21
    have t22 := igX2_10 hI_me_isles
    refine wp_some ?_
    exact trivial
  have c21 := cv_ne (a := p0.toInt) (b := 13) rfl (by decide) c21
  refine wp_if (fun c23 => ?_) (fun c23 => ?_)
  · have c23 := cv_eq (a := p0.toInt) (b := 14) rfl (by decide) c23
    refine wp_bd (s_X2_term o_me_isles o_me_isles_now (0 : Int32) hI_me_isles hI_me_isles_now ) (fun z24 hz24 => ?_)
    refine wp_some ?_
    exact trivial
  have c23 := cv_ne (a := p0.toInt) (b := 14) rfl (by decide) c23
  refine wp_if (fun c25 => ?_) (fun c25 => ?_)
  · have c25 := cv_eq (a := p0.toInt) (b := 15) rfl (by decide) c25
    refine wp_bd (s_X2_term o_me_isles o_me_isles_now (1 : Int32) hI_me_isles hI_me_isles_now ) (fun z26 hz26 => ?_)
    refine wp_some ?_
    exact trivial
  have c25 := cv_ne (a := p0.toInt) (b := 15) rfl (by decide) c25
  refine wp_if (fun c27 => ?_) (fun c27 => ?_)
  · have c27 := cv_eq (a := p0.toInt) (b := 16) rfl (by decide) c27
    refine wp_bd (s_X2_term o_me_isles o_me_isles_now (2 : Int32) hI_me_isles hI_me_isles_now ) (fun z28 hz28 => ?_)
    refine wp_some ?_
    exact trivial
  have c27 := cv_ne (a := p0.toInt) (b := 16) rfl (by decide) c27
  refine wp_some ?_
  exact trivial

set_option maxHeartbeats 4000000 in
set_option maxRecDepth 100000 in
theorem s_X4_told (o_me : Ob) (p0 : Int32) (p1 : Int32) (hI_me : IvX4 o_me) (q0 : 0 ≤ p0.toInt ∧ p0.toInt ≤ 6) : wp (f_X4_told  o_me p0 p1) (fun (y : Int32) => True) := by
  have li0 : (-1 : Int32).toInt = (-1) := by decide
  have li1 : (1 : Int32).toInt = 1 := by decide
  have li2 : (2 : Int32).toInt = 2 := by decide
  unfold f_X4_told
  refine wp_if (fun c1 => ?_) (fun c1 => ?_)
  · have c1 := cv_eq (a := p1.toInt) (b := 0) rfl (by decide) c1
    refine wp_gd (zin_of (m := 7) rfl (by omega) (by omega)) ?_
    have t2 := iaX4_0_0 hI_me (j := p0) (by omega) (by omega)
    refine wp_some ?_
    exact trivial
  · have c1z := c1
    have c1 := cv_ne (a := p1.toInt) (b := 0) rfl (by decide) c1
    refine wp_if (fun c3 => ?_) (fun c3 => ?_)
    · have c3 := cv_eq (a := p1.toInt) (b := 1) rfl (by decide) c3
      refine wp_gd (zin_of (m := 7) rfl (by omega) (by omega)) ?_
      refine wp_some ?_
      exact trivial
    · have c3 := cv_ne (a := p1.toInt) (b := 1) rfl (by decide) c3
      refine wp_if (fun c4 => ?_) (fun c4 => ?_)
      · have c4 := cv_eq (a := p1.toInt) (b := 2) rfl (by decide) c4
        have t5 := i32_and (x := (gI o_me 2) >>> (p0 &&& 31)) (y := (1 : Int32)) (m := 1) ⟨by decide, by decide⟩
        refine wp_some ?_
        exact trivial
      · have c4 := cv_ne (a := p1.toInt) (b := 2) rfl (by decide) c4
        refine wp_some ?_
        exact trivial

set_option maxHeartbeats 4000000 in
set_option maxRecDepth 100000 in
theorem s_X8_drawn (o_me : Ob) (o_me_paper : Ob) (o_me_paper_now : Ob) (p0 : Int32) (p1 : Int32) (hI_me : IvX8 o_me) (hI_me_paper : IvX2 o_me_paper) (hI_me_paper_now : IvX4 o_me_paper_now)  : wp (f_X8_drawn  o_me o_me_paper o_me_paper_now p0 p1) (fun (y : Int32) => True) := by
  have li0 : (-1 : Int32).toInt = (-1) := by decide
  unfold f_X8_drawn
  refine wp_bd (s_X2_isPerson o_me_paper p0 hI_me_paper ) (fun z1 hz1 => ?_)
  obtain ⟨hz1_0, hz1_1⟩ := hz1
  refine wp_if (fun c2 => ?_) (fun c2 => ?_)
  · have c2 := cv_eq (a := z1.toInt) (b := 0) rfl (by decide) c2
    refine wp_some ?_
    exact trivial
  · have c2z := c2
    have c2i := hz1_1 c2
    have c2 := cv_ne (a := z1.toInt) (b := 0) rfl (by decide) c2
    refine wp_bd (s_X4_told o_me_paper_now p0 p1 hI_me_paper_now ⟨by omega, by omega⟩) (fun z3 hz3 => ?_)
    refine wp_some ?_
    exact trivial

set_option maxHeartbeats 4000000 in
set_option maxRecDepth 100000 in
theorem s_X8_end (o_me : Ob) (o_me_reader : Ob) (p0 : Int32) (hI_me : IvX8 o_me) (hI_me_reader : IvX6 o_me_reader)  : wp (f_X8_end  o_me o_me_reader p0) (fun (y : Int32 × Ob) => ((-1) ≤ y.1.toInt ∧ y.1.toInt ≤ 400) ∧ IvX6 y.2 ∧ Kp [4, 5, 6, 7, 8] [] o_me_reader y.2) := by
  have li0 : (-1 : Int32).toInt = (-1) := by decide
  unfold f_X8_end
  refine wp_if (fun c1 => ?_) (fun c1 => ?_)
  · have c1 := cv_lt (a := p0.toInt) (b := 0) rfl (by decide) c1
    refine wp_some ?_
    exact (show ((-1) ≤ (-1 : Int32).toInt ∧ (-1 : Int32).toInt ≤ 400) ∧ IvX6 o_me_reader ∧ Kp [4, 5, 6, 7, 8] [] o_me_reader o_me_reader from ⟨⟨by decide, by decide⟩, hI_me_reader, Kp.rf⟩)
  · have c1 := cv_nlt (a := p0.toInt) (b := 0) rfl (by decide) c1
    have t2 := igX6_2 hI_me_reader
    refine wp_if (fun c3 => ?_) (fun c3 => ?_)
    · have c3 := cv_le (a := p0.toInt) (b := (gI o_me_reader 2).toInt) rfl rfl c3
      refine wp_lt (fun o4 eo4 => ?_)
      have hIo4 : IvX6 o4 := by rw [eo4]; exact ipX6_2 hI_me_reader ⟨by omega, by omega⟩
      have ko4_v : (gI o4 2).toInt = p0.toInt := by rw [eo4]; rfl
      have hkpo4 : Kp [4, 5, 6, 7, 8] [] o_me_reader o4 := Kp.rf.trans (by rw [eo4]; exact Kp.sI (by decide))
      refine wp_some ?_
      exact (show ((-1) ≤ p0.toInt ∧ p0.toInt ≤ 400) ∧ IvX6 o4 ∧ Kp [4, 5, 6, 7, 8] [] o_me_reader o4 from ⟨⟨by omega, by omega⟩, hIo4, hkpo4⟩)
    · have c3 := cv_nle (a := p0.toInt) (b := (gI o_me_reader 2).toInt) rfl rfl c3
      refine wp_some ?_
      exact (show ((-1) ≤ (-1 : Int32).toInt ∧ (-1 : Int32).toInt ≤ 400) ∧ IvX6 o_me_reader ∧ Kp [4, 5, 6, 7, 8] [] o_me_reader o_me_reader from ⟨⟨by decide, by decide⟩, hI_me_reader, Kp.rf⟩)

