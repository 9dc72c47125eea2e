set_option maxHeartbeats 4000000 in
set_option maxRecDepth 100000 in
theorem s_X8_pass {rI : Nat → Option Nat} (o_me : Ob) (o_me_machine : Ob) (o_me_isles : Ob) (o_me_isles_now : Ob) (o_me_court : Ob) (o_me_past : Ob) (o_pool : List CR) (hI_me : IvX8 rI o_me) (hI_me_machine : IvX3 o_me_machine) (hI_me_isles : IvX2 o_pool o_me_isles) (hI_me_isles_now : IvX4 o_me_isles_now) (hI_me_court : IvX1 o_me_court) (hI_me_past : IvX5 o_me_past) (hI_pool : PLok o_pool)  : wp (f_X8_pass   o_me o_me_machine o_me_isles o_me_isles_now o_me_court o_me_past o_pool) (fun (y : Int32 × Ob × Ob × Ob × Ob × Ob) => IvX8 rI y.2.1 ∧ Kp [13, 14, 15, 16] [] [] o_me y.2.1 ∧ IvX3 y.2.2.1 ∧ Kp [] [] [] o_me_machine y.2.2.1 ∧ IvX4 y.2.2.2.1 ∧ Kp [] [] [] o_me_isles_now y.2.2.2.1 ∧ IvX1 y.2.2.2.2.1 ∧ Kp [] [] [] o_me_court y.2.2.2.2.1 ∧ IvX5 y.2.2.2.2.2 ∧ Kp [] [] [] o_me_past y.2.2.2.2.2) := by
  unfold f_X8_pass
  refine wp_bd (s_X1_moved_O   o_me_court o_me_isles o_me_isles_now o_me_machine o_pool o_me_past (3 : Int32) (0 : Int32)  hI_me_court hI_me_isles hI_me_isles_now hI_me_machine hI_pool hI_me_past  ) (fun z1 hz1 => ?_)
  obtain ⟨hz1_0, hz1_1, hz1_2, hz1_3, hz1_4, hz1_5, hz1_6, hz1_7⟩ := hz1
  have hkpz1_me_court : Kp [] [] [] o_me_court z1.2.1 := Kp.rf.trans (hz1_1.mono (by decide) (by decide) (by decide))
  have hkpz1_me_isles_now : Kp [] [] [] o_me_isles_now z1.2.2.1 := Kp.rf.trans (hz1_3.mono (by decide) (by decide) (by decide))
  have hkpz1_me_machine : Kp [] [] [] o_me_machine z1.2.2.2.1 := Kp.rf.trans (hz1_5.mono (by decide) (by decide) (by decide))
  have hkpz1_me_past : Kp [] [] [] o_me_past z1.2.2.2.2 := Kp.rf.trans (hz1_7.mono (by decide) (by decide) (by decide))
  refine wp_bd (s_X8_answer   o_me z1.1  hI_me  ) (fun z2 hz2 => ?_)
  obtain ⟨hz2_0, hz2_1⟩ := hz2
  have hkpz2_me : Kp [13, 14, 15, 16] [] [] o_me z2.2 := Kp.rf.trans (hz2_1.mono (by decide) (by decide) (by decide))
  refine wp_some ?_
  exact (show IvX8 rI z2.2 ∧ Kp [13, 14, 15, 16] [] [] o_me z2.2 ∧ IvX3 z1.2.2.2.1 ∧ Kp [] [] [] o_me_machine z1.2.2.2.1 ∧ IvX4 z1.2.2.1 ∧ Kp [] [] [] o_me_isles_now z1.2.2.1 ∧ IvX1 z1.2.1 ∧ Kp [] [] [] o_me_court z1.2.1 ∧ IvX5 z1.2.2.2.2 ∧ Kp [] [] [] o_me_past z1.2.2.2.2 from ⟨hz2_0, hkpz2_me, hz1_4, hkpz1_me_machine, hz1_2, hkpz1_me_isles_now, hz1_0, hkpz1_me_court, hz1_6, hkpz1_me_past⟩)

set_option maxHeartbeats 4000000 in
set_option maxRecDepth 100000 in
theorem s_X8_isTrade (p0 : Int32)   : wp (f_X8_isTrade   p0) (fun (y : Int32) => (0 ≤ y.toInt ∧ y.toInt ≤ 1) ∧ (¬ y = 0 → (0 ≤ p0.toInt ∧ p0.toInt ≤ 9))) := by
  have li0 : (0 : Int32).toInt = 0 := by decide
  have li1 : (1 : Int32).toInt = 1 := by decide
  have li2 : (10 : Int32).toInt = 10 := by decide
  unfold f_X8_isTrade
  refine wp_if (fun c1 => ?_) (fun c1 => ?_)
  · have c1 := cv_lt (a := p0.toInt) (b := 0) rfl (by decide) c1
    refine wp_some ?_
    exact (show (0 ≤ (0 : Int32).toInt ∧ (0 : Int32).toInt ≤ 1) ∧ (¬ (0 : Int32) = 0 → (0 ≤ p0.toInt ∧ p0.toInt ≤ 9)) from ⟨⟨by decide, by decide⟩, (fun h9 => absurd rfl h9)⟩)
  · have c1 := cv_nlt (a := p0.toInt) (b := 0) rfl (by decide) c1
    refine wp_if (fun c2 => ?_) (fun c2 => ?_)
    · have c2 := cv_ge (a := p0.toInt) (b := 10) rfl (by decide) c2
      refine wp_some ?_
      exact (show (0 ≤ (0 : Int32).toInt ∧ (0 : Int32).toInt ≤ 1) ∧ (¬ (0 : Int32) = 0 → (0 ≤ p0.toInt ∧ p0.toInt ≤ 9)) from ⟨⟨by decide, by decide⟩, (fun h9 => absurd rfl h9)⟩)
    · have c2 := cv_nge (a := p0.toInt) (b := 10) rfl (by decide) c2
      refine wp_some ?_
      exact (show (0 ≤ (1 : Int32).toInt ∧ (1 : Int32).toInt ≤ 1) ∧ (¬ (1 : Int32) = 0 → (0 ≤ p0.toInt ∧ p0.toInt ≤ 9)) from ⟨⟨by decide, by decide⟩, (fun h9 => ⟨by omega, by omega⟩)⟩)

set_option maxHeartbeats 4000000 in
set_option maxRecDepth 100000 in
theorem s_X5_clear (o_me : Ob) (hI_me : IvX5 o_me)  : wp (f_X5_clear   o_me) (fun (y : Ob) => IvX5 y ∧ Kp [] [0] [] o_me y) := by
  unfold f_X5_clear
  refine wp_lt (fun o1 eo1 => ?_)
  have hIo1 : IvX5 o1 := by rw [eo1]; exact ipX5_2 hI_me ⟨by decide, by decide⟩
  have hkpo1 : Kp [] [0] [] o_me o1 := Kp.rf.trans (by rw [eo1]; exact Kp.sI (by decide))
  refine wp_lt (fun o2 eo2 => ?_)
  have hIo2 : IvX5 o2 := by rw [eo2]; exact ipX5_3 hIo1 ⟨by decide, by decide⟩
  have hkpo2 : Kp [] [0] [] o_me o2 := hkpo1.trans (by rw [eo2]; exact Kp.sI (by decide))
  refine wp_some ?_
  exact (show IvX5 o2 ∧ Kp [] [0] [] o_me o2 from ⟨hIo2, hkpo2⟩)

set_option maxHeartbeats 4000000 in
set_option maxRecDepth 100000 in
theorem s_X2_addPerson {pl : List CR} (o_me : Ob) (o_me_now : Ob) (p0 : Int32) (p1 : Int32) (hI_me : IvX2 pl o_me) (hI_me_now : IvX4 o_me_now) (q0 : 0 ≤ p0.toInt ∧ p0.toInt ≤ 9) (q1 : (-1) ≤ p1.toInt ∧ p1.toInt ≤ 6) : wp (f_X2_addPerson   o_me o_me_now p0 p1) (fun (y : Int32 × Ob × Ob) => ((-1) ≤ y.1.toInt ∧ y.1.toInt ≤ 6) ∧ IvX2 pl y.2.1 ∧ Kp [8, 9, 10, 11, 12] [2, 3, 4, 5] [] o_me y.2.1 ∧ IvX4 y.2.2 ∧ Kp [2, 3, 4] [1] [] o_me_now y.2.2) := by
  unfold f_X2_addPerson
  have t1 := igX2_7 hI_me
  refine wp_if (fun c2 => ?_) (fun c2 => ?_)
  · have c2 := cv_lt (a := (gI o_me 7).toInt) (b := 7) rfl (by decide) c2
    refine wp_gd (zin_of (m := 7) rfl t1.1 (zlt_m (c := 6) (zlt_u (c := 6) c2 (by decide)) (by decide))) ?_
    refine wp_lt (fun o3 eo3 => ?_)
    have hIo3 : IvX4 o3 := by rw [eo3]; exact ibX4_0 hI_me_now t1.1  (Or.inr (Or.inr ⟨q0.1, q0.2⟩))
    have hkpo3 : Kp [2, 3, 4] [1] [] o_me_now o3 := Kp.rf.trans (by rw [eo3]; exact Kp.tA (by decide) (by decide))
    refine wp_gd (zin_of (m := 7) rfl t1.1 (zlt_m (c := 6) (zlt_u (c := 6) c2 (by decide)) (by decide))) ?_
    refine wp_lt (fun o4 eo4 => ?_)
    have hIo4 : IvX2 pl o4 := by rw [eo4]; exact hI_me
    have ko4_k5 : (gI o4 7).toInt = (gI o_me 7).toInt := by rw [eo4]; rfl
    have hkpo4 : Kp [8, 9, 10, 11, 12] [2, 3, 4, 5] [] o_me o4 := Kp.rf.trans (by rw [eo4]; exact Kp.tA (by decide) (by decide))
    have t6 : ((gI o4 7) + (1 : Int32)).toInt = (gI o4 7).toInt + 1 := i32_add rfl (by decide) (zk_l (zl_e (k := 0) (zq_0 ko4_k5.symm) t1.1 (by decide)) (by decide)) (zk_u (zu_e (k := 6) (zq_0 ko4_k5) (zlt_u (c := 6) c2 (by decide)) (by decide)) (by decide))
    refine wp_lt (fun o7 eo7 => ?_)
    have hIo7 : IvX2 pl o7 := by rw [eo7]; exact ipX2_7 hIo4 ⟨(zl_e (zd_e (c := (-1)) (zq_0 ko4_k5.symm) (zq_r (c := (-1)) t6 (by decide)) (by decide)) t1.1 (by decide)), (zu_e (zd_e (c := 1) (Int.le_of_eq t6) (zq_0 ko4_k5) (by decide)) (zlt_u (c := 6) c2 (by decide)) (by decide))⟩
    have ko7_v : (gI o7 7).toInt = ((gI o4 7) + (1 : Int32)).toInt := by rw [eo7]; rfl
    have hkpo7 : Kp [8, 9, 10, 11, 12] [2, 3, 4, 5] [] o_me o7 := hkpo4.trans (by rw [eo7]; exact Kp.sI (by decide))
    have t9 : ((gI o7 7) - (1 : Int32)).toInt = (gI o7 7).toInt - 1 := i32_sub rfl (by decide) (zs_l (zl_e (k := 1) (zd_e (c := (-1)) (zq_0 ko4_k5.symm) (zd_e (c := (-1)) (zq_r (c := (-1)) t6 (by decide)) (zq_0 ko7_v.symm) (by decide)) (by decide)) t1.1 (by decide)) (by decide)) (zs_u (zu_e (k := 7) (zd_e (c := 1) (zd_e (c := 1) (zq_0 ko7_v) (Int.le_of_eq t6) (by decide)) (zq_0 ko4_k5) (by decide)) (zlt_u (c := 6) c2 (by decide)) (by decide)) (by decide))
    refine wp_some ?_
    exact (show ((-1) ≤ ((gI o7 7) - (1 : Int32)).toInt ∧ ((gI o7 7) - (1 : Int32)).toInt ≤ 6) ∧ IvX2 pl o7 ∧ Kp [8, 9, 10, 11, 12] [2, 3, 4, 5] [] o_me o7 ∧ IvX4 o3 ∧ Kp [2, 3, 4] [1] [] o_me_now o3 from ⟨⟨(zl_e (zd_e (c := 0) (zq_0 ko4_k5.symm) (zd_e (c := 0) (zq_r (c := (-1)) t6 (by decide)) (zd_e (c := 1) (zq_0 ko7_v.symm) (zq_t (c := 1) t9 (by decide)) (by decide)) (by decide)) (by decide)) t1.1 (by decide)), (zu_e (zd_e (c := 0) (zd_e (c := 0) (zd_e (c := (-1)) (zq_s (c := (-1)) t9 (by decide)) (zq_0 ko7_v) (by decide)) (Int.le_of_eq t6) (by decide)) (zq_0 ko4_k5) (by decide)) (zlt_u (c := 6) c2 (by decide)) (by decide))⟩, hIo7, hkpo7, hIo3, hkpo3⟩)
  · refine wp_some ?_
    exact (show ((-1) ≤ (-1 : Int32).toInt ∧ (-1 : Int32).toInt ≤ 6) ∧ IvX2 pl o_me ∧ Kp [8, 9, 10, 11, 12] [2, 3, 4, 5] [] o_me o_me ∧ IvX4 o_me_now ∧ Kp [2, 3, 4] [1] [] o_me_now o_me_now from ⟨⟨by decide, by decide⟩, hI_me, Kp.rf, hI_me_now, Kp.rf⟩)

set_option maxHeartbeats 4000000 in
set_option maxRecDepth 100000 in
theorem s_X8_person {pl : List CR} {rI : Nat → Option Nat} (o_me : Ob) (o_me_isles : Ob) (o_me_isles_now : Ob) (o_me_past : Ob) (p0 : Int32) (p1 : Int32) (hI_me : IvX8 rI o_me) (hI_me_isles : IvX2 pl o_me_isles) (hI_me_isles_now : IvX4 o_me_isles_now) (hI_me_past : IvX5 o_me_past)  : wp (f_X8_person   o_me o_me_isles o_me_isles_now o_me_past p0 p1) (fun (y : Int32 × Ob × Ob × Ob × Ob) => IvX8 rI y.2.1 ∧ Kp [13, 14, 15, 16] [] [] o_me y.2.1 ∧ IvX2 pl y.2.2.1 ∧ Kp [8, 9, 10, 11, 12] [2, 3, 4, 5] [] o_me_isles y.2.2.1 ∧ IvX4 y.2.2.2.1 ∧ Kp [2, 3, 4] [1] [] o_me_isles_now y.2.2.2.1 ∧ IvX5 y.2.2.2.2 ∧ Kp [] [0] [] o_me_past y.2.2.2.2) := by
  unfold f_X8_person
  refine wp_bd (s_X8_isTrade   p0    ) (fun z1 hz1 => ?_)
  obtain ⟨hz1_0, hz1_1⟩ := hz1
  refine wp_if (fun c2 => ?_) (fun c2 => ?_)
  · have c2 := cv_eq (a := z1.toInt) (b := 0) rfl (by decide) c2
    unfold bk_X8_person_23
    refine wp_bd (s_X8_refuse   o_me (-1 : Int32)  hI_me  ) (fun z3 hz3 => ?_)
    obtain ⟨hz3_0, hz3_1⟩ := hz3
    have hkpz3_me : Kp [13, 14, 15, 16] [] [] o_me z3.2 := Kp.rf.trans (hz3_1.mono (by decide) (by decide) (by decide))
    refine wp_some ?_
    exact (show IvX8 rI z3.2 ∧ Kp [13, 14, 15, 16] [] [] o_me z3.2 ∧ IvX2 pl o_me_isles ∧ Kp [8, 9, 10, 11, 12] [2, 3, 4, 5] [] o_me_isles o_me_isles ∧ IvX4 o_me_isles_now ∧ Kp [2, 3, 4] [1] [] o_me_isles_now o_me_isles_now ∧ IvX5 o_me_past ∧ Kp [] [0] [] o_me_past o_me_past from ⟨hz3_0, hkpz3_me, hI_me_isles, Kp.rf, hI_me_isles_now, Kp.rf, hI_me_past, Kp.rf⟩)
  · have c2i := hz1_1 c2
    refine wp_if (fun c4 => ?_) (fun c4 => ?_)
    · have c4 := cv_eq (a := p1.toInt) (b := (-1)) rfl (by decide) c4
      unfold bk_X8_person_29
      refine wp_if (fun c6 => ?_) (fun c6 => ?_)
      · refine wp_bd (s_X5_clear   o_me_past  hI_me_past  ) (fun z7 hz7 => ?_)
        obtain ⟨hz7_0, hz7_1⟩ := hz7
        have hkpz7_me_past : Kp [] [0] [] o_me_past z7 := Kp.rf.trans (hz7_1.mono (by decide) (by decide) (by decide))
        refine wp_bd (s_X2_addPerson   o_me_isles o_me_isles_now p0 p1  hI_me_isles hI_me_isles_now  ⟨c2i.1, c2i.2⟩ ⟨(Int.le_of_eq c4.symm), (Int.le_trans (Int.le_of_eq c4) (by decide))⟩) (fun z8 hz8 => ?_)
        obtain ⟨hz8_0, hz8_1, hz8_2, hz8_3, hz8_4⟩ := hz8
        have hkpz8_me_isles : Kp [8, 9, 10, 11, 12] [2, 3, 4, 5] [] o_me_isles z8.2.1 := Kp.rf.trans (hz8_2.mono (by decide) (by decide) (by decide))
        have hkpz8_me_isles_now : Kp [2, 3, 4] [1] [] o_me_isles_now z8.2.2 := Kp.rf.trans (hz8_4.mono (by decide) (by decide) (by decide))
        refine wp_bd (s_X8_grant   o_me z8.1  hI_me  ) (fun z9 hz9 => ?_)
        obtain ⟨hz9_0, hz9_1⟩ := hz9
        have hkpz9_me : Kp [13, 14, 15, 16] [] [] o_me z9.2 := Kp.rf.trans (hz9_1.mono (by decide) (by decide) (by decide))
        refine wp_some ?_
        exact (show IvX8 rI z9.2 ∧ Kp [13, 14, 15, 16] [] [] o_me z9.2 ∧ IvX2 pl z8.2.1 ∧ Kp [8, 9, 10, 11, 12] [2, 3, 4, 5] [] o_me_isles z8.2.1 ∧ IvX4 z8.2.2 ∧ Kp [2, 3, 4] [1] [] o_me_isles_now z8.2.2 ∧ IvX5 z7 ∧ Kp [] [0] [] o_me_past z7 from ⟨hz9_0, hkpz9_me, hz8_1, hkpz8_me_isles, hz8_3, hkpz8_me_isles_now, hz7_0, hkpz7_me_past⟩)
      · refine wp_bd (s_X8_refuse   o_me (-5 : Int32)  hI_me  ) (fun z10 hz10 => ?_)
        obtain ⟨hz10_0, hz10_1⟩ := hz10
        have hkpz10_me : Kp [13, 14, 15, 16] [] [] o_me z10.2 := Kp.rf.trans (hz10_1.mono (by decide) (by decide) (by decide))
        refine wp_some ?_
        exact (show IvX8 rI z10.2 ∧ Kp [13, 14, 15, 16] [] [] o_me z10.2 ∧ IvX2 pl o_me_isles ∧ Kp [8, 9, 10, 11, 12] [2, 3, 4, 5] [] o_me_isles o_me_isles ∧ IvX4 o_me_isles_now ∧ Kp [2, 3, 4] [1] [] o_me_isles_now o_me_isles_now ∧ IvX5 o_me_past ∧ Kp [] [0] [] o_me_past o_me_past from ⟨hz10_0, hkpz10_me, hI_me_isles, Kp.rf, hI_me_isles_now, Kp.rf, hI_me_past, Kp.rf⟩)
    · refine wp_bd (s_X2_isPerson   o_me_isles p1  hI_me_isles  ) (fun z11 hz11 => ?_)
      obtain ⟨hz11_0, hz11_1⟩ := hz11
      refine wp_if (fun c12 => ?_) (fun c12 => ?_)
      · have c12 := cv_eq (a := z11.toInt) (b := 0) rfl (by decide) c12
        unfold bk_X8_person_23
        refine wp_bd (s_X8_refuse   o_me (-1 : Int32)  hI_me  ) (fun z13 hz13 => ?_)
        obtain ⟨hz13_0, hz13_1⟩ := hz13
        have hkpz13_me : Kp [13, 14, 15, 16] [] [] o_me z13.2 := Kp.rf.trans (hz13_1.mono (by decide) (by decide) (by decide))
        refine wp_some ?_
        exact (show IvX8 rI z13.2 ∧ Kp [13, 14, 15, 16] [] [] o_me z13.2 ∧ IvX2 pl o_me_isles ∧ Kp [8, 9, 10, 11, 12] [2, 3, 4, 5] [] o_me_isles o_me_isles ∧ IvX4 o_me_isles_now ∧ Kp [2, 3, 4] [1] [] o_me_isles_now o_me_isles_now ∧ IvX5 o_me_past ∧ Kp [] [0] [] o_me_past o_me_past from ⟨hz13_0, hkpz13_me, hI_me_isles, Kp.rf, hI_me_isles_now, Kp.rf, hI_me_past, Kp.rf⟩)
      · have c12i := hz11_1 c12
        unfold bk_X8_person_29
        refine wp_if (fun c15 => ?_) (fun c15 => ?_)
        · refine wp_bd (s_X5_clear   o_me_past  hI_me_past  ) (fun z16 hz16 => ?_)
          obtain ⟨hz16_0, hz16_1⟩ := hz16
          have hkpz16_me_past : Kp [] [0] [] o_me_past z16 := Kp.rf.trans (hz16_1.mono (by decide) (by decide) (by decide))
          refine wp_bd (s_X2_addPerson   o_me_isles o_me_isles_now p0 p1  hI_me_isles hI_me_isles_now  ⟨c2i.1, c2i.2⟩ ⟨(Int.le_trans (by decide) c12i.1.1), c12i.1.2⟩) (fun z17 hz17 => ?_)
          obtain ⟨hz17_0, hz17_1, hz17_2, hz17_3, hz17_4⟩ := hz17
          have hkpz17_me_isles : Kp [8, 9, 10, 11, 12] [2, 3, 4, 5] [] o_me_isles z17.2.1 := Kp.rf.trans (hz17_2.mono (by decide) (by decide) (by decide))
          have hkpz17_me_isles_now : Kp [2, 3, 4] [1] [] o_me_isles_now z17.2.2 := Kp.rf.trans (hz17_4.mono (by decide) (by decide) (by decide))
          refine wp_bd (s_X8_grant   o_me z17.1  hI_me  ) (fun z18 hz18 => ?_)
          obtain ⟨hz18_0, hz18_1⟩ := hz18
          have hkpz18_me : Kp [13, 14, 15, 16] [] [] o_me z18.2 := Kp.rf.trans (hz18_1.mono (by decide) (by decide) (by decide))
          refine wp_some ?_
          exact (show IvX8 rI z18.2 ∧ Kp [13, 14, 15, 16] [] [] o_me z18.2 ∧ IvX2 pl z17.2.1 ∧ Kp [8, 9, 10, 11, 12] [2, 3, 4, 5] [] o_me_isles z17.2.1 ∧ IvX4 z17.2.2 ∧ Kp [2, 3, 4] [1] [] o_me_isles_now z17.2.2 ∧ IvX5 z16 ∧ Kp [] [0] [] o_me_past z16 from ⟨hz18_0, hkpz18_me, hz17_1, hkpz17_me_isles, hz17_3, hkpz17_me_isles_now, hz16_0, hkpz16_me_past⟩)
        · refine wp_bd (s_X8_refuse   o_me (-5 : Int32)  hI_me  ) (fun z19 hz19 => ?_)
          obtain ⟨hz19_0, hz19_1⟩ := hz19
          have hkpz19_me : Kp [13, 14, 15, 16] [] [] o_me z19.2 := Kp.rf.trans (hz19_1.mono (by decide) (by decide) (by decide))
          refine wp_some ?_
          exact (show IvX8 rI z19.2 ∧ Kp [13, 14, 15, 16] [] [] o_me z19.2 ∧ IvX2 pl o_me_isles ∧ Kp [8, 9, 10, 11, 12] [2, 3, 4, 5] [] o_me_isles o_me_isles ∧ IvX4 o_me_isles_now ∧ Kp [2, 3, 4] [1] [] o_me_isles_now o_me_isles_now ∧ IvX5 o_me_past ∧ Kp [] [0] [] o_me_past o_me_past from ⟨hz19_0, hkpz19_me, hI_me_isles, Kp.rf, hI_me_isles_now, Kp.rf, hI_me_past, Kp.rf⟩)

set_option maxHeartbeats 4000000 in
set_option maxRecDepth 100000 in
theorem s_X8_placed {rI : Nat → Option Nat} (o_me : Ob) (o_me_machine : Ob) (o_me_isles : Ob) (o_me_isles_now : Ob) (o_me_court : Ob) (o_pool : List CR) (p0 : Int32) (p1 : Int32) (hI_me : IvX8 rI o_me) (hI_me_machine : IvX3 o_me_machine) (hI_me_isles : IvX2 o_pool o_me_isles) (hI_me_isles_now : IvX4 o_me_isles_now) (hI_me_court : IvX1 o_me_court) (hI_pool : PLok o_pool)  : wp (f_X8_placed   o_me o_me_machine o_me_isles o_me_isles_now o_me_court o_pool p0 p1) (fun (y : Int32 × Ob × Ob) => ((-1) ≤ y.1.toInt ∧ y.1.toInt ≤ 7) ∧ IvX3 y.2.1 ∧ Kp [] [] [] o_me_machine y.2.1 ∧ IvX1 y.2.2 ∧ Kp [] [] [] o_me_court y.2.2) := by
  unfold f_X8_placed
  refine wp_bd (s_X8_isRace   p0    ) (fun z1 hz1 => ?_)
  obtain ⟨hz1_0, hz1_1⟩ := hz1
  refine wp_if (fun c2 => ?_) (fun c2 => ?_)
  · have c2 := cv_eq (a := z1.toInt) (b := 0) rfl (by decide) c2
    refine wp_some ?_
    exact (show ((-1) ≤ (-1 : Int32).toInt ∧ (-1 : Int32).toInt ≤ 7) ∧ IvX3 o_me_machine ∧ Kp [] [] [] o_me_machine o_me_machine ∧ IvX1 o_me_court ∧ Kp [] [] [] o_me_court o_me_court from ⟨⟨by decide, by decide⟩, hI_me_machine, Kp.rf, hI_me_court, Kp.rf⟩)
  · have c2i := hz1_1 c2
    refine wp_bd (s_X2_lawInForce   o_me_isles  hI_me_isles  ) (fun z3 hz3 => ?_)
    have hz3_0 := hz3
    refine wp_bd (s_X1_lineUp_Q   o_me_court o_me_isles o_me_isles_now o_me_machine o_pool z3 p0  hI_me_court hI_me_isles hI_me_isles_now hI_me_machine hI_pool hz3_0 ⟨c2i.1, c2i.2⟩) (fun z4 hz4 => ?_)
    obtain ⟨hz4_0, hz4_1, hz4_2, hz4_3, hz4_4⟩ := hz4
    have hkpz4_me_court : Kp [] [] [] o_me_court z4.2.1 := Kp.rf.trans (hz4_2.mono (by decide) (by decide) (by decide))
    have hkpz4_me_machine : Kp [] [] [] o_me_machine z4.2.2 := Kp.rf.trans (hz4_4.mono (by decide) (by decide) (by decide))
    refine wp_if (fun c5 => ?_) (fun c5 => ?_)
    · refine wp_some ?_
      exact (show ((-1) ≤ z4.1.toInt ∧ z4.1.toInt ≤ 7) ∧ IvX3 z4.2.2 ∧ Kp [] [] [] o_me_machine z4.2.2 ∧ IvX1 z4.2.1 ∧ Kp [] [] [] o_me_court z4.2.1 from ⟨⟨(Int.le_trans (by decide) hz4_0.1), hz4_0.2⟩, hz4_3, hkpz4_me_machine, hz4_1, hkpz4_me_court⟩)
    · refine wp_bd (s_X1_at   z4.2.1 p1  hz4_1  ) (fun z6 hz6 => ?_)
      have hz6_0 := hz6
      refine wp_some ?_
      exact (show ((-1) ≤ z6.toInt ∧ z6.toInt ≤ 7) ∧ IvX3 z4.2.2 ∧ Kp [] [] [] o_me_machine z4.2.2 ∧ IvX1 z4.2.1 ∧ Kp [] [] [] o_me_court z4.2.1 from ⟨⟨hz6_0.1, (Int.le_trans hz6_0.2 (by decide))⟩, hz4_3, hkpz4_me_machine, hz4_1, hkpz4_me_court⟩)

set_option maxHeartbeats 4000000 in
set_option maxRecDepth 100000 in
theorem s_X8_race {rI : Nat → Option Nat} (o_me : Ob) (o_me_machine : Ob) (o_me_isles : Ob) (o_me_isles_now : Ob) (o_me_court : Ob) (o_me_past : Ob) (o_pool : List CR) (p0 : Int32) (hI_me : IvX8 rI o_me) (hI_me_machine : IvX3 o_me_machine) (hI_me_isles : IvX2 o_pool o_me_isles) (hI_me_isles_now : IvX4 o_me_isles_now) (hI_me_court : IvX1 o_me_court) (hI_me_past : IvX5 o_me_past) (hI_pool : PLok o_pool)  : wp (f_X8_race   o_me o_me_machine o_me_isles o_me_isles_now o_me_court o_me_past o_pool p0) (fun (y : Int32 × Ob × Ob × Ob × Ob × Ob) => IvX8 rI y.2.1 ∧ Kp [13, 14, 15, 16] [] [] o_me y.2.1 ∧ IvX3 y.2.2.1 ∧ Kp [] [] [] o_me_machine y.2.2.1 ∧ IvX4 y.2.2.2.1 ∧ Kp [] [] [] o_me_isles_now y.2.2.2.1 ∧ IvX1 y.2.2.2.2.1 ∧ Kp [] [] [] o_me_court y.2.2.2.2.1 ∧ IvX5 y.2.2.2.2.2 ∧ Kp [] [] [] o_me_past y.2.2.2.2.2) := by
  unfold f_X8_race
  refine wp_bd (s_X1_moved_O   o_me_court o_me_isles o_me_isles_now o_me_machine o_pool o_me_past (0 : Int32) p0  hI_me_court hI_me_isles hI_me_isles_now hI_me_machine hI_pool hI_me_past  ) (fun z1 hz1 => ?_)
  obtain ⟨hz1_0, hz1_1, hz1_2, hz1_3, hz1_4, hz1_5, hz1_6, hz1_7⟩ := hz1
  have hkpz1_me_court : Kp [] [] [] o_me_court z1.2.1 := Kp.rf.trans (hz1_1.mono (by decide) (by decide) (by decide))
  have hkpz1_me_isles_now : Kp [] [] [] o_me_isles_now z1.2.2.1 := Kp.rf.trans (hz1_3.mono (by decide) (by decide) (by decide))
  have hkpz1_me_machine : Kp [] [] [] o_me_machine z1.2.2.2.1 := Kp.rf.trans (hz1_5.mono (by decide) (by decide) (by decide))
  have hkpz1_me_past : Kp [] [] [] o_me_past z1.2.2.2.2 := Kp.rf.trans (hz1_7.mono (by decide) (by decide) (by decide))
  refine wp_bd (s_X8_answer   o_me z1.1  hI_me  ) (fun z2 hz2 => ?_)
  obtain ⟨hz2_0, hz2_1⟩ := hz2
  have hkpz2_me : Kp [13, 14, 15, 16] [] [] o_me z2.2 := Kp.rf.trans (hz2_1.mono (by decide) (by decide) (by decide))
  refine wp_some ?_
  exact (show IvX8 rI z2.2 ∧ Kp [13, 14, 15, 16] [] [] o_me z2.2 ∧ IvX3 z1.2.2.2.1 ∧ Kp [] [] [] o_me_machine z1.2.2.2.1 ∧ IvX4 z1.2.2.1 ∧ Kp [] [] [] o_me_isles_now z1.2.2.1 ∧ IvX1 z1.2.1 ∧ Kp [] [] [] o_me_court z1.2.1 ∧ IvX5 z1.2.2.2.2 ∧ Kp [] [] [] o_me_past z1.2.2.2.2 from ⟨hz2_0, hkpz2_me, hz1_4, hkpz1_me_machine, hz1_2, hkpz1_me_isles_now, hz1_0, hkpz1_me_court, hz1_6, hkpz1_me_past⟩)

set_option maxHeartbeats 4000000 in
set_option maxRecDepth 100000 in
theorem s_X7_brokenBy {pl : List CR} (o_me : Ob) (o_me_court_isles : Ob) (p0 : Int32) (p1 : Int32) (hI_me : IvX7 o_me) (hI_me_court_isles : IvX2 pl o_me_court_isles) (q0 : 0 ≤ p0.toInt ∧ p0.toInt ≤ 6) (q1 : 0 ≤ p1.toInt ∧ p1.toInt ≤ 127) : wp (f_X7_brokenBy   o_me o_me_court_isles p0 p1) (fun (y : Int32) => True) := by
  unfold f_X7_brokenBy
  refine wp_gd (zin_of (m := 7) rfl q0.1 (zlt_m (c := 6) q0.2 (by decide))) ?_
  refine wp_bd (s_J6_bitCount_0f7a4   ((gA o_me_court_isles 3 p0.toNatClampNeg) &&& p1)    ) (fun z1 hz1 => ?_)
  have t2 : 1 ≤ ((1 : Int32) <<< (p0 &&& 31)).toInt ∧ ((1 : Int32) <<< (p0 &&& 31)).toInt ≤ 64 := i32_shl6 (p := p0) q0.1 q0.2
  have t3 := i32_or7 (x := p1) (y := (1 : Int32) <<< (p0 &&& 31)) ⟨q1.1, q1.2⟩ ⟨(Int.le_trans (by decide) t2.1), (Int.le_trans t2.2 (by decide))⟩
  refine wp_gd (zin_of (m := 640) rfl t3.1 (zlt_m (c := 639) (Int.le_trans t3.2 (by decide)) (by decide))) ?_
  refine wp_some ?_
  exact trivial

set_option maxHeartbeats 4000000 in
set_option maxRecDepth 100000 in
theorem s_X7_firstNext {pl : List CR} (o_me : Ob) (o_me_court_isles : Ob) (p0 : Int32) (hI_me : IvX7 o_me) (hI_me_court_isles : IvX2 pl o_me_court_isles) (q0 : 0 ≤ p0.toInt ∧ p0.toInt ≤ 127) : wp (f_X7_firstNext   o_me o_me_court_isles p0) (fun (y : Int32) => (0 ≤ y.toInt ∧ y.toInt ≤ 6)) := by
  unfold f_X7_firstNext
  have lp1 : ∀ (N1 : Nat) (v1_1 : Int32) (v2_1 : Int32), (0 ≤ v1_1.toInt ∧ v1_1.toInt ≤ 127) → (0 ≤ v2_1.toInt ∧ v2_1.toInt ≤ 7) → (7 - v2_1.toInt).toNat < N1 → wp (lp_X7_firstNext_2 o_me o_me_court_isles  N1 (v1_1, v2_1)) (fun (y : Int32) => (0 ≤ y.toInt ∧ y.toInt ≤ 6)) := by
    intro N1
    induction N1 with
    | zero =>
      intro v1_1 v2_1 hh1 hh2 hN1
      exact absurd hN1 (Nat.not_lt_zero _)
    | succ N1 ihx =>
      have ih1 := ihx
      intro v1_1 v2_1 hh1 hh2 hN1
      show wp (lb_X7_firstNext_2 o_me o_me_court_isles  (lp_X7_firstNext_2 o_me o_me_court_isles  N1) v1_1 v2_1) (fun (y : Int32) => (0 ≤ y.toInt ∧ y.toInt ≤ 6))
      unfold lb_X7_firstNext_2
      have t3 := igX2_7 hI_me_court_isles
      refine wp_if (fun c4 => ?_) (fun c4 => ?_)
      · have c4 := cv_ge (a := v2_1.toInt) (b := (gI o_me_court_isles 7).toInt) rfl rfl c4
        refine wp_some ?_
        exact (show (0 ≤ (0 : Int32).toInt ∧ (0 : Int32).toInt ≤ 6) from ⟨by decide, by decide⟩)
      · have c4 := cv_nge (a := v2_1.toInt) (b := (gI o_me_court_isles 7).toInt) rfl rfl c4
        refine wp_if (fun c6 => ?_) (fun c6 => ?_)
        · refine wp_bd (s_X7_brokenBy   o_me o_me_court_isles v2_1 v1_1  hI_me hI_me_court_isles  ⟨hh2.1, (zu_e (zl_d c4) t3.2 (by decide))⟩ ⟨hh1.1, hh1.2⟩) (fun z7 hz7 => ?_)
          refine wp_gd (zin_of (m := 640) rfl hh1.1 (zlt_m (c := 639) (Int.le_trans hh1.2 (by decide)) (by decide))) ?_
          refine wp_if (fun c8 => ?_) (fun c8 => ?_)
          · refine wp_some ?_
            exact (show (0 ≤ v2_1.toInt ∧ v2_1.toInt ≤ 6) from ⟨hh2.1, (zu_e (zl_d c4) t3.2 (by decide))⟩)
          · unfold bk_X7_firstNext_38
            refine wp_lt (fun x11 ex11 => ?_)
            have tx11 : x11.toInt = v2_1.toInt + 1 := by rw [ex11]; exact i32_add rfl (by decide) (zk_l hh2.1 (by decide)) (zk_u (zu_e (k := 6) (zl_d c4) t3.2 (by decide)) (by decide))
            exact ih1 v1_1 x11  ⟨hh1.1, hh1.2⟩ ⟨(zl_e (zq_r (c := (-1)) tx11 (by decide)) hh2.1 (by decide)), (zu_e (zd_e (c := 0) (Int.le_of_eq tx11) (zl_d c4) (by decide)) t3.2 (by decide))⟩ (zms_u (c := 6) hN1 (zq_r (c := (-1)) tx11 (by decide)) (zu_e (zl_d c4) t3.2 (by decide)) (by decide))
        · unfold bk_X7_firstNext_38
          refine wp_lt (fun x12 ex12 => ?_)
          have tx12 : x12.toInt = v2_1.toInt + 1 := by rw [ex12]; exact i32_add rfl (by decide) (zk_l hh2.1 (by decide)) (zk_u (zu_e (k := 6) (zl_d c4) t3.2 (by decide)) (by decide))
          exact ih1 v1_1 x12  ⟨hh1.1, hh1.2⟩ ⟨(zl_e (zq_r (c := (-1)) tx12 (by decide)) hh2.1 (by decide)), (zu_e (zd_e (c := 0) (Int.le_of_eq tx12) (zl_d c4) (by decide)) t3.2 (by decide))⟩ (zms_u (c := 6) hN1 (zq_r (c := (-1)) tx12 (by decide)) (zu_e (zl_d c4) t3.2 (by decide)) (by decide))
  exact lp1 zfu p0 (0 : Int32)  ⟨q0.1, q0.2⟩ ⟨by decide, by decide⟩ (zme_u (l := 0) (Int.le_of_eq tz0.symm) (by decide))

set_option maxHeartbeats 4000000 in
set_option maxRecDepth 100000 in
theorem s_X7_rankAll {pl : List CR} (o_me : Ob) (o_me_court_isles : Ob) (hI_me : IvX7 o_me) (hI_me_court_isles : IvX2 pl o_me_court_isles)  : wp (f_X7_rankAll   o_me o_me_court_isles) (fun (y : Int32 × Ob) => IvX7 y.2 ∧ Kp [] [3] [] o_me y.2) := by
  unfold f_X7_rankAll
  have t1 := igX2_7 hI_me_court_isles
  have t2 : 1 ≤ ((1 : Int32) <<< ((gI o_me_court_isles 7) &&& 31)).toInt ∧ ((1 : Int32) <<< ((gI o_me_court_isles 7) &&& 31)).toInt ≤ 128 := i32_shl7 (p := gI o_me_court_isles 7) t1.1 t1.2
  have t3 : (((1 : Int32) <<< ((gI o_me_court_isles 7) &&& 31)) - (1 : Int32)).toInt = ((1 : Int32) <<< ((gI o_me_court_isles 7) &&& 31)).toInt - 1 := i32_sub rfl (by decide) (zs_l t2.1 (by decide)) (zs_u t2.2 (by decide))
  refine wp_lt (fun x4 ex4 => ?_)
  have tx4 : x4.toInt = (((1 : Int32) <<< ((gI o_me_court_isles 7) &&& 31)) - (1 : Int32)).toInt := by rw [ex4]
  refine wp_gd (zin_of (m := 640) rfl (zl_e (zd_e (c := 1) (zq_t (c := 1) t3 (by decide)) (zq_0 tx4.symm) (by decide)) t2.1 (by decide)) (zlt_m (c := 639) (zu_e (zd_e (c := (-1)) (zq_0 tx4) (zq_s (c := (-1)) t3 (by decide)) (by decide)) t2.2 (by decide)) (by decide))) ?_
  refine wp_lt (fun o5 eo5 => ?_)
  have hIo5 : IvX7 o5 := by rw [eo5]; exact hI_me
  have hkpo5 : Kp [] [3] [] o_me o5 := Kp.rf.trans (by rw [eo5]; exact Kp.tA (by decide) (by decide))
  have t6 : (x4 - (1 : Int32)).toInt = x4.toInt - 1 := i32_sub rfl (by decide) (zs_l (zl_e (k := 0) (zd_e (c := 1) (zq_t (c := 1) t3 (by decide)) (zq_0 tx4.symm) (by decide)) t2.1 (by decide)) (by decide)) (zs_u (zu_e (k := 127) (zd_e (c := (-1)) (zq_0 tx4) (zq_s (c := (-1)) t3 (by decide)) (by decide)) t2.2 (by decide)) (by decide))
  refine wp_lt (fun x7 ex7 => ?_)
  have tx7 : x7.toInt = (x4 - (1 : Int32)).toInt := by rw [ex7]
  have lp1 : ∀ (N1 : Nat) (v2_1 : Int32) (o_me_1 : Ob), IvX7 o_me_1 → Kp [] [3] [] o_me o_me_1 → ((-1) ≤ v2_1.toInt ∧ v2_1.toInt ≤ 126) → (v2_1.toInt - (-1)).toNat < N1 → wp (lp_X7_rankAll_23 o_me_court_isles  N1 (v2_1, o_me_1)) (fun (y : Int32 × Ob) => IvX7 y.2 ∧ Kp [] [3] [] o_me y.2) := by
    intro N1
    induction N1 with
    | zero =>
      intro v2_1 o_me_1 hI_me_1 hkp_me_1 hh8 hN1
      exact absurd hN1 (Nat.not_lt_zero _)
    | succ N1 ihx =>
      have ih1 := ihx
      intro v2_1 o_me_1 hI_me_1 hkp_me_1 hh8 hN1
      show wp (lb_X7_rankAll_23 o_me_court_isles  (lp_X7_rankAll_23 o_me_court_isles  N1) v2_1 o_me_1) (fun (y : Int32 × Ob) => IvX7 y.2 ∧ Kp [] [3] [] o_me y.2)
      unfold lb_X7_rankAll_23
      refine wp_if (fun c9 => ?_) (fun c9 => ?_)
      · have c9 := cv_lt (a := v2_1.toInt) (b := 0) rfl (by decide) c9
        have lp2 : ∀ (N2 : Nat) (v2_2 : Int32) (v3_2 : Int32) (o_me_2 : Ob), IvX7 o_me_2 → Kp [] [3] [] o_me o_me_2 → (0 ≤ v2_2.toInt ∧ v2_2.toInt ≤ 127) → (0 ≤ v3_2.toInt ∧ v3_2.toInt ≤ 7) → (7 - v3_2.toInt).toNat < N2 → wp (lp_X7_rankAll_90 o_me_court_isles  N2 (v2_2, v3_2, o_me_2)) (fun (y : Int32 × Ob) => IvX7 y.2 ∧ Kp [] [3] [] o_me y.2) := by
          intro N2
          induction N2 with
          | zero =>
            intro v2_2 v3_2 o_me_2 hI_me_2 hkp_me_2 hh10 hh11 hN2
            exact absurd hN2 (Nat.not_lt_zero _)
          | succ N2 ihx =>
            have ih2 := ihx
            intro v2_2 v3_2 o_me_2 hI_me_2 hkp_me_2 hh10 hh11 hN2
            show wp (lb_X7_rankAll_90 o_me_court_isles  (lp_X7_rankAll_90 o_me_court_isles  N2) v2_2 v3_2 o_me_2) (fun (y : Int32 × Ob) => IvX7 y.2 ∧ Kp [] [3] [] o_me y.2)
            unfold lb_X7_rankAll_90
            refine wp_if (fun c12 => ?_) (fun c12 => ?_)
            · have c12 := cv_ge (a := v3_2.toInt) (b := (gI o_me_court_isles 7).toInt) rfl rfl c12
              refine wp_some ?_
              exact (show IvX7 o_me_2 ∧ Kp [] [3] [] o_me o_me_2 from ⟨hI_me_2, hkp_me_2⟩)
            · have c12 := cv_nge (a := v3_2.toInt) (b := (gI o_me_court_isles 7).toInt) rfl rfl c12
              refine wp_bd (s_X7_firstNext   o_me_2 o_me_court_isles v2_2  hI_me_2 hI_me_court_isles  ⟨hh10.1, hh10.2⟩) (fun z13 hz13 => ?_)
              have hz13_0 := hz13
              refine wp_gd (zin_of (m := 7) rfl hh11.1 (zlt_m (c := 6) (zu_e (zl_d c12) t1.2 (by decide)) (by decide))) ?_
              refine wp_lt (fun o14 eo14 => ?_)
              have hIo14 : IvX7 o14 := by rw [eo14]; exact ibX7_2 hI_me_2 hh11.1  (Or.inr (Or.inr ⟨hz13_0.1, (Int.le_trans hz13_0.2 (by decide))⟩))
              have hkpo14 : Kp [] [3] [] o_me o14 := hkp_me_2.trans (by rw [eo14]; exact Kp.tA (by decide) (by decide))
              have t15 : 1 ≤ ((1 : Int32) <<< (z13 &&& 31)).toInt ∧ ((1 : Int32) <<< (z13 &&& 31)).toInt ≤ 64 := i32_shl6 (p := z13) hz13_0.1 hz13_0.2
              have t16 := i32_or7 (x := v2_2) (y := (1 : Int32) <<< (z13 &&& 31)) ⟨hh10.1, hh10.2⟩ ⟨(Int.le_trans (by decide) t15.1), (Int.le_trans t15.2 (by decide))⟩
              refine wp_lt (fun x17 ex17 => ?_)
              have tx17 : x17.toInt = (v2_2 ||| ((1 : Int32) <<< (z13 &&& 31))).toInt := by rw [ex17]
              refine wp_lt (fun x18 ex18 => ?_)
              have tx18 : x18.toInt = v3_2.toInt + 1 := by rw [ex18]; exact i32_add rfl (by decide) (zk_l hh11.1 (by decide)) (zk_u (zu_e (k := 6) (zl_d c12) t1.2 (by decide)) (by decide))
              exact ih2 x17 x18 o14 hIo14 hkpo14 ⟨(zl_e (zq_0 tx17.symm) t16.1 (by decide)), (zu_e (zq_0 tx17) t16.2 (by decide))⟩ ⟨(zl_e (zq_r (c := (-1)) tx18 (by decide)) hh11.1 (by decide)), (zu_e (zd_e (c := 0) (Int.le_of_eq tx18) (zl_d c12) (by decide)) t1.2 (by decide))⟩ (zms_u (c := 6) hN2 (zq_r (c := (-1)) tx18 (by decide)) (zu_e (zl_d c12) t1.2 (by decide)) (by decide))
        exact lp2 zfu (0 : Int32) (0 : Int32) o_me_1 hI_me_1 hkp_me_1 ⟨by decide, by decide⟩ ⟨by decide, by decide⟩ (zme_u (l := 0) (Int.le_of_eq tz0.symm) (by decide))
      · have c9 := cv_nlt (a := v2_1.toInt) (b := 0) rfl (by decide) c9
        have lp3 : ∀ (N3 : Nat) (v2_3 : Int32) (v3_3 : Int32) (v4_3 : Int32) (o_me_3 : Ob), IvX7 o_me_3 → Kp [] [3] [] o_me o_me_3 → (0 ≤ v2_3.toInt ∧ v2_3.toInt ≤ 126) → (0 ≤ v4_3.toInt ∧ v4_3.toInt ≤ 7) → (v2_3.toInt ≤ v2_1.toInt + 0) → (7 - v4_3.toInt).toNat < N3 → wp (lp_X7_rankAll_34 o_me_court_isles (lp_X7_rankAll_23 o_me_court_isles  N1) N3 (v2_3, v3_3, v4_3, o_me_3)) (fun (y : Int32 × Ob) => IvX7 y.2 ∧ Kp [] [3] [] o_me y.2) := by
          intro N3
          induction N3 with
          | zero =>
            intro v2_3 v3_3 v4_3 o_me_3 hI_me_3 hkp_me_3 hh19 hh20 hh21 hN3
            exact absurd hN3 (Nat.not_lt_zero _)
          | succ N3 ihx =>
            have ih3 := ihx
            intro v2_3 v3_3 v4_3 o_me_3 hI_me_3 hkp_me_3 hh19 hh20 hh21 hN3
            show wp (lb_X7_rankAll_34 o_me_court_isles (lp_X7_rankAll_23 o_me_court_isles  N1) (lp_X7_rankAll_34 o_me_court_isles (lp_X7_rankAll_23 o_me_court_isles  N1) N3) v2_3 v3_3 v4_3 o_me_3) (fun (y : Int32 × Ob) => IvX7 y.2 ∧ Kp [] [3] [] o_me y.2)
            unfold lb_X7_rankAll_34
            refine wp_if (fun c22 => ?_) (fun c22 => ?_)
            · have c22 := cv_ge (a := v4_3.toInt) (b := (gI o_me_court_isles 7).toInt) rfl rfl c22
              refine wp_gd (zin_of (m := 640) rfl hh19.1 (zlt_m (c := 639) (Int.le_trans hh19.2 (by decide)) (by decide))) ?_
              refine wp_lt (fun o23 eo23 => ?_)
              have hIo23 : IvX7 o23 := by rw [eo23]; exact hI_me_3
              have hkpo23 : Kp [] [3] [] o_me o23 := hkp_me_3.trans (by rw [eo23]; exact Kp.tA (by decide) (by decide))
              refine wp_lt (fun x24 ex24 => ?_)
              have tx24 : x24.toInt = v2_3.toInt + (-1) := by rw [ex24]; exact i32_add rfl (by decide) (zk_l hh19.1 (by decide)) (zk_u hh19.2 (by decide))
              exact ih1 x24 o23 hIo23 hkpo23 ⟨(zl_e (zq_r (c := 1) tx24 (by decide)) hh19.1 (by decide)), (zu_e (Int.le_of_eq tx24) hh19.2 (by decide))⟩ (zms_d (c := 0) hN1 (zd_e (c := (-1)) (Int.le_of_eq tx24) hh21 (by decide)) c9 (by decide))
            · have c22 := cv_nge (a := v4_3.toInt) (b := (gI o_me_court_isles 7).toInt) rfl rfl c22
              refine wp_if (fun c26 => ?_) (fun c26 => ?_)
              · refine wp_bd (s_X7_brokenBy   o_me_3 o_me_court_isles v4_3 v2_3  hI_me_3 hI_me_court_isles  ⟨hh20.1, (zu_e (zl_d c22) t1.2 (by decide))⟩ ⟨hh19.1, (Int.le_trans hh19.2 (by decide))⟩) (fun z27 hz27 => ?_)
                skip
                refine wp_lt (fun x32 ex32 => ?_)
                unfold bk_X7_rankAll_67
                refine wp_lt (fun x33 ex33 => ?_)
                have tx33 : x33.toInt = v4_3.toInt + 1 := by rw [ex33]; exact i32_add rfl (by decide) (zk_l hh20.1 (by decide)) (zk_u (zu_e (k := 6) (zl_d c22) t1.2 (by decide)) (by decide))
                exact ih3 v2_3 x32 x33 o_me_3 hI_me_3 hkp_me_3 ⟨hh19.1, hh19.2⟩ ⟨(zl_e (zq_r (c := (-1)) tx33 (by decide)) hh20.1 (by decide)), (zu_e (zd_e (c := 0) (Int.le_of_eq tx33) (zl_d c22) (by decide)) t1.2 (by decide))⟩ hh21 (zms_u (c := 6) hN3 (zq_r (c := (-1)) tx33 (by decide)) (zu_e (zl_d c22) t1.2 (by decide)) (by decide))
              · unfold bk_X7_rankAll_67
                refine wp_lt (fun x34 ex34 => ?_)
                have tx34 : x34.toInt = v4_3.toInt + 1 := by rw [ex34]; exact i32_add rfl (by decide) (zk_l hh20.1 (by decide)) (zk_u (zu_e (k := 6) (zl_d c22) t1.2 (by decide)) (by decide))
                exact ih3 v2_3 v3_3 x34 o_me_3 hI_me_3 hkp_me_3 ⟨hh19.1, hh19.2⟩ ⟨(zl_e (zq_r (c := (-1)) tx34 (by decide)) hh20.1 (by decide)), (zu_e (zd_e (c := 0) (Int.le_of_eq tx34) (zl_d c22) (by decide)) t1.2 (by decide))⟩ hh21 (zms_u (c := 6) hN3 (zq_r (c := (-1)) tx34 (by decide)) (zu_e (zl_d c22) t1.2 (by decide)) (by decide))
        exact lp3 zfu v2_1 (1000 : Int32) (0 : Int32) o_me_1 hI_me_1 hkp_me_1 ⟨c9, hh8.2⟩ ⟨by decide, by decide⟩ (zd_r (by decide)) (zme_u (l := 0) (Int.le_of_eq tz0.symm) (by decide))
  exact lp1 zfu x7 o5 hIo5 hkpo5 ⟨(zl_e (zd_e (c := 2) (zq_t (c := 1) t3 (by decide)) (zd_e (c := 1) (zq_0 tx4.symm) (zd_e (c := 1) (zq_t (c := 1) t6 (by decide)) (zq_0 tx7.symm) (by decide)) (by decide)) (by decide)) t2.1 (by decide)), (zu_e (zd_e (c := (-2)) (zd_e (c := (-1)) (zd_e (c := (-1)) (zq_0 tx7) (zq_s (c := (-1)) t6 (by decide)) (by decide)) (zq_0 tx4) (by decide)) (zq_s (c := (-1)) t3 (by decide)) (by decide)) t2.2 (by decide))⟩ (zme_d (u := 126) (zu_e (k := 126) (zd_e (c := (-2)) (zd_e (c := (-1)) (zd_e (c := (-1)) (zq_0 tx7) (zq_s (c := (-1)) t6 (by decide)) (by decide)) (zq_0 tx4) (by decide)) (zq_s (c := (-1)) t3 (by decide)) (by decide)) t2.2 (by decide)) (by decide))

set_option maxHeartbeats 4000000 in
set_option maxRecDepth 100000 in
theorem s_X8_ranking {pl : List CR} {rI : Nat → Option Nat} (o_me : Ob) (o_me_isles : Ob) (o_me_study : Ob) (p0 : Int32) (hI_me : IvX8 rI o_me) (hI_me_isles : IvX2 pl o_me_isles) (hI_me_study : IvX7 o_me_study)  : wp (f_X8_ranking   o_me o_me_isles o_me_study p0) (fun (y : Int32 × Ob) => IvX7 y.2 ∧ Kp [] [3] [] o_me_study y.2) := by
  unfold f_X8_ranking
  refine wp_if (fun c1 => ?_) (fun c1 => ?_)
  · have c1 := cv_lt (a := p0.toInt) (b := 0) rfl (by decide) c1
    refine wp_some ?_
    exact (show IvX7 o_me_study ∧ Kp [] [3] [] o_me_study o_me_study from ⟨hI_me_study, Kp.rf⟩)
  · have c1 := cv_nlt (a := p0.toInt) (b := 0) rfl (by decide) c1
    have t2 := igX2_7 hI_me_isles
    refine wp_if (fun c3 => ?_) (fun c3 => ?_)
    · have c3 := cv_le (a := p0.toInt) (b := (gI o_me_isles 7).toInt) rfl rfl c3
      refine wp_bd (s_X7_rankAll   o_me_study o_me_isles  hI_me_study hI_me_isles  ) (fun z5 hz5 => ?_)
      obtain ⟨hz5_0, hz5_1⟩ := hz5
      have hkpz5_me_study : Kp [] [3] [] o_me_study z5.2 := Kp.rf.trans (hz5_1.mono (by decide) (by decide) (by decide))
      refine wp_if (fun c6 => ?_) (fun c6 => ?_)
      · have c6 := cv_eq (a := p0.toInt) (b := 0) rfl (by decide) c6
        refine wp_some ?_
        exact (show IvX7 z5.2 ∧ Kp [] [3] [] o_me_study z5.2 from ⟨hz5_0, hkpz5_me_study⟩)
      · have c6 := cv_ne (a := p0.toInt) (b := 0) rfl (by decide) c6
        have t7 : (p0 - (1 : Int32)).toInt = p0.toInt - 1 := i32_sub rfl (by decide) (zs_l c1 (by decide)) (zs_u (zu_e (k := 7) (zl_0 c3) t2.2 (by decide)) (by decide))
        refine wp_gd (zin_of (m := 7) rfl (zl_e (zq_t (c := 1) t7 (by decide)) (zn_l (c := 1) c1 c6 (by decide)) (by decide)) (zlt_m (c := 6) (zu_e (zd_e (c := (-1)) (zq_s (c := (-1)) t7 (by decide)) (zl_0 c3) (by decide)) t2.2 (by decide)) (by decide))) ?_
        refine wp_some ?_
        exact (show IvX7 z5.2 ∧ Kp [] [3] [] o_me_study z5.2 from ⟨hz5_0, hkpz5_me_study⟩)
    · refine wp_some ?_
      exact (show IvX7 o_me_study ∧ Kp [] [3] [] o_me_study o_me_study from ⟨hI_me_study, Kp.rf⟩)

set_option maxHeartbeats 4000000 in
set_option maxRecDepth 100000 in
theorem s_X8_tellRow {pl : List CR} {rI : Nat → Option Nat} (o_me : Ob) (o_me_reader : Ob) (o_me_isles : Ob) (p0 : Int32) (hI_me : IvX8 rI o_me) (hI_me_reader : IvX6 o_me_reader) (hI_me_isles : IvX2 pl o_me_isles)  : wp (f_X8_tellRow   o_me o_me_reader o_me_isles p0) (fun (y : Int32 × Ob) => (0 ≤ y.1.toInt ∧ y.1.toInt ≤ 1) ∧ IvX2 pl y.2 ∧ Kp [7, 8, 9, 10, 11, 12] [1, 3, 4, 5] [] o_me_isles y.2) := by
  unfold f_X8_tellRow
  refine wp_bd (s_X6_byteAt   o_me_reader p0  hI_me_reader  ) (fun z1 hz1 => ?_)
  refine wp_bd (s_X2_isPerson   o_me_isles z1  hI_me_isles  ) (fun z2 hz2 => ?_)
  obtain ⟨hz2_0, hz2_1⟩ := hz2
  refine wp_if (fun c3 => ?_) (fun c3 => ?_)
  · have c3 := cv_eq (a := z2.toInt) (b := 0) rfl (by decide) c3
    refine wp_some ?_
    exact (show (0 ≤ (0 : Int32).toInt ∧ (0 : Int32).toInt ≤ 1) ∧ IvX2 pl o_me_isles ∧ Kp [7, 8, 9, 10, 11, 12] [1, 3, 4, 5] [] o_me_isles o_me_isles from ⟨⟨by decide, by decide⟩, hI_me_isles, Kp.rf⟩)
  · have c3i := hz2_1 c3
    have lp1 : ∀ (N1 : Nat) (v1_1 : Int32) (v2_1 : Int32) (v3_1 : Int32) (o_me_isles_1 : Ob), IvX2 pl o_me_isles_1 → Kp [7, 8, 9, 10, 11, 12] [1, 3, 4, 5] [] o_me_isles o_me_isles_1 → (0 ≤ v2_1.toInt ∧ v2_1.toInt ≤ 6) → (0 ≤ v3_1.toInt ∧ v3_1.toInt ≤ 4) → (4 - v3_1.toInt).toNat < N1 → wp (lp_X8_tellRow_24 o_me o_me_reader  N1 (v1_1, v2_1, v3_1, o_me_isles_1)) (fun (y : Int32 × Ob) => (0 ≤ y.1.toInt ∧ y.1.toInt ≤ 1) ∧ IvX2 pl y.2 ∧ Kp [7, 8, 9, 10, 11, 12] [1, 3, 4, 5] [] o_me_isles y.2) := by
      intro N1
      induction N1 with
      | zero =>
        intro v1_1 v2_1 v3_1 o_me_isles_1 hI_me_isles_1 hkp_me_isles_1 hh4 hh5 hN1
        exact absurd hN1 (Nat.not_lt_zero _)
      | succ N1 ihx =>
        have ih1 := ihx
        intro v1_1 v2_1 v3_1 o_me_isles_1 hI_me_isles_1 hkp_me_isles_1 hh4 hh5 hN1
        show wp (lb_X8_tellRow_24 o_me o_me_reader  (lp_X8_tellRow_24 o_me o_me_reader  N1) v1_1 v2_1 v3_1 o_me_isles_1) (fun (y : Int32 × Ob) => (0 ≤ y.1.toInt ∧ y.1.toInt ≤ 1) ∧ IvX2 pl y.2 ∧ Kp [7, 8, 9, 10, 11, 12] [1, 3, 4, 5] [] o_me_isles y.2)
        unfold lb_X8_tellRow_24
        refine wp_if (fun c6 => ?_) (fun c6 => ?_)
        · have c6 := cv_ge (a := v3_1.toInt) (b := 4) rfl (by decide) c6
          have lp2 : ∀ (N2 : Nat) (v1_2 : Int32) (v2_2 : Int32) (v3_2 : Int32) (o_me_isles_2 : Ob), IvX2 pl o_me_isles_2 → Kp [7, 8, 9, 10, 11, 12] [1, 3, 4, 5] [] o_me_isles o_me_isles_2 → (0 ≤ v2_2.toInt ∧ v2_2.toInt ≤ 6) → (0 ≤ v3_2.toInt ∧ v3_2.toInt ≤ 4) → (4 - v3_2.toInt).toNat < N2 → wp (lp_X8_tellRow_65 o_me o_me_reader  N2 (v1_2, v2_2, v3_2, o_me_isles_2)) (fun (y : Int32 × Ob) => (0 ≤ y.1.toInt ∧ y.1.toInt ≤ 1) ∧ IvX2 pl y.2 ∧ Kp [7, 8, 9, 10, 11, 12] [1, 3, 4, 5] [] o_me_isles y.2) := by
            intro N2
            induction N2 with
            | zero =>
              intro v1_2 v2_2 v3_2 o_me_isles_2 hI_me_isles_2 hkp_me_isles_2 hh7 hh8 hN2
              exact absurd hN2 (Nat.not_lt_zero _)
            | succ N2 ihx =>
              have ih2 := ihx
              intro v1_2 v2_2 v3_2 o_me_isles_2 hI_me_isles_2 hkp_me_isles_2 hh7 hh8 hN2
              show wp (lb_X8_tellRow_65 o_me o_me_reader  (lp_X8_tellRow_65 o_me o_me_reader  N2) v1_2 v2_2 v3_2 o_me_isles_2) (fun (y : Int32 × Ob) => (0 ≤ y.1.toInt ∧ y.1.toInt ≤ 1) ∧ IvX2 pl y.2 ∧ Kp [7, 8, 9, 10, 11, 12] [1, 3, 4, 5] [] o_me_isles y.2)
              unfold lb_X8_tellRow_65
              refine wp_if (fun c9 => ?_) (fun c9 => ?_)
              · have c9 := cv_ge (a := v3_2.toInt) (b := 4) rfl (by decide) c9
                refine wp_some ?_
                exact (show (0 ≤ (1 : Int32).toInt ∧ (1 : Int32).toInt ≤ 1) ∧ IvX2 pl o_me_isles_2 ∧ Kp [7, 8, 9, 10, 11, 12] [1, 3, 4, 5] [] o_me_isles o_me_isles_2 from ⟨⟨by decide, by decide⟩, hI_me_isles_2, hkp_me_isles_2⟩)
              · have c9 := cv_nge (a := v3_2.toInt) (b := 4) rfl (by decide) c9
                have t10 : (v2_2 * (4 : Int32)).toInt = v2_2.toInt * 4 := i32_mul rfl (by decide) (zr_l hh7.1 (by decide) (by decide)) (zr_u hh7.2 (by decide) (by decide))
                have t11 : ((v2_2 * (4 : Int32)) + v3_2).toInt = (v2_2 * (4 : Int32)).toInt + v3_2.toInt := i32_add rfl rfl (zk_ll (zrq_l (c := 0) t10 hh7.1 (by decide) (by decide)) hh8.1 (by decide)) (zk_uu (zrq_u (c := 24) t10 hh7.2 (by decide) (by decide)) (zlt_u (c := 3) c9 (by decide)) (by decide))
                refine wp_bd (s_X6_byteAt   o_me_reader ((v1_2 + (1 : Int32)) + v3_2)  hI_me_reader  ) (fun z12 hz12 => ?_)
                refine wp_gd (zin_of (m := 28) rfl (zaq_l (c := 0) t11 (zrq_l (c := 0) t10 hh7.1 (by decide) (by decide)) hh8.1 (by decide)) (zlt_m (c := 27) (zaq_u (c := 27) t11 (zrq_u (c := 24) t10 hh7.2 (by decide) (by decide)) (zlt_u (c := 3) c9 (by decide)) (by decide)) (by decide))) ?_
                refine wp_lt (fun o13 eo13 => ?_)
                have hIo13 : IvX2 pl o13 := by rw [eo13]; exact hI_me_isles_2
                have hkpo13 : Kp [7, 8, 9, 10, 11, 12] [1, 3, 4, 5] [] o_me_isles o13 := hkp_me_isles_2.trans (by rw [eo13]; exact Kp.tA (by decide) (by decide))
                refine wp_lt (fun x14 ex14 => ?_)
                have tx14 : x14.toInt = v3_2.toInt + 1 := by rw [ex14]; exact i32_add rfl (by decide) (zk_l hh8.1 (by decide)) (zk_u (zlt_u (c := 3) c9 (by decide)) (by decide))
                exact ih2 v1_2 v2_2 x14 o13 hIo13 hkpo13 ⟨hh7.1, hh7.2⟩ ⟨(zl_e (zq_r (c := (-1)) tx14 (by decide)) hh8.1 (by decide)), (zu_e (Int.le_of_eq tx14) (zlt_u (c := 3) c9 (by decide)) (by decide))⟩ (zms_u (c := 3) hN2 (zq_r (c := (-1)) tx14 (by decide)) (zlt_u (c := 3) c9 (by decide)) (by decide))
          exact lp2 zfu v1_1 v2_1 (0 : Int32) o_me_isles_1 hI_me_isles_1 hkp_me_isles_1 ⟨hh4.1, hh4.2⟩ ⟨by decide, by decide⟩ (zme_u (l := 0) (Int.le_of_eq tz0.symm) (by decide))
        · have c6 := cv_nge (a := v3_1.toInt) (b := 4) rfl (by decide) c6
          refine wp_bd (s_X6_byteAt   o_me_reader ((v1_1 + (1 : Int32)) + v3_1)  hI_me_reader  ) (fun z15 hz15 => ?_)
          refine wp_if (fun c16 => ?_) (fun c16 => ?_)
          · refine wp_some ?_
            exact (show (0 ≤ (0 : Int32).toInt ∧ (0 : Int32).toInt ≤ 1) ∧ IvX2 pl o_me_isles_1 ∧ Kp [7, 8, 9, 10, 11, 12] [1, 3, 4, 5] [] o_me_isles o_me_isles_1 from ⟨⟨by decide, by decide⟩, hI_me_isles_1, hkp_me_isles_1⟩)
          · refine wp_if (fun c17 => ?_) (fun c17 => ?_)
            · refine wp_lt (fun x18 ex18 => ?_)
              have tx18 : x18.toInt = v3_1.toInt + 1 := by rw [ex18]; exact i32_add rfl (by decide) (zk_l hh5.1 (by decide)) (zk_u (zlt_u (c := 3) c6 (by decide)) (by decide))
              exact ih1 v1_1 v2_1 x18 o_me_isles_1 hI_me_isles_1 hkp_me_isles_1 ⟨hh4.1, hh4.2⟩ ⟨(zl_e (zq_r (c := (-1)) tx18 (by decide)) hh5.1 (by decide)), (zu_e (Int.le_of_eq tx18) (zlt_u (c := 3) c6 (by decide)) (by decide))⟩ (zms_u (c := 3) hN1 (zq_r (c := (-1)) tx18 (by decide)) (zlt_u (c := 3) c6 (by decide)) (by decide))
            · refine wp_some ?_
              exact (show (0 ≤ (0 : Int32).toInt ∧ (0 : Int32).toInt ≤ 1) ∧ IvX2 pl o_me_isles_1 ∧ Kp [7, 8, 9, 10, 11, 12] [1, 3, 4, 5] [] o_me_isles o_me_isles_1 from ⟨⟨by decide, by decide⟩, hI_me_isles_1, hkp_me_isles_1⟩)
    exact lp1 zfu p0 z1 (0 : Int32) o_me_isles hI_me_isles Kp.rf ⟨c3i.1.1, c3i.1.2⟩ ⟨by decide, by decide⟩ (zme_u (l := 0) (Int.le_of_eq tz0.symm) (by decide))

set_option maxHeartbeats 4000000 in
set_option maxRecDepth 100000 in
theorem s_X8_row {pl : List CR} {rI : Nat → Option Nat} (o_me : Ob) (o_me_reader : Ob) (o_me_isles : Ob) (hI_me : IvX8 rI o_me) (hI_me_reader : IvX6 o_me_reader) (hI_me_isles : IvX2 pl o_me_isles)  : wp (f_X8_row   o_me o_me_reader o_me_isles) (fun (y : Int32 × Ob × Ob × Ob) => IvX8 rI y.2.1 ∧ Kp [14, 15, 16] [] [] o_me y.2.1 ∧ IvX6 y.2.2.1 ∧ Kp [3, 4, 5, 6, 7, 8] [0] [] o_me_reader y.2.2.1 ∧ IvX2 pl y.2.2.2 ∧ Kp [7, 8, 9, 10, 11, 12] [1, 3, 4, 5] [] o_me_isles y.2.2.2) := by
  unfold f_X8_row
  refine wp_if (fun c2 => ?_) (fun c2 => ?_)
  · refine wp_bd (s_X8_refuse   o_me (-6 : Int32)  hI_me  ) (fun z3 hz3 => ?_)
    obtain ⟨hz3_0, hz3_1⟩ := hz3
    have hkpz3_me : Kp [14, 15, 16] [] [] o_me z3.2 := Kp.rf.trans (hz3_1.mono (by decide) (by decide) (by decide))
    refine wp_some ?_
    exact (show IvX8 rI z3.2 ∧ Kp [14, 15, 16] [] [] o_me z3.2 ∧ IvX6 o_me_reader ∧ Kp [3, 4, 5, 6, 7, 8] [0] [] o_me_reader o_me_reader ∧ IvX2 pl o_me_isles ∧ Kp [7, 8, 9, 10, 11, 12] [1, 3, 4, 5] [] o_me_isles o_me_isles from ⟨hz3_0, hkpz3_me, hI_me_reader, Kp.rf, hI_me_isles, Kp.rf⟩)
  · refine wp_lt (fun o4 eo4 => ?_)
    have hIo4 : IvX8 rI o4 := by rw [eo4]; exact hI_me
    have hkpo4 : Kp [14, 15, 16] [] [] o_me o4 := Kp.rf.trans (by rw [eo4]; exact Kp.sI (by decide))
    have lp1 : ∀ (N1 : Nat) (v1_1 : Int32) (v2_1 : Int32) (o_me_1 : Ob) (o_me_reader_1 : Ob) (o_me_isles_1 : Ob), IvX8 rI o_me_1 → Kp [14, 15, 16] [] [] o_me o_me_1 → IvX6 o_me_reader_1 → Kp [3, 4, 5, 6, 7, 8] [0] [] o_me_reader o_me_reader_1 → IvX2 pl o_me_isles_1 → Kp [7, 8, 9, 10, 11, 12] [1, 3, 4, 5] [] o_me_isles o_me_isles_1 → (0 ≤ v2_1.toInt ∧ v2_1.toInt ≤ 404) → (404 - v2_1.toInt).toNat < N1 → wp (lp_X8_row_26   N1 (v1_1, v2_1, o_me_1, o_me_reader_1, o_me_isles_1)) (fun (y : Int32 × Ob × Ob × Ob) => IvX8 rI y.2.1 ∧ Kp [14, 15, 16] [] [] o_me y.2.1 ∧ IvX6 y.2.2.1 ∧ Kp [3, 4, 5, 6, 7, 8] [0] [] o_me_reader y.2.2.1 ∧ IvX2 pl y.2.2.2 ∧ Kp [7, 8, 9, 10, 11, 12] [1, 3, 4, 5] [] o_me_isles y.2.2.2) := by
      intro N1
      induction N1 with
      | zero =>
        intro v1_1 v2_1 o_me_1 o_me_reader_1 o_me_isles_1 hI_me_1 hkp_me_1 hI_me_reader_1 hkp_me_reader_1 hI_me_isles_1 hkp_me_isles_1 hh5 hN1
        exact absurd hN1 (Nat.not_lt_zero _)
      | succ N1 ihx =>
        have ih1 := ihx
        intro v1_1 v2_1 o_me_1 o_me_reader_1 o_me_isles_1 hI_me_1 hkp_me_1 hI_me_reader_1 hkp_me_reader_1 hI_me_isles_1 hkp_me_isles_1 hh5 hN1
        show wp (lb_X8_row_26   (lp_X8_row_26   N1) v1_1 v2_1 o_me_1 o_me_reader_1 o_me_isles_1) (fun (y : Int32 × Ob × Ob × Ob) => IvX8 rI y.2.1 ∧ Kp [14, 15, 16] [] [] o_me y.2.1 ∧ IvX6 y.2.2.1 ∧ Kp [3, 4, 5, 6, 7, 8] [0] [] o_me_reader y.2.2.1 ∧ IvX2 pl y.2.2.2 ∧ Kp [7, 8, 9, 10, 11, 12] [1, 3, 4, 5] [] o_me_isles y.2.2.2)
        unfold lb_X8_row_26
        have t6 := igX6_2 hI_me_reader_1
        refine wp_if (fun c7 => ?_) (fun c7 => ?_)
        · have c7 := cv_ge (a := v2_1.toInt) (b := (gI o_me_reader_1 2).toInt) rfl rfl c7
          refine wp_lt (fun o8 eo8 => ?_)
          have hIo8 : IvX6 o8 := by rw [eo8]; exact ipX6_2 hI_me_reader_1 ⟨by decide, by decide⟩
          have hkpo8 : Kp [3, 4, 5, 6, 7, 8] [0] [] o_me_reader o8 := hkp_me_reader_1.trans (by rw [eo8]; exact Kp.sI (by decide))
          refine wp_bd (s_X8_grant   o_me_1 v1_1  hI_me_1  ) (fun z9 hz9 => ?_)
          obtain ⟨hz9_0, hz9_1⟩ := hz9
          have hkpz9_me : Kp [14, 15, 16] [] [] o_me z9.2 := hkp_me_1.trans (hz9_1.mono (by decide) (by decide) (by decide))
          refine wp_some ?_
          exact (show IvX8 rI z9.2 ∧ Kp [14, 15, 16] [] [] o_me z9.2 ∧ IvX6 o8 ∧ Kp [3, 4, 5, 6, 7, 8] [0] [] o_me_reader o8 ∧ IvX2 pl o_me_isles_1 ∧ Kp [7, 8, 9, 10, 11, 12] [1, 3, 4, 5] [] o_me_isles o_me_isles_1 from ⟨hz9_0, hkpz9_me, hIo8, hkpo8, hI_me_isles_1, hkp_me_isles_1⟩)
        · have c7 := cv_nge (a := v2_1.toInt) (b := (gI o_me_reader_1 2).toInt) rfl rfl c7
          refine wp_bd (s_X8_tellRow   o_me_1 o_me_reader_1 o_me_isles_1 v2_1  hI_me_1 hI_me_reader_1 hI_me_isles_1  ) (fun z10 hz10 => ?_)
          obtain ⟨hz10_0, hz10_1, hz10_2⟩ := hz10
          have hkpz10_me_isles : Kp [7, 8, 9, 10, 11, 12] [1, 3, 4, 5] [] o_me_isles z10.2 := hkp_me_isles_1.trans (hz10_2.mono (by decide) (by decide) (by decide))
          refine wp_if (fun c11 => ?_) (fun c11 => ?_)
          · refine wp_lt (fun o12 eo12 => ?_)
            have hIo12 : IvX8 rI o12 := by rw [eo12]; exact hI_me_1
            have hkpo12 : Kp [14, 15, 16] [] [] o_me o12 := hkp_me_1.trans (by rw [eo12]; exact Kp.sI (by decide))
            unfold bk_X8_row_61
            refine wp_lt (fun x13 ex13 => ?_)
            have tx13 : x13.toInt = v2_1.toInt + 5 := by rw [ex13]; exact i32_add rfl (by decide) (zk_l hh5.1 (by decide)) (zk_u (zu_e (k := 399) (zl_d c7) t6.2 (by decide)) (by decide))
            exact ih1 v1_1 x13 o12 o_me_reader_1 z10.2 hIo12 hkpo12 hI_me_reader_1 hkp_me_reader_1 hz10_1 hkpz10_me_isles ⟨(zl_e (zq_r (c := (-5)) tx13 (by decide)) hh5.1 (by decide)), (zu_e (zd_e (c := 4) (Int.le_of_eq tx13) (zl_d c7) (by decide)) t6.2 (by decide))⟩ (zms_u (c := 403) hN1 (zd_w (zq_r (c := (-5)) tx13 (by decide)) (by decide)) (zu_e (zl_d c7) t6.2 (by decide)) (by decide))
          · refine wp_lt (fun x14 ex14 => ?_)
            unfold bk_X8_row_61
            refine wp_lt (fun x15 ex15 => ?_)
            have tx15 : x15.toInt = v2_1.toInt + 5 := by rw [ex15]; exact i32_add rfl (by decide) (zk_l hh5.1 (by decide)) (zk_u (zu_e (k := 399) (zl_d c7) t6.2 (by decide)) (by decide))
            exact ih1 x14 x15 o_me_1 o_me_reader_1 z10.2 hI_me_1 hkp_me_1 hI_me_reader_1 hkp_me_reader_1 hz10_1 hkpz10_me_isles ⟨(zl_e (zq_r (c := (-5)) tx15 (by decide)) hh5.1 (by decide)), (zu_e (zd_e (c := 4) (Int.le_of_eq tx15) (zl_d c7) (by decide)) t6.2 (by decide))⟩ (zms_u (c := 403) hN1 (zd_w (zq_r (c := (-5)) tx15 (by decide)) (by decide)) (zu_e (zl_d c7) t6.2 (by decide)) (by decide))
    exact lp1 zfu (0 : Int32) (0 : Int32) o4 o_me_reader o_me_isles hIo4 hkpo4 hI_me_reader Kp.rf hI_me_isles Kp.rf ⟨by decide, by decide⟩ (zme_u (l := 0) (Int.le_of_eq tz0.symm) (by decide))

set_option maxHeartbeats 4000000 in
set_option maxRecDepth 100000 in
theorem s_X2_addSeen {pl : List CR} (o_me : Ob) (p0 : Int32) (p1 : Int32) (hI_me : IvX2 pl o_me) (q0 : 0 ≤ p0.toInt ∧ p0.toInt ≤ 3) (q1 : 0 ≤ p1.toInt ∧ p1.toInt ≤ 9) : wp (f_X2_addSeen   o_me p0 p1) (fun (y : Int32 × Ob) => (1 ≤ y.1.toInt ∧ y.1.toInt ≤ 6) ∧ IvX2 pl y.2 ∧ Kp [7, 9, 10, 11, 12] [1, 2, 3] [] o_me y.2) := by
  unfold f_X2_addSeen
  have t1 := igX2_8 hI_me
  refine wp_if (fun c2 => ?_) (fun c2 => ?_)
  · have c2 := cv_ge (a := (gI o_me 8).toInt) (b := 6) rfl (by decide) c2
    unfold bk_X2_addSeen_39
    refine wp_some ?_
    exact (show (1 ≤ (gI o_me 8).toInt ∧ (gI o_me 8).toInt ≤ 6) ∧ IvX2 pl o_me ∧ Kp [7, 9, 10, 11, 12] [1, 2, 3] [] o_me o_me from ⟨⟨(Int.le_trans (by decide) c2), t1.2⟩, hI_me, Kp.rf⟩)
  · have c2 := cv_nge (a := (gI o_me 8).toInt) (b := 6) rfl (by decide) c2
    refine wp_gd (zin_of (m := 6) rfl t1.1 (zlt_m (c := 5) (zlt_u (c := 5) c2 (by decide)) (by decide))) ?_
    refine wp_lt (fun o3 eo3 => ?_)
    have hIo3 : IvX2 pl o3 := by rw [eo3]; exact ibX2_4 hI_me t1.1  (Or.inr (Or.inr ⟨q0.1, q0.2⟩))
    have ko3_k4 : (gI o3 8).toInt = (gI o_me 8).toInt := by rw [eo3]; rfl
    have hkpo3 : Kp [7, 9, 10, 11, 12] [1, 2, 3] [] o_me o3 := Kp.rf.trans (by rw [eo3]; exact Kp.tA (by decide) (by decide))
    refine wp_gd (zin_of (m := 6) rfl (zl_e (zq_0 ko3_k4.symm) t1.1 (by decide)) (zlt_m (c := 5) (zu_e (zq_0 ko3_k4) (zlt_u (c := 5) c2 (by decide)) (by decide)) (by decide))) ?_
    refine wp_lt (fun o5 eo5 => ?_)
    have hIo5 : IvX2 pl o5 := by rw [eo5]; exact hIo3
    have ko5_k7 : (gI o5 8).toInt = (gI o3 8).toInt := by rw [eo5]; rfl
    have hkpo5 : Kp [7, 9, 10, 11, 12] [1, 2, 3] [] o_me o5 := hkpo3.trans (by rw [eo5]; exact Kp.tA (by decide) (by decide))
    have t8 : ((gI o5 8) + (1 : Int32)).toInt = (gI o5 8).toInt + 1 := i32_add rfl (by decide) (zk_l (zl_e (k := 0) (zd_e (c := 0) (zq_0 ko3_k4.symm) (zq_0 ko5_k7.symm) (by decide)) t1.1 (by decide)) (by decide)) (zk_u (zu_e (k := 5) (zd_e (c := 0) (zq_0 ko5_k7) (zq_0 ko3_k4) (by decide)) (zlt_u (c := 5) c2 (by decide)) (by decide)) (by decide))
    refine wp_lt (fun o9 eo9 => ?_)
    have hIo9 : IvX2 pl o9 := by rw [eo9]; exact ipX2_8 hIo5 ⟨(zl_e (zd_e (c := (-1)) (zq_0 ko3_k4.symm) (zd_e (c := (-1)) (zq_0 ko5_k7.symm) (zq_r (c := (-1)) t8 (by decide)) (by decide)) (by decide)) t1.1 (by decide)), (zu_e (zd_e (c := 1) (zd_e (c := 1) (Int.le_of_eq t8) (zq_0 ko5_k7) (by decide)) (zq_0 ko3_k4) (by decide)) (zlt_u (c := 5) c2 (by decide)) (by decide))⟩
    have ko9_v : (gI o9 8).toInt = ((gI o5 8) + (1 : Int32)).toInt := by rw [eo9]; rfl
    have hkpo9 : Kp [7, 9, 10, 11, 12] [1, 2, 3] [] o_me o9 := hkpo5.trans (by rw [eo9]; exact Kp.sI (by decide))
    unfold bk_X2_addSeen_39
    refine wp_some ?_
    exact (show (1 ≤ (gI o9 8).toInt ∧ (gI o9 8).toInt ≤ 6) ∧ IvX2 pl o9 ∧ Kp [7, 9, 10, 11, 12] [1, 2, 3] [] o_me o9 from ⟨⟨(zl_e (zd_e (c := (-1)) (zq_0 ko3_k4.symm) (zd_e (c := (-1)) (zq_0 ko5_k7.symm) (zd_e (c := (-1)) (zq_r (c := (-1)) t8 (by decide)) (zq_0 ko9_v.symm) (by decide)) (by decide)) (by decide)) t1.1 (by decide)), (zu_e (zd_e (c := 1) (zd_e (c := 1) (zd_e (c := 1) (zq_0 ko9_v) (Int.le_of_eq t8) (by decide)) (zq_0 ko5_k7) (by decide)) (zq_0 ko3_k4) (by decide)) (zlt_u (c := 5) c2 (by decide)) (by decide))⟩, hIo9, hkpo9⟩)

set_option maxHeartbeats 4000000 in
set_option maxRecDepth 100000 in
theorem s_X8_seen {pl : List CR} {rI : Nat → Option Nat} (o_me : Ob) (o_me_isles : Ob) (p0 : Int32) (p1 : Int32) (hI_me : IvX8 rI o_me) (hI_me_isles : IvX2 pl o_me_isles)  : wp (f_X8_seen   o_me o_me_isles p0 p1) (fun (y : Int32 × Ob × Ob) => IvX8 rI y.2.1 ∧ Kp [13, 14, 15, 16] [] [] o_me y.2.1 ∧ IvX2 pl y.2.2 ∧ Kp [7, 9, 10, 11, 12] [1, 2, 3] [] o_me_isles y.2.2) := by
  unfold f_X8_seen
  refine wp_bd (s_X8_isRace   p0    ) (fun z1 hz1 => ?_)
  obtain ⟨hz1_0, hz1_1⟩ := hz1
  refine wp_if (fun c2 => ?_) (fun c2 => ?_)
  · have c2 := cv_eq (a := z1.toInt) (b := 0) rfl (by decide) c2
    unfold bk_X8_seen_14
    refine wp_bd (s_X8_refuse   o_me (-1 : Int32)  hI_me  ) (fun z3 hz3 => ?_)
    obtain ⟨hz3_0, hz3_1⟩ := hz3
    have hkpz3_me : Kp [13, 14, 15, 16] [] [] o_me z3.2 := Kp.rf.trans (hz3_1.mono (by decide) (by decide) (by decide))
    refine wp_some ?_
    exact (show IvX8 rI z3.2 ∧ Kp [13, 14, 15, 16] [] [] o_me z3.2 ∧ IvX2 pl o_me_isles ∧ Kp [7, 9, 10, 11, 12] [1, 2, 3] [] o_me_isles o_me_isles from ⟨hz3_0, hkpz3_me, hI_me_isles, Kp.rf⟩)
  · have c2i := hz1_1 c2
    refine wp_bd (s_X8_isTrade   p1    ) (fun z4 hz4 => ?_)
    obtain ⟨hz4_0, hz4_1⟩ := hz4
    refine wp_if (fun c5 => ?_) (fun c5 => ?_)
    · have c5 := cv_eq (a := z4.toInt) (b := 0) rfl (by decide) c5
      unfold bk_X8_seen_14
      refine wp_bd (s_X8_refuse   o_me (-1 : Int32)  hI_me  ) (fun z6 hz6 => ?_)
      obtain ⟨hz6_0, hz6_1⟩ := hz6
      have hkpz6_me : Kp [13, 14, 15, 16] [] [] o_me z6.2 := Kp.rf.trans (hz6_1.mono (by decide) (by decide) (by decide))
      refine wp_some ?_
      exact (show IvX8 rI z6.2 ∧ Kp [13, 14, 15, 16] [] [] o_me z6.2 ∧ IvX2 pl o_me_isles ∧ Kp [7, 9, 10, 11, 12] [1, 2, 3] [] o_me_isles o_me_isles from ⟨hz6_0, hkpz6_me, hI_me_isles, Kp.rf⟩)
    · have c5i := hz4_1 c5
      refine wp_if (fun c8 => ?_) (fun c8 => ?_)
      · refine wp_bd (s_X2_addSeen   o_me_isles p0 p1  hI_me_isles  ⟨c2i.1, c2i.2⟩ ⟨c5i.1, c5i.2⟩) (fun z9 hz9 => ?_)
        obtain ⟨hz9_0, hz9_1, hz9_2⟩ := hz9
        have hkpz9_me_isles : Kp [7, 9, 10, 11, 12] [1, 2, 3] [] o_me_isles z9.2 := Kp.rf.trans (hz9_2.mono (by decide) (by decide) (by decide))
        refine wp_bd (s_X8_grant   o_me z9.1  hI_me  ) (fun z10 hz10 => ?_)
        obtain ⟨hz10_0, hz10_1⟩ := hz10
        have hkpz10_me : Kp [13, 14, 15, 16] [] [] o_me z10.2 := Kp.rf.trans (hz10_1.mono (by decide) (by decide) (by decide))
        refine wp_some ?_
        exact (show IvX8 rI z10.2 ∧ Kp [13, 14, 15, 16] [] [] o_me z10.2 ∧ IvX2 pl z9.2 ∧ Kp [7, 9, 10, 11, 12] [1, 2, 3] [] o_me_isles z9.2 from ⟨hz10_0, hkpz10_me, hz9_1, hkpz9_me_isles⟩)
      · refine wp_bd (s_X8_refuse   o_me (-5 : Int32)  hI_me  ) (fun z11 hz11 => ?_)
        obtain ⟨hz11_0, hz11_1⟩ := hz11
        have hkpz11_me : Kp [13, 14, 15, 16] [] [] o_me z11.2 := Kp.rf.trans (hz11_1.mono (by decide) (by decide) (by decide))
        refine wp_some ?_
        exact (show IvX8 rI z11.2 ∧ Kp [13, 14, 15, 16] [] [] o_me z11.2 ∧ IvX2 pl o_me_isles ∧ Kp [7, 9, 10, 11, 12] [1, 2, 3] [] o_me_isles o_me_isles from ⟨hz11_0, hkpz11_me, hI_me_isles, Kp.rf⟩)

set_option maxHeartbeats 4000000 in
set_option maxRecDepth 100000 in
theorem s_X8_status {rI : Nat → Option Nat} (o_me : Ob) (hI_me : IvX8 rI o_me)  : wp (f_X8_status   o_me) (fun (y : Int32) => True) := by
  unfold f_X8_status
  refine wp_some ?_
  exact trivial

set_option maxHeartbeats 4000000 in
set_option maxRecDepth 100000 in
theorem s_X8_stopped {rI : Nat → Option Nat} (o_me : Ob) (hI_me : IvX8 rI o_me)  : wp (f_X8_stopped   o_me) (fun (y : Int32) => True) := by
  unfold f_X8_stopped
  refine wp_some ?_
  exact trivial

set_option maxHeartbeats 4000000 in
set_option maxRecDepth 100000 in
theorem s_X8_strength {pl : List CR} {rI : Nat → Option Nat} (o_me : Ob) (o_me_isles : Ob) (p0 : Int32) (p1 : Int32) (p2 : Int32) (hI_me : IvX8 rI o_me) (hI_me_isles : IvX2 pl o_me_isles)  : wp (f_X8_strength   o_me o_me_isles p0 p1 p2) (fun (y : Int32 × Ob × Ob) => IvX8 rI y.2.1 ∧ Kp [13, 14, 15, 16] [] [] o_me y.2.1 ∧ IvX2 pl y.2.2 ∧ Kp [7, 8, 9, 10, 11, 12] [1, 3, 4, 5] [] o_me_isles y.2.2) := by
  unfold f_X8_strength
  refine wp_bd (s_X8_isRace   p1    ) (fun z1 hz1 => ?_)
  obtain ⟨hz1_0, hz1_1⟩ := hz1
  refine wp_if (fun c2 => ?_) (fun c2 => ?_)
  · have c2 := cv_eq (a := z1.toInt) (b := 0) rfl (by decide) c2
    unfold bk_X8_strength_17
    refine wp_bd (s_X8_refuse   o_me (-1 : Int32)  hI_me  ) (fun z3 hz3 => ?_)
    obtain ⟨hz3_0, hz3_1⟩ := hz3
    have hkpz3_me : Kp [13, 14, 15, 16] [] [] o_me z3.2 := Kp.rf.trans (hz3_1.mono (by decide) (by decide) (by decide))
    refine wp_some ?_
    exact (show IvX8 rI z3.2 ∧ Kp [13, 14, 15, 16] [] [] o_me z3.2 ∧ IvX2 pl o_me_isles ∧ Kp [7, 8, 9, 10, 11, 12] [1, 3, 4, 5] [] o_me_isles o_me_isles from ⟨hz3_0, hkpz3_me, hI_me_isles, Kp.rf⟩)
  · have c2i := hz1_1 c2
    refine wp_if (fun c4 => ?_) (fun c4 => ?_)
    · unfold bk_X8_strength_17
      refine wp_bd (s_X8_refuse   o_me (-1 : Int32)  hI_me  ) (fun z5 hz5 => ?_)
      obtain ⟨hz5_0, hz5_1⟩ := hz5
      have hkpz5_me : Kp [13, 14, 15, 16] [] [] o_me z5.2 := Kp.rf.trans (hz5_1.mono (by decide) (by decide) (by decide))
      refine wp_some ?_
      exact (show IvX8 rI z5.2 ∧ Kp [13, 14, 15, 16] [] [] o_me z5.2 ∧ IvX2 pl o_me_isles ∧ Kp [7, 8, 9, 10, 11, 12] [1, 3, 4, 5] [] o_me_isles o_me_isles from ⟨hz5_0, hkpz5_me, hI_me_isles, Kp.rf⟩)
    · refine wp_if (fun c6 => ?_) (fun c6 => ?_)
      · refine wp_bd (s_X2_isPerson   o_me_isles p0  hI_me_isles  ) (fun z7 hz7 => ?_)
        obtain ⟨hz7_0, hz7_1⟩ := hz7
        refine wp_if (fun c8 => ?_) (fun c8 => ?_)
        · have c8 := cv_eq (a := z7.toInt) (b := 0) rfl (by decide) c8
          refine wp_bd (s_X8_refuse   o_me (-2 : Int32)  hI_me  ) (fun z9 hz9 => ?_)
          obtain ⟨hz9_0, hz9_1⟩ := hz9
          have hkpz9_me : Kp [13, 14, 15, 16] [] [] o_me z9.2 := Kp.rf.trans (hz9_1.mono (by decide) (by decide) (by decide))
          refine wp_some ?_
          exact (show IvX8 rI z9.2 ∧ Kp [13, 14, 15, 16] [] [] o_me z9.2 ∧ IvX2 pl o_me_isles ∧ Kp [7, 8, 9, 10, 11, 12] [1, 3, 4, 5] [] o_me_isles o_me_isles from ⟨hz9_0, hkpz9_me, hI_me_isles, Kp.rf⟩)
        · have c8i := hz7_1 c8
          have t10 : (p0 * (4 : Int32)).toInt = p0.toInt * 4 := i32_mul rfl (by decide) (zr_l c8i.1.1 (by decide) (by decide)) (zr_u c8i.1.2 (by decide) (by decide))
          have t11 : ((p0 * (4 : Int32)) + p1).toInt = (p0 * (4 : Int32)).toInt + p1.toInt := i32_add rfl rfl (zk_ll (zrq_l (c := 0) t10 c8i.1.1 (by decide) (by decide)) c2i.1 (by decide)) (zk_uu (zrq_u (c := 24) t10 c8i.1.2 (by decide) (by decide)) c2i.2 (by decide))
          refine wp_lt (fun x12 ex12 => ?_)
          have tx12 : x12.toInt = ((p0 * (4 : Int32)) + p1).toInt := by rw [ex12]
          refine wp_gd (zin_of (m := 28) rfl (zl_e (zq_0 tx12.symm) (zaq_l (c := 0) t11 (zrq_l (c := 0) t10 c8i.1.1 (by decide) (by decide)) c2i.1 (by decide)) (by decide)) (zlt_m (c := 27) (zu_e (zq_0 tx12) (zaq_u (c := 27) t11 (zrq_u (c := 24) t10 c8i.1.2 (by decide) (by decide)) c2i.2 (by decide)) (by decide)) (by decide))) ?_
          refine wp_lt (fun x13 ex13 => ?_)
          refine wp_gd (zin_of (m := 28) rfl (zl_e (zq_0 tx12.symm) (zaq_l (c := 0) t11 (zrq_l (c := 0) t10 c8i.1.1 (by decide) (by decide)) c2i.1 (by decide)) (by decide)) (zlt_m (c := 27) (zu_e (zq_0 tx12) (zaq_u (c := 27) t11 (zrq_u (c := 24) t10 c8i.1.2 (by decide) (by decide)) c2i.2 (by decide)) (by decide)) (by decide))) ?_
          refine wp_lt (fun o14 eo14 => ?_)
          have hIo14 : IvX2 pl o14 := by rw [eo14]; exact hI_me_isles
          have hkpo14 : Kp [7, 8, 9, 10, 11, 12] [1, 3, 4, 5] [] o_me_isles o14 := Kp.rf.trans (by rw [eo14]; exact Kp.tA (by decide) (by decide))
          refine wp_bd (s_X8_grant   o_me x13  hI_me  ) (fun z16 hz16 => ?_)
          obtain ⟨hz16_0, hz16_1⟩ := hz16
          have hkpz16_me : Kp [13, 14, 15, 16] [] [] o_me z16.2 := Kp.rf.trans (hz16_1.mono (by decide) (by decide) (by decide))
          refine wp_some ?_
          exact (show IvX8 rI z16.2 ∧ Kp [13, 14, 15, 16] [] [] o_me z16.2 ∧ IvX2 pl o14 ∧ Kp [7, 8, 9, 10, 11, 12] [1, 3, 4, 5] [] o_me_isles o14 from ⟨hz16_0, hkpz16_me, hIo14, hkpo14⟩)
      · unfold bk_X8_strength_17
        refine wp_bd (s_X8_refuse   o_me (-1 : Int32)  hI_me  ) (fun z17 hz17 => ?_)
        obtain ⟨hz17_0, hz17_1⟩ := hz17
        have hkpz17_me : Kp [13, 14, 15, 16] [] [] o_me z17.2 := Kp.rf.trans (hz17_1.mono (by decide) (by decide) (by decide))
        refine wp_some ?_
        exact (show IvX8 rI z17.2 ∧ Kp [13, 14, 15, 16] [] [] o_me z17.2 ∧ IvX2 pl o_me_isles ∧ Kp [7, 8, 9, 10, 11, 12] [1, 3, 4, 5] [] o_me_isles o_me_isles from ⟨hz17_0, hkpz17_me, hI_me_isles, Kp.rf⟩)

set_option maxHeartbeats 4000000 in
set_option maxRecDepth 100000 in
theorem s_X8_take {rI : Nat → Option Nat} (o_me : Ob) (o_me_machine : Ob) (o_me_isles : Ob) (o_me_isles_now : Ob) (o_me_court : Ob) (o_me_past : Ob) (o_pool : List CR) (p0 : Int32) (hI_me : IvX8 rI o_me) (hI_me_machine : IvX3 o_me_machine) (hI_me_isles : IvX2 o_pool o_me_isles) (hI_me_isles_now : IvX4 o_me_isles_now) (hI_me_court : IvX1 o_me_court) (hI_me_past : IvX5 o_me_past) (hI_pool : PLok o_pool)  : wp (f_X8_take   o_me o_me_machine o_me_isles o_me_isles_now o_me_court o_me_past o_pool p0) (fun (y : Int32 × Ob × Ob × Ob × Ob × Ob) => IvX8 rI y.2.1 ∧ Kp [13, 14, 15, 16] [] [] o_me y.2.1 ∧ IvX3 y.2.2.1 ∧ Kp [] [] [] o_me_machine y.2.2.1 ∧ IvX4 y.2.2.2.1 ∧ Kp [] [] [] o_me_isles_now y.2.2.2.1 ∧ IvX1 y.2.2.2.2.1 ∧ Kp [] [] [] o_me_court y.2.2.2.2.1 ∧ IvX5 y.2.2.2.2.2 ∧ Kp [] [] [] o_me_past y.2.2.2.2.2) := by
  unfold f_X8_take
  refine wp_bd (s_X1_moved_O   o_me_court o_me_isles o_me_isles_now o_me_machine o_pool o_me_past (2 : Int32) p0  hI_me_court hI_me_isles hI_me_isles_now hI_me_machine hI_pool hI_me_past  ) (fun z1 hz1 => ?_)
  obtain ⟨hz1_0, hz1_1, hz1_2, hz1_3, hz1_4, hz1_5, hz1_6, hz1_7⟩ := hz1
  have hkpz1_me_court : Kp [] [] [] o_me_court z1.2.1 := Kp.rf.trans (hz1_1.mono (by decide) (by decide) (by decide))
  have hkpz1_me_isles_now : Kp [] [] [] o_me_isles_now z1.2.2.1 := Kp.rf.trans (hz1_3.mono (by decide) (by decide) (by decide))
  have hkpz1_me_machine : Kp [] [] [] o_me_machine z1.2.2.2.1 := Kp.rf.trans (hz1_5.mono (by decide) (by decide) (by decide))
  have hkpz1_me_past : Kp [] [] [] o_me_past z1.2.2.2.2 := Kp.rf.trans (hz1_7.mono (by decide) (by decide) (by decide))
  refine wp_bd (s_X8_answer   o_me z1.1  hI_me  ) (fun z2 hz2 => ?_)
  obtain ⟨hz2_0, hz2_1⟩ := hz2
  have hkpz2_me : Kp [13, 14, 15, 16] [] [] o_me z2.2 := Kp.rf.trans (hz2_1.mono (by decide) (by decide) (by decide))
  refine wp_some ?_
  exact (show IvX8 rI z2.2 ∧ Kp [13, 14, 15, 16] [] [] o_me z2.2 ∧ IvX3 z1.2.2.2.1 ∧ Kp [] [] [] o_me_machine z1.2.2.2.1 ∧ IvX4 z1.2.2.1 ∧ Kp [] [] [] o_me_isles_now z1.2.2.1 ∧ IvX1 z1.2.1 ∧ Kp [] [] [] o_me_court z1.2.1 ∧ IvX5 z1.2.2.2.2 ∧ Kp [] [] [] o_me_past z1.2.2.2.2 from ⟨hz2_0, hkpz2_me, hz1_4, hkpz1_me_machine, hz1_2, hkpz1_me_isles_now, hz1_0, hkpz1_me_court, hz1_6, hkpz1_me_past⟩)

set_option maxHeartbeats 4000000 in
set_option maxRecDepth 100000 in
theorem s_X2_setTerm {pl : List CR} (o_me : Ob) (o_me_now : Ob) (p0 : Int32) (p1 : Int32) (hI_me : IvX2 pl o_me) (hI_me_now : IvX4 o_me_now)  : wp (f_X2_setTerm   o_me o_me_now p0 p1) (fun (y : Ob × Ob) => IvX2 pl y.1 ∧ Kp [7, 8, 9, 10] [1, 2, 3, 4, 5] [] o_me y.1 ∧ IvX4 y.2 ∧ Kp [2, 3] [0, 1] [] o_me_now y.2) := by
  unfold f_X2_setTerm
  refine wp_if (fun c1 => ?_) (fun c1 => ?_)
  · refine wp_lt (fun o2 eo2 => ?_)
    have hIo2 : IvX4 o2 := by rw [eo2]; exact hI_me_now
    have hkpo2 : Kp [2, 3] [0, 1] [] o_me_now o2 := Kp.rf.trans (by rw [eo2]; exact Kp.sI (by decide))
    refine wp_some ?_
    exact (show IvX2 pl o_me ∧ Kp [7, 8, 9, 10] [1, 2, 3, 4, 5] [] o_me o_me ∧ IvX4 o2 ∧ Kp [2, 3] [0, 1] [] o_me_now o2 from ⟨hI_me, Kp.rf, hIo2, hkpo2⟩)
  · refine wp_if (fun c3 => ?_) (fun c3 => ?_)
    · refine wp_lt (fun o4 eo4 => ?_)
      have hIo4 : IvX2 pl o4 := by rw [eo4]; exact hI_me
      have hkpo4 : Kp [7, 8, 9, 10] [1, 2, 3, 4, 5] [] o_me o4 := Kp.rf.trans (by rw [eo4]; exact Kp.sI (by decide))
      refine wp_some ?_
      exact (show IvX2 pl o4 ∧ Kp [7, 8, 9, 10] [1, 2, 3, 4, 5] [] o_me o4 ∧ IvX4 o_me_now ∧ Kp [2, 3] [0, 1] [] o_me_now o_me_now from ⟨hIo4, hkpo4, hI_me_now, Kp.rf⟩)
    · refine wp_lt (fun o5 eo5 => ?_)
      have hIo5 : IvX2 pl o5 := by rw [eo5]; exact hI_me
      have hkpo5 : Kp [7, 8, 9, 10] [1, 2, 3, 4, 5] [] o_me o5 := Kp.rf.trans (by rw [eo5]; exact Kp.sI (by decide))
      refine wp_some ?_
      exact (show IvX2 pl o5 ∧ Kp [7, 8, 9, 10] [1, 2, 3, 4, 5] [] o_me o5 ∧ IvX4 o_me_now ∧ Kp [2, 3] [0, 1] [] o_me_now o_me_now from ⟨hIo5, hkpo5, hI_me_now, Kp.rf⟩)

set_option maxHeartbeats 4000000 in
set_option maxRecDepth 100000 in
theorem s_X8_terms {pl : List CR} {rI : Nat → Option Nat} (o_me : Ob) (o_me_isles : Ob) (o_me_isles_now : Ob) (o_me_past : Ob) (p0 : Int32) (p1 : Int32) (hI_me : IvX8 rI o_me) (hI_me_isles : IvX2 pl o_me_isles) (hI_me_isles_now : IvX4 o_me_isles_now) (hI_me_past : IvX5 o_me_past)  : wp (f_X8_terms   o_me o_me_isles o_me_isles_now o_me_past p0 p1) (fun (y : Int32 × Ob × Ob × Ob × Ob) => IvX8 rI y.2.1 ∧ Kp [13, 14, 15, 16] [] [] o_me y.2.1 ∧ IvX2 pl y.2.2.1 ∧ Kp [7, 8, 9, 10] [1, 2, 3, 4, 5] [] o_me_isles y.2.2.1 ∧ IvX4 y.2.2.2.1 ∧ Kp [2, 3] [0, 1] [] o_me_isles_now y.2.2.2.1 ∧ IvX5 y.2.2.2.2 ∧ Kp [] [0] [] o_me_past y.2.2.2.2) := by
  unfold f_X8_terms
  refine wp_if (fun c1 => ?_) (fun c1 => ?_)
  · obtain ⟨w2, ew2⟩ : ∃ z : Int32, z = (999 : Int32) := ⟨_, rfl⟩
    rw [show bk_X8_terms_31   p0 p1 (999 : Int32) o_me o_me_isles o_me_isles_now o_me_past = bk_X8_terms_31   p0 p1 w2 o_me o_me_isles o_me_isles_now o_me_past from by rw [ew2]]
    unfold bk_X8_terms_31
    refine wp_if (fun c3 => ?_) (fun c3 => ?_)
    · unfold bk_X8_terms_41
      refine wp_bd (s_X8_refuse   o_me (-1 : Int32)  hI_me  ) (fun z4 hz4 => ?_)
      obtain ⟨hz4_0, hz4_1⟩ := hz4
      have hkpz4_me : Kp [13, 14, 15, 16] [] [] o_me z4.2 := Kp.rf.trans (hz4_1.mono (by decide) (by decide) (by decide))
      refine wp_some ?_
      exact (show IvX8 rI z4.2 ∧ Kp [13, 14, 15, 16] [] [] o_me z4.2 ∧ IvX2 pl o_me_isles ∧ Kp [7, 8, 9, 10] [1, 2, 3, 4, 5] [] o_me_isles o_me_isles ∧ IvX4 o_me_isles_now ∧ Kp [2, 3] [0, 1] [] o_me_isles_now o_me_isles_now ∧ IvX5 o_me_past ∧ Kp [] [0] [] o_me_past o_me_past from ⟨hz4_0, hkpz4_me, hI_me_isles, Kp.rf, hI_me_isles_now, Kp.rf, hI_me_past, Kp.rf⟩)
    · refine wp_if (fun c5 => ?_) (fun c5 => ?_)
      · refine wp_bd (s_X2_term   o_me_isles o_me_isles_now p0  hI_me_isles hI_me_isles_now  ) (fun z7 hz7 => ?_)
        refine wp_bd (s_X2_setTerm   o_me_isles o_me_isles_now p0 p1  hI_me_isles hI_me_isles_now  ) (fun z8 hz8 => ?_)
        obtain ⟨hz8_0, hz8_1, hz8_2, hz8_3⟩ := hz8
        have hkpz8_me_isles : Kp [7, 8, 9, 10] [1, 2, 3, 4, 5] [] o_me_isles z8.1 := Kp.rf.trans (hz8_1.mono (by decide) (by decide) (by decide))
        have hkpz8_me_isles_now : Kp [2, 3] [0, 1] [] o_me_isles_now z8.2 := Kp.rf.trans (hz8_3.mono (by decide) (by decide) (by decide))
        refine wp_bd (s_X5_clear   o_me_past  hI_me_past  ) (fun z9 hz9 => ?_)
        obtain ⟨hz9_0, hz9_1⟩ := hz9
        have hkpz9_me_past : Kp [] [0] [] o_me_past z9 := Kp.rf.trans (hz9_1.mono (by decide) (by decide) (by decide))
        refine wp_bd (s_X8_grant   o_me z7  hI_me  ) (fun z10 hz10 => ?_)
        obtain ⟨hz10_0, hz10_1⟩ := hz10
        have hkpz10_me : Kp [13, 14, 15, 16] [] [] o_me z10.2 := Kp.rf.trans (hz10_1.mono (by decide) (by decide) (by decide))
        refine wp_some ?_
        exact (show IvX8 rI z10.2 ∧ Kp [13, 14, 15, 16] [] [] o_me z10.2 ∧ IvX2 pl z8.1 ∧ Kp [7, 8, 9, 10] [1, 2, 3, 4, 5] [] o_me_isles z8.1 ∧ IvX4 z8.2 ∧ Kp [2, 3] [0, 1] [] o_me_isles_now z8.2 ∧ IvX5 z9 ∧ Kp [] [0] [] o_me_past z9 from ⟨hz10_0, hkpz10_me, hz8_0, hkpz8_me_isles, hz8_2, hkpz8_me_isles_now, hz9_0, hkpz9_me_past⟩)
      · unfold bk_X8_terms_41
        refine wp_bd (s_X8_refuse   o_me (-1 : Int32)  hI_me  ) (fun z11 hz11 => ?_)
        obtain ⟨hz11_0, hz11_1⟩ := hz11
        have hkpz11_me : Kp [13, 14, 15, 16] [] [] o_me z11.2 := Kp.rf.trans (hz11_1.mono (by decide) (by decide) (by decide))
        refine wp_some ?_
        exact (show IvX8 rI z11.2 ∧ Kp [13, 14, 15, 16] [] [] o_me z11.2 ∧ IvX2 pl o_me_isles ∧ Kp [7, 8, 9, 10] [1, 2, 3, 4, 5] [] o_me_isles o_me_isles ∧ IvX4 o_me_isles_now ∧ Kp [2, 3] [0, 1] [] o_me_isles_now o_me_isles_now ∧ IvX5 o_me_past ∧ Kp [] [0] [] o_me_past o_me_past from ⟨hz11_0, hkpz11_me, hI_me_isles, Kp.rf, hI_me_isles_now, Kp.rf, hI_me_past, Kp.rf⟩)
  · refine wp_if (fun c12 => ?_) (fun c12 => ?_)
    · obtain ⟨w13, ew13⟩ : ∃ z : Int32, z = (10 : Int32) := ⟨_, rfl⟩
      rw [show bk_X8_terms_31   p0 p1 (10 : Int32) o_me o_me_isles o_me_isles_now o_me_past = bk_X8_terms_31   p0 p1 w13 o_me o_me_isles o_me_isles_now o_me_past from by rw [ew13]]
      unfold bk_X8_terms_31
      refine wp_if (fun c14 => ?_) (fun c14 => ?_)
      · unfold bk_X8_terms_41
        refine wp_bd (s_X8_refuse   o_me (-1 : Int32)  hI_me  ) (fun z15 hz15 => ?_)
        obtain ⟨hz15_0, hz15_1⟩ := hz15
        have hkpz15_me : Kp [13, 14, 15, 16] [] [] o_me z15.2 := Kp.rf.trans (hz15_1.mono (by decide) (by decide) (by decide))
        refine wp_some ?_
        exact (show IvX8 rI z15.2 ∧ Kp [13, 14, 15, 16] [] [] o_me z15.2 ∧ IvX2 pl o_me_isles ∧ Kp [7, 8, 9, 10] [1, 2, 3, 4, 5] [] o_me_isles o_me_isles ∧ IvX4 o_me_isles_now ∧ Kp [2, 3] [0, 1] [] o_me_isles_now o_me_isles_now ∧ IvX5 o_me_past ∧ Kp [] [0] [] o_me_past o_me_past from ⟨hz15_0, hkpz15_me, hI_me_isles, Kp.rf, hI_me_isles_now, Kp.rf, hI_me_past, Kp.rf⟩)
      · refine wp_if (fun c16 => ?_) (fun c16 => ?_)
        · refine wp_bd (s_X2_term   o_me_isles o_me_isles_now p0  hI_me_isles hI_me_isles_now  ) (fun z18 hz18 => ?_)
          refine wp_bd (s_X2_setTerm   o_me_isles o_me_isles_now p0 p1  hI_me_isles hI_me_isles_now  ) (fun z19 hz19 => ?_)
          obtain ⟨hz19_0, hz19_1, hz19_2, hz19_3⟩ := hz19
          have hkpz19_me_isles : Kp [7, 8, 9, 10] [1, 2, 3, 4, 5] [] o_me_isles z19.1 := Kp.rf.trans (hz19_1.mono (by decide) (by decide) (by decide))
          have hkpz19_me_isles_now : Kp [2, 3] [0, 1] [] o_me_isles_now z19.2 := Kp.rf.trans (hz19_3.mono (by decide) (by decide) (by decide))
          refine wp_bd (s_X5_clear   o_me_past  hI_me_past  ) (fun z20 hz20 => ?_)
          obtain ⟨hz20_0, hz20_1⟩ := hz20
          have hkpz20_me_past : Kp [] [0] [] o_me_past z20 := Kp.rf.trans (hz20_1.mono (by decide) (by decide) (by decide))
          refine wp_bd (s_X8_grant   o_me z18  hI_me  ) (fun z21 hz21 => ?_)
          obtain ⟨hz21_0, hz21_1⟩ := hz21
          have hkpz21_me : Kp [13, 14, 15, 16] [] [] o_me z21.2 := Kp.rf.trans (hz21_1.mono (by decide) (by decide) (by decide))
          refine wp_some ?_
          exact (show IvX8 rI z21.2 ∧ Kp [13, 14, 15, 16] [] [] o_me z21.2 ∧ IvX2 pl z19.1 ∧ Kp [7, 8, 9, 10] [1, 2, 3, 4, 5] [] o_me_isles z19.1 ∧ IvX4 z19.2 ∧ Kp [2, 3] [0, 1] [] o_me_isles_now z19.2 ∧ IvX5 z20 ∧ Kp [] [0] [] o_me_past z20 from ⟨hz21_0, hkpz21_me, hz19_0, hkpz19_me_isles, hz19_2, hkpz19_me_isles_now, hz20_0, hkpz20_me_past⟩)
        · unfold bk_X8_terms_41
          refine wp_bd (s_X8_refuse   o_me (-1 : Int32)  hI_me  ) (fun z22 hz22 => ?_)
          obtain ⟨hz22_0, hz22_1⟩ := hz22
          have hkpz22_me : Kp [13, 14, 15, 16] [] [] o_me z22.2 := Kp.rf.trans (hz22_1.mono (by decide) (by decide) (by decide))
          refine wp_some ?_
          exact (show IvX8 rI z22.2 ∧ Kp [13, 14, 15, 16] [] [] o_me z22.2 ∧ IvX2 pl o_me_isles ∧ Kp [7, 8, 9, 10] [1, 2, 3, 4, 5] [] o_me_isles o_me_isles ∧ IvX4 o_me_isles_now ∧ Kp [2, 3] [0, 1] [] o_me_isles_now o_me_isles_now ∧ IvX5 o_me_past ∧ Kp [] [0] [] o_me_past o_me_past from ⟨hz22_0, hkpz22_me, hI_me_isles, Kp.rf, hI_me_isles_now, Kp.rf, hI_me_past, Kp.rf⟩)
    · refine wp_if (fun c23 => ?_) (fun c23 => ?_)
      · obtain ⟨w24, ew24⟩ : ∃ z : Int32, z = (9 : Int32) := ⟨_, rfl⟩
        rw [show bk_X8_terms_31   p0 p1 (9 : Int32) o_me o_me_isles o_me_isles_now o_me_past = bk_X8_terms_31   p0 p1 w24 o_me o_me_isles o_me_isles_now o_me_past from by rw [ew24]]
        unfold bk_X8_terms_31
        refine wp_if (fun c25 => ?_) (fun c25 => ?_)
        · unfold bk_X8_terms_41
          refine wp_bd (s_X8_refuse   o_me (-1 : Int32)  hI_me  ) (fun z26 hz26 => ?_)
          obtain ⟨hz26_0, hz26_1⟩ := hz26
          have hkpz26_me : Kp [13, 14, 15, 16] [] [] o_me z26.2 := Kp.rf.trans (hz26_1.mono (by decide) (by decide) (by decide))
          refine wp_some ?_
          exact (show IvX8 rI z26.2 ∧ Kp [13, 14, 15, 16] [] [] o_me z26.2 ∧ IvX2 pl o_me_isles ∧ Kp [7, 8, 9, 10] [1, 2, 3, 4, 5] [] o_me_isles o_me_isles ∧ IvX4 o_me_isles_now ∧ Kp [2, 3] [0, 1] [] o_me_isles_now o_me_isles_now ∧ IvX5 o_me_past ∧ Kp [] [0] [] o_me_past o_me_past from ⟨hz26_0, hkpz26_me, hI_me_isles, Kp.rf, hI_me_isles_now, Kp.rf, hI_me_past, Kp.rf⟩)
        · refine wp_if (fun c27 => ?_) (fun c27 => ?_)
          · refine wp_bd (s_X2_term   o_me_isles o_me_isles_now p0  hI_me_isles hI_me_isles_now  ) (fun z29 hz29 => ?_)
            refine wp_bd (s_X2_setTerm   o_me_isles o_me_isles_now p0 p1  hI_me_isles hI_me_isles_now  ) (fun z30 hz30 => ?_)
            obtain ⟨hz30_0, hz30_1, hz30_2, hz30_3⟩ := hz30
            have hkpz30_me_isles : Kp [7, 8, 9, 10] [1, 2, 3, 4, 5] [] o_me_isles z30.1 := Kp.rf.trans (hz30_1.mono (by decide) (by decide) (by decide))
            have hkpz30_me_isles_now : Kp [2, 3] [0, 1] [] o_me_isles_now z30.2 := Kp.rf.trans (hz30_3.mono (by decide) (by decide) (by decide))
            refine wp_bd (s_X5_clear   o_me_past  hI_me_past  ) (fun z31 hz31 => ?_)
            obtain ⟨hz31_0, hz31_1⟩ := hz31
            have hkpz31_me_past : Kp [] [0] [] o_me_past z31 := Kp.rf.trans (hz31_1.mono (by decide) (by decide) (by decide))
            refine wp_bd (s_X8_grant   o_me z29  hI_me  ) (fun z32 hz32 => ?_)
            obtain ⟨hz32_0, hz32_1⟩ := hz32
            have hkpz32_me : Kp [13, 14, 15, 16] [] [] o_me z32.2 := Kp.rf.trans (hz32_1.mono (by decide) (by decide) (by decide))
            refine wp_some ?_
            exact (show IvX8 rI z32.2 ∧ Kp [13, 14, 15, 16] [] [] o_me z32.2 ∧ IvX2 pl z30.1 ∧ Kp [7, 8, 9, 10] [1, 2, 3, 4, 5] [] o_me_isles z30.1 ∧ IvX4 z30.2 ∧ Kp [2, 3] [0, 1] [] o_me_isles_now z30.2 ∧ IvX5 z31 ∧ Kp [] [0] [] o_me_past z31 from ⟨hz32_0, hkpz32_me, hz30_0, hkpz30_me_isles, hz30_2, hkpz30_me_isles_now, hz31_0, hkpz31_me_past⟩)
          · unfold bk_X8_terms_41
            refine wp_bd (s_X8_refuse   o_me (-1 : Int32)  hI_me  ) (fun z33 hz33 => ?_)
            obtain ⟨hz33_0, hz33_1⟩ := hz33
            have hkpz33_me : Kp [13, 14, 15, 16] [] [] o_me z33.2 := Kp.rf.trans (hz33_1.mono (by decide) (by decide) (by decide))
            refine wp_some ?_
            exact (show IvX8 rI z33.2 ∧ Kp [13, 14, 15, 16] [] [] o_me z33.2 ∧ IvX2 pl o_me_isles ∧ Kp [7, 8, 9, 10] [1, 2, 3, 4, 5] [] o_me_isles o_me_isles ∧ IvX4 o_me_isles_now ∧ Kp [2, 3] [0, 1] [] o_me_isles_now o_me_isles_now ∧ IvX5 o_me_past ∧ Kp [] [0] [] o_me_past o_me_past from ⟨hz33_0, hkpz33_me, hI_me_isles, Kp.rf, hI_me_isles_now, Kp.rf, hI_me_past, Kp.rf⟩)
      · obtain ⟨w34, ew34⟩ : ∃ z : Int32, z = (-1 : Int32) := ⟨_, rfl⟩
        have tw34 : w34.toInt = (-1) := by rw [ew34]; decide
        rw [show bk_X8_terms_31   p0 p1 (-1 : Int32) o_me o_me_isles o_me_isles_now o_me_past = bk_X8_terms_31   p0 p1 w34 o_me o_me_isles o_me_isles_now o_me_past from by rw [ew34]]
        unfold bk_X8_terms_31
        refine wp_if (fun c35 => ?_) (fun c35 => ?_)
        · have c35 := cv_lt (a := p1.toInt) (b := 0) rfl (by decide) c35
          unfold bk_X8_terms_41
          refine wp_bd (s_X8_refuse   o_me (-1 : Int32)  hI_me  ) (fun z36 hz36 => ?_)
          obtain ⟨hz36_0, hz36_1⟩ := hz36
          have hkpz36_me : Kp [13, 14, 15, 16] [] [] o_me z36.2 := Kp.rf.trans (hz36_1.mono (by decide) (by decide) (by decide))
          refine wp_some ?_
          exact (show IvX8 rI z36.2 ∧ Kp [13, 14, 15, 16] [] [] o_me z36.2 ∧ IvX2 pl o_me_isles ∧ Kp [7, 8, 9, 10] [1, 2, 3, 4, 5] [] o_me_isles o_me_isles ∧ IvX4 o_me_isles_now ∧ Kp [2, 3] [0, 1] [] o_me_isles_now o_me_isles_now ∧ IvX5 o_me_past ∧ Kp [] [0] [] o_me_past o_me_past from ⟨hz36_0, hkpz36_me, hI_me_isles, Kp.rf, hI_me_isles_now, Kp.rf, hI_me_past, Kp.rf⟩)
        · have c35 := cv_nlt (a := p1.toInt) (b := 0) rfl (by decide) c35
          refine wp_if (fun c37 => ?_) (fun c37 => ?_)
          · have c37 := cv_le (a := p1.toInt) (b := w34.toInt) rfl rfl c37
            exact absurd c37 (Int.not_le.mpr (zz_l (zd_b (Int.le_of_eq tw34) c35 (by decide))))
          · unfold bk_X8_terms_41
            refine wp_bd (s_X8_refuse   o_me (-1 : Int32)  hI_me  ) (fun z39 hz39 => ?_)
            obtain ⟨hz39_0, hz39_1⟩ := hz39
            have hkpz39_me : Kp [13, 14, 15, 16] [] [] o_me z39.2 := Kp.rf.trans (hz39_1.mono (by decide) (by decide) (by decide))
            refine wp_some ?_
            exact (show IvX8 rI z39.2 ∧ Kp [13, 14, 15, 16] [] [] o_me z39.2 ∧ IvX2 pl o_me_isles ∧ Kp [7, 8, 9, 10] [1, 2, 3, 4, 5] [] o_me_isles o_me_isles ∧ IvX4 o_me_isles_now ∧ Kp [2, 3] [0, 1] [] o_me_isles_now o_me_isles_now ∧ IvX5 o_me_past ∧ Kp [] [0] [] o_me_past o_me_past from ⟨hz39_0, hkpz39_me, hI_me_isles, Kp.rf, hI_me_isles_now, Kp.rf, hI_me_past, Kp.rf⟩)

theorem h_readFrom (oa o3 : Ob) (x : Int32) (h0 : 0 ≤ x.toInt) (h1 : x.toInt ≤ 15) (ha : IvX4 oa) (hg : AHok (gA o3 1)) : wp (f_X4_readFrom_AX5_1 oa o3 (x * (17 : Int32))) (fun y => IvX4 y) := by
  have t : (x * (17 : Int32)).toInt = x.toInt * 17 := i32_mul rfl (by decide) (by omega) (by omega)
  generalize x * (17 : Int32) = q at t
  have t7 : (q + (7 : Int32)).toInt = q.toInt + 7 := i32_add rfl (by decide) (by omega) (by omega)
  have t17 : (q + (17 : Int32)).toInt = q.toInt + 17 := i32_add rfl (by decide) (by omega) (by omega)
  have u3 : ((q + (17 : Int32)) - (3 : Int32)).toInt = q.toInt + 17 - 3 := i32_sub t17 (by decide) (by omega) (by omega)
  have u2 : ((q + (17 : Int32)) - (2 : Int32)).toInt = q.toInt + 17 - 2 := i32_sub t17 (by decide) (by omega) (by omega)
  have u1 : ((q + (17 : Int32)) - (1 : Int32)).toInt = q.toInt + 17 - 1 := i32_sub t17 (by decide) (by omega) (by omega)
  obtain ⟨n, en⟩ : ∃ n : Nat, x.toInt = (n : Int) := ⟨x.toInt.toNat, by omega⟩
  have eq : q.toNatClampNeg = 17 * n := tnc_eq (by omega)
  have n0 : (0 : Int32).toNatClampNeg = 0 := by decide
  have n7 : (7 : Int32).toNatClampNeg = 7 := by decide
  have z0 : (0 : Int32).toInt = 0 := by decide
  have z7 : (7 : Int32).toInt = 7 := by decide
  unfold f_X4_readFrom_AX5_1
  refine wp_if (fun c => wp_some ha) (fun c => ?_)
  refine wp_if (fun c => ?_) (fun c => wp_some ha)
  have c := cv_le (a := q.toInt) (b := 255) rfl (by decide) c
  refine wp_gd (zcp_of (m0 := 272) (m1 := 7) rfl rfl (by omega) (by omega) (by omega) (by omega) (by omega)) ?_
  refine wp_lt (fun o2 e2 => ?_)
  have g2 : IvX4 o2 := by
    rw [e2]
    refine ⟨⟨fun j _ hj => ?_, trivial⟩, trivial⟩
    show 0 ≤ (va_cpy (gA o3 1) (gA oa 0) q.toNatClampNeg (0 : Int32).toNatClampNeg (7 : Int32).toNatClampNeg j).toInt ∧ (va_cpy (gA o3 1) (gA oa 0) q.toNatClampNeg (0 : Int32).toNatClampNeg (7 : Int32).toNatClampNeg j).toInt ≤ 9
    rw [n0, n7, eq]
    unfold va_cpy
    rw [if_pos ⟨Nat.zero_le _, by omega⟩]
    have e : 17 * n + (j - 0) = 17 * n + j := by omega
    rw [e]
    exact hg n j (by omega) (by omega)
  refine wp_gd (zcp_of (m0 := 272) (m1 := 7) rfl rfl (by omega) (by omega) (by omega) (by omega) (by omega)) ?_
  refine wp_lt (fun o4 e4 => ?_)
  have g4 : IvX4 o4 := by rw [e4]; exact g2
  refine wp_gd (zin_of (m := 272) rfl (by omega) (by omega)) ?_
  refine wp_lt (fun o6 e6 => ?_)
  refine wp_gd (zin_of (m := 272) rfl (by omega) (by omega)) ?_
  refine wp_lt (fun o8 e8 => ?_)
  refine wp_gd (zin_of (m := 272) rfl (by omega) (by omega)) ?_
  refine wp_lt (fun o10 e10 => ?_)
  exact wp_some (by rw [e10, e8, e6]; exact g4)
set_option maxHeartbeats 4000000 in
set_option maxRecDepth 100000 in
theorem s_X5_bringBack_O (o_me : Ob) (o_a0 : Ob) (hI_me : IvX5 o_me) (hI_a0 : IvX4 o_a0)  : wp (f_X5_bringBack_O   o_me o_a0) (fun (y : Int32 × Ob × Ob) => IvX5 y.2.1 ∧ Kp [2] [0] [] o_me y.2.1 ∧ IvX4 y.2.2 ∧ Kp [] [] [] o_a0 y.2.2) := by
  have h2 := hI_me.1
  have h3 := hI_me.2.1
  unfold f_X5_bringBack_O
  refine wp_if (fun c => wp_some ⟨hI_me, Kp.rf, hI_a0, Kp.rf⟩) (fun c => ?_)
  have c := cv_ne (a := (gI o_me 3).toInt) (b := 0) rfl (by decide) c
  have t1 : ((gI o_me 3) - (1 : Int32)).toInt = (gI o_me 3).toInt - 1 := i32_sub rfl (by decide) (by omega) (by omega)
  refine wp_lt (fun o1 e1 => ?_)
  have k2 : gI o1 2 = gI o_me 2 := by rw [e1]; rfl
  have k3 : (gI o1 3).toInt = (gI o_me 3).toInt - 1 := by rw [e1]; exact t1
  have hI1 : IvX5 o1 := ⟨by rw [k2]; exact h2, ⟨by omega, by omega⟩, by rw [e1]; exact hI_me.2.2⟩
  have t : ((gI o1 2) + (gI o1 3)).toInt = (gI o_me 2).toInt + ((gI o_me 3).toInt - 1) := i32_add (by rw [k2]) k3 (by omega) (by omega)
  have r := i32_rem (x := (gI o1 2) + (gI o1 3)) (y := 16) (m := 16) (by decide) (by decide) (by omega)
  refine wp_lt (fun x2 ex => ?_)
  rw [← ex] at r
  refine wp_bd (h_readFrom o_a0 o1 x2 r.1 (by omega) hI_a0 hI1.2.2) (fun z hz => ?_)
  refine wp_gd (zin_of (m := 16) rfl (by omega) (by omega)) ?_
  exact wp_some ⟨hI1, by rw [e1]; exact Kp.sI (by decide), hz, Kp.nil⟩

set_option maxHeartbeats 4000000 in
set_option maxRecDepth 100000 in
theorem s_X8_undo {pl : List CR} {rI : Nat → Option Nat} (o_me : Ob) (o_me_isles : Ob) (o_me_isles_now : Ob) (o_me_past : Ob) (hI_me : IvX8 rI o_me) (hI_me_isles : IvX2 pl o_me_isles) (hI_me_isles_now : IvX4 o_me_isles_now) (hI_me_past : IvX5 o_me_past)  : wp (f_X8_undo   o_me o_me_isles o_me_isles_now o_me_past) (fun (y : Int32 × Ob × Ob × Ob) => IvX8 rI y.2.1 ∧ Kp [13, 14, 15, 16] [] [] o_me y.2.1 ∧ IvX4 y.2.2.1 ∧ Kp [] [] [] o_me_isles_now y.2.2.1 ∧ IvX5 y.2.2.2 ∧ Kp [2] [0] [] o_me_past y.2.2.2) := by
  unfold f_X8_undo
  refine wp_if (fun c2 => ?_) (fun c2 => ?_)
  · refine wp_bd (s_X8_refuse   o_me (-3 : Int32)  hI_me  ) (fun z3 hz3 => ?_)
    obtain ⟨hz3_0, hz3_1⟩ := hz3
    have hkpz3_me : Kp [13, 14, 15, 16] [] [] o_me z3.2 := Kp.rf.trans (hz3_1.mono (by decide) (by decide) (by decide))
    refine wp_some ?_
    exact (show IvX8 rI z3.2 ∧ Kp [13, 14, 15, 16] [] [] o_me z3.2 ∧ IvX4 o_me_isles_now ∧ Kp [] [] [] o_me_isles_now o_me_isles_now ∧ IvX5 o_me_past ∧ Kp [2] [0] [] o_me_past o_me_past from ⟨hz3_0, hkpz3_me, hI_me_isles_now, Kp.rf, hI_me_past, Kp.rf⟩)
  · refine wp_bd (s_X5_bringBack_O   o_me_past o_me_isles_now  hI_me_past hI_me_isles_now  ) (fun z4 hz4 => ?_)
    obtain ⟨hz4_0, hz4_1, hz4_2, hz4_3⟩ := hz4
    have hkpz4_me_past : Kp [2] [0] [] o_me_past z4.2.1 := Kp.rf.trans (hz4_1.mono (by decide) (by decide) (by decide))
    have hkpz4_me_isles_now : Kp [] [] [] o_me_isles_now z4.2.2 := Kp.rf.trans (hz4_3.mono (by decide) (by decide) (by decide))
    refine wp_bd (s_X8_grant   o_me z4.1  hI_me  ) (fun z5 hz5 => ?_)
    obtain ⟨hz5_0, hz5_1⟩ := hz5
    have hkpz5_me : Kp [13, 14, 15, 16] [] [] o_me z5.2 := Kp.rf.trans (hz5_1.mono (by decide) (by decide) (by decide))
    refine wp_some ?_
    exact (show IvX8 rI z5.2 ∧ Kp [13, 14, 15, 16] [] [] o_me z5.2 ∧ IvX4 z4.2.2 ∧ Kp [] [] [] o_me_isles_now z4.2.2 ∧ IvX5 z4.2.1 ∧ Kp [2] [0] [] o_me_past z4.2.1 from ⟨hz5_0, hkpz5_me, hz4_2, hkpz4_me_isles_now, hz4_0, hkpz4_me_past⟩)

set_option maxHeartbeats 4000000 in
set_option maxRecDepth 100000 in
theorem s_X2_addLaw_Q (o_me : Ob) (o_pool : List CR) (p0 : Option Nat) (hI_me : IvX2 o_pool o_me) (hI_pool : PLok o_pool) (po_p0 : zpo o_pool p0 = true)  : wp (f_X2_addLaw_Q   o_me o_pool p0) (fun (y : Int32 × Ob) => ((-1) ≤ y.1.toInt ∧ y.1.toInt ≤ 5) ∧ IvX2 o_pool y.2 ∧ Kp [7, 8, 10, 11, 12] [1, 2, 3, 4, 5] [] o_me y.2) := by
  unfold f_X2_addLaw_Q
  have t1 := igX2_9 hI_me
  refine wp_if (fun c2 => ?_) (fun c2 => ?_)
  · have c2 := cv_lt (a := (gI o_me 9).toInt) (b := 6) rfl (by decide) c2
    refine wp_gd po_p0 ?_
    refine wp_gd (zin_of (m := 6) rfl t1.1 (zlt_m (c := 5) (zlt_u (c := 5) c2 (by decide)) (by decide))) ?_
    refine wp_lt (fun o3 eo3 => ?_)
    have hIo3 : IvX2 o_pool o3 := by rw [eo3]; exact iqX2 hI_me po_p0
    have ko3_k4 : (gI o3 9).toInt = (gI o_me 9).toInt := by rw [eo3]; rfl
    have hkpo3 : Kp [7, 8, 10, 11, 12] [1, 2, 3, 4, 5] [] o_me o3 := Kp.rf.trans (by rw [eo3]; exact Kp.tR)
    have t5 : ((gI o3 9) + (1 : Int32)).toInt = (gI o3 9).toInt + 1 := i32_add rfl (by decide) (zk_l (zl_e (k := 0) (zq_0 ko3_k4.symm) t1.1 (by decide)) (by decide)) (zk_u (zu_e (k := 5) (zq_0 ko3_k4) (zlt_u (c := 5) c2 (by decide)) (by decide)) (by decide))
    refine wp_lt (fun o6 eo6 => ?_)
    have hIo6 : IvX2 o_pool o6 := by rw [eo6]; exact ipX2_9 hIo3 ⟨(zl_e (zd_e (c := (-1)) (zq_0 ko3_k4.symm) (zq_r (c := (-1)) t5 (by decide)) (by decide)) t1.1 (by decide)), (zu_e (zd_e (c := 1) (Int.le_of_eq t5) (zq_0 ko3_k4) (by decide)) (zlt_u (c := 5) c2 (by decide)) (by decide))⟩
    have ko6_v : (gI o6 9).toInt = ((gI o3 9) + (1 : Int32)).toInt := by rw [eo6]; rfl
    have hkpo6 : Kp [7, 8, 10, 11, 12] [1, 2, 3, 4, 5] [] o_me o6 := hkpo3.trans (by rw [eo6]; exact Kp.sI (by decide))
    have t7 : ((gI o6 9) - (1 : Int32)).toInt = (gI o6 9).toInt - 1 := i32_sub rfl (by decide) (zs_l (zl_e (k := 1) (zd_e (c := (-1)) (zq_0 ko3_k4.symm) (zd_e (c := (-1)) (zq_r (c := (-1)) t5 (by decide)) (zq_0 ko6_v.symm) (by decide)) (by decide)) t1.1 (by decide)) (by decide)) (zs_u (zu_e (k := 6) (zd_e (c := 1) (zd_e (c := 1) (zq_0 ko6_v) (Int.le_of_eq t5) (by decide)) (zq_0 ko3_k4) (by decide)) (zlt_u (c := 5) c2 (by decide)) (by decide)) (by decide))
    refine wp_some ?_
    exact (show ((-1) ≤ ((gI o6 9) - (1 : Int32)).toInt ∧ ((gI o6 9) - (1 : Int32)).toInt ≤ 5) ∧ IvX2 o_pool o6 ∧ Kp [7, 8, 10, 11, 12] [1, 2, 3, 4, 5] [] o_me o6 from ⟨⟨(zl_e (zd_e (c := 0) (zq_0 ko3_k4.symm) (zd_e (c := 0) (zq_r (c := (-1)) t5 (by decide)) (zd_e (c := 1) (zq_0 ko6_v.symm) (zq_t (c := 1) t7 (by decide)) (by decide)) (by decide)) (by decide)) t1.1 (by decide)), (zu_e (zd_e (c := 0) (zd_e (c := 0) (zd_e (c := (-1)) (zq_s (c := (-1)) t7 (by decide)) (zq_0 ko6_v) (by decide)) (Int.le_of_eq t5) (by decide)) (zq_0 ko3_k4) (by decide)) (zlt_u (c := 5) c2 (by decide)) (by decide))⟩, hIo6, hkpo6⟩)
  · refine wp_some ?_
    exact (show ((-1) ≤ (-1 : Int32).toInt ∧ (-1 : Int32).toInt ≤ 5) ∧ IvX2 o_pool o_me ∧ Kp [7, 8, 10, 11, 12] [1, 2, 3, 4, 5] [] o_me o_me from ⟨⟨by decide, by decide⟩, hI_me, Kp.rf⟩)

