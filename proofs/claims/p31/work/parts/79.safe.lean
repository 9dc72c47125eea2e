set_option maxHeartbeats 4000000 in
set_option maxRecDepth 100000 in
theorem s_X8_row {pl : List CR} (o_me : Ob) (o_me_reader : Ob) (o_me_isles : Ob) (hI_me : IvX8 o_me) (hI_me_reader : IvX6 o_me_reader) (hI_me_isles : IvX2 pl o_me_isles)  : wp (f_X8_row   o_me o_me_reader o_me_isles) (fun (y : Int32 × Ob × Ob × Ob) => IvX8 y.2.1 ∧ Kp [] [] [] o_me y.2.1 ∧ IvX6 y.2.2.1 ∧ Kp [4, 5, 6, 7, 8] [] [] o_me_reader y.2.2.1 ∧ IvX2 pl y.2.2.2 ∧ Kp [7, 8, 9, 10] [4] [] o_me_isles y.2.2.2) := by
  have li0 : (-6 : Int32).toInt = (-6) := by decide
  have li1 : (0 : Int32).toInt = 0 := by decide
  have li2 : (1 : Int32).toInt = 1 := by decide
  unfold f_X8_row
  have t1 := igX6_2 hI_me_reader
  refine wp_if (fun c2 => ?_) (fun c2 => ?_)
  · have c2 := cv_eq (a := (gI o_me_reader 2).toInt) (b := 0) rfl (by decide) c2
    refine wp_bd (s_X8_refuse   o_me (-6 : Int32)  hI_me  ) (fun z3 hz3 => ?_)
    obtain ⟨hz3_0, hz3_1⟩ := hz3
    have hkpz3_me : Kp [] [] [] o_me z3.2 := Kp.rf.trans (hz3_1.mono (by decide) (by decide) (by decide))
    refine wp_some ?_
    exact (show IvX8 z3.2 ∧ Kp [] [] [] o_me z3.2 ∧ IvX6 o_me_reader ∧ Kp [4, 5, 6, 7, 8] [] [] o_me_reader o_me_reader ∧ IvX2 pl o_me_isles ∧ Kp [7, 8, 9, 10] [4] [] o_me_isles o_me_isles from ⟨hz3_0, hkpz3_me, hI_me_reader, Kp.rf, hI_me_isles, Kp.rf⟩)
  · have c2z := c2
    have c2 := cv_ne (a := (gI o_me_reader 2).toInt) (b := 0) rfl (by decide) c2
    refine wp_lt (fun o4 eo4 => ?_)
    have hIo4 : IvX8 o4 := by rw [eo4]; exact hI_me
    have ko4_v : (gI o4 13).toInt = 0 := by rw [eo4]; exact (show ((0 : Int32)).toInt = _ from by decide)
    have hkpo4 : Kp [] [] [] o_me o4 := Kp.rf.trans (by rw [eo4]; exact Kp.sI (by decide))
    have lp1 : ∀ (N1 : Nat) (v1_1 : Int32) (v2_1 : Int32) (o_me_1 : Ob) (o_me_reader_1 : Ob) (o_me_isles_1 : Ob), IvX8 o_me_1 → Kp [] [] [] o_me o_me_1 → IvX6 o_me_reader_1 → Kp [4, 5, 6, 7, 8] [] [] o_me_reader o_me_reader_1 → IvX2 pl o_me_isles_1 → Kp [7, 8, 9, 10] [4] [] o_me_isles o_me_isles_1 → (0 ≤ v1_1.toInt ∧ v1_1.toInt ≤ 400) → (0 ≤ v2_1.toInt ∧ v2_1.toInt ≤ 404) → (0 ≤ (gI o_me_1 13).toInt ∧ (gI o_me_1 13).toInt ≤ 400) → (1 ≤ (gI o_me_reader_1 2).toInt ∧ (gI o_me_reader_1 2).toInt ≤ 400) → (v1_1.toInt ≤ v2_1.toInt + 0) → (v1_1.toInt ≤ (gI o_me_reader_1 2).toInt + 0) → ((gI o_me_1 13).toInt ≤ v2_1.toInt + 0) → ((gI o_me_1 13).toInt ≤ (gI o_me_reader_1 2).toInt + 0) → (404 - v2_1.toInt).toNat < N1 → wp (lp_X8_row_26   N1 (v1_1, v2_1, o_me_1, o_me_reader_1, o_me_isles_1)) (fun (y : Int32 × Ob × Ob × Ob) => IvX8 y.2.1 ∧ Kp [] [] [] o_me y.2.1 ∧ IvX6 y.2.2.1 ∧ Kp [4, 5, 6, 7, 8] [] [] o_me_reader y.2.2.1 ∧ IvX2 pl y.2.2.2 ∧ Kp [7, 8, 9, 10] [4] [] o_me_isles y.2.2.2) := by
      intro N1
      induction N1 with
      | zero =>
        intro v1_1 v2_1 o_me_1 o_me_reader_1 o_me_isles_1 hI_me_1 hkp_me_1 hI_me_reader_1 hkp_me_reader_1 hI_me_isles_1 hkp_me_isles_1 hh6 hh7 hh8 hh9 hh10 hh11 hh12 hh13 hN1
        exact absurd hN1 (Nat.not_lt_zero _)
      | succ N1 ihx =>
        have ih1 := ihx
        intro v1_1 v2_1 o_me_1 o_me_reader_1 o_me_isles_1 hI_me_1 hkp_me_1 hI_me_reader_1 hkp_me_reader_1 hI_me_isles_1 hkp_me_isles_1 hh6 hh7 hh8 hh9 hh10 hh11 hh12 hh13 hN1
        show wp (lb_X8_row_26   (lp_X8_row_26   N1) v1_1 v2_1 o_me_1 o_me_reader_1 o_me_isles_1) (fun (y : Int32 × Ob × Ob × Ob) => IvX8 y.2.1 ∧ Kp [] [] [] o_me y.2.1 ∧ IvX6 y.2.2.1 ∧ Kp [4, 5, 6, 7, 8] [] [] o_me_reader y.2.2.1 ∧ IvX2 pl y.2.2.2 ∧ Kp [7, 8, 9, 10] [4] [] o_me_isles y.2.2.2)
        unfold lb_X8_row_26
        refine wp_if (fun c14 => ?_) (fun c14 => ?_)
        · have c14 := cv_ge (a := v2_1.toInt) (b := (gI o_me_reader_1 2).toInt) rfl rfl c14
          refine wp_lt (fun o15 eo15 => ?_)
          have hIo15 : IvX6 o15 := by rw [eo15]; exact ipX6_2 hI_me_reader_1 ⟨by decide, by decide⟩
          have ko15_v : (gI o15 2).toInt = 0 := by rw [eo15]; exact (show ((0 : Int32)).toInt = _ from by decide)
          have hkpo15 : Kp [4, 5, 6, 7, 8] [] [] o_me_reader o15 := hkp_me_reader_1.trans (by rw [eo15]; exact Kp.sI (by decide))
          refine wp_bd (s_X8_grant   o_me_1 v1_1  hI_me_1  ) (fun z16 hz16 => ?_)
          obtain ⟨hz16_0, hz16_1⟩ := hz16
          have hkpz16_me : Kp [] [] [] o_me z16.2 := hkp_me_1.trans (hz16_1.mono (by decide) (by decide) (by decide))
          refine wp_some ?_
          exact (show IvX8 z16.2 ∧ Kp [] [] [] o_me z16.2 ∧ IvX6 o15 ∧ Kp [4, 5, 6, 7, 8] [] [] o_me_reader o15 ∧ IvX2 pl o_me_isles_1 ∧ Kp [7, 8, 9, 10] [4] [] o_me_isles o_me_isles_1 from ⟨hz16_0, hkpz16_me, hIo15, hkpo15, hI_me_isles_1, hkp_me_isles_1⟩)
        · have c14 := cv_nge (a := v2_1.toInt) (b := (gI o_me_reader_1 2).toInt) rfl rfl c14
          refine wp_bd (s_X8_tellRow   o_me_1 o_me_reader_1 o_me_isles_1 v2_1  hI_me_1 hI_me_reader_1 hI_me_isles_1  ) (fun z17 hz17 => ?_)
          obtain ⟨hz17_0, hz17_1, hz17_2⟩ := hz17
          have hkpz17_me_isles : Kp [7, 8, 9, 10] [4] [] o_me_isles z17.2 := hkp_me_isles_1.trans (hz17_2.mono (by decide) (by decide) (by decide))
          refine wp_if (fun c18 => ?_) (fun c18 => ?_)
          · have c18 := cv_eq (a := z17.1.toInt) (b := 0) rfl (by decide) c18
            have t19 : ((gI o_me_1 13) + (1 : Int32)).toInt = (gI o_me_1 13).toInt + 1 := i32_add rfl (by decide) (by omega) (by omega)
            refine wp_lt (fun o20 eo20 => ?_)
            have hIo20 : IvX8 o20 := by rw [eo20]; exact hI_me_1
            have ko20_v : (gI o20 13).toInt = ((gI o_me_1 13) + (1 : Int32)).toInt := by rw [eo20]; rfl
            have hkpo20 : Kp [] [] [] o_me o20 := hkp_me_1.trans (by rw [eo20]; exact Kp.sI (by decide))
            unfold bk_X8_row_61
            refine wp_lt (fun x21 ex21 => ?_)
            have tx21 : x21.toInt = v2_1.toInt + 5 := by rw [ex21]; exact i32_add rfl (by decide) (by omega) (by omega)
            exact ih1 v1_1 x21 o20 o_me_reader_1 z17.2 hIo20 hkpo20 hI_me_reader_1 hkp_me_reader_1 hz17_1 hkpz17_me_isles ⟨by omega, by omega⟩ ⟨by omega, by omega⟩ ⟨by omega, by omega⟩ ⟨by omega, by omega⟩ (by omega) (by omega) (by omega) (by omega) (by omega)
          · have c18z := c18
            have c18 := cv_ne (a := z17.1.toInt) (b := 0) rfl (by decide) c18
            refine wp_lt (fun x22 ex22 => ?_)
            have tx22 : x22.toInt = v1_1.toInt + 1 := by rw [ex22]; exact i32_add rfl (by decide) (by omega) (by omega)
            unfold bk_X8_row_61
            refine wp_lt (fun x23 ex23 => ?_)
            have tx23 : x23.toInt = v2_1.toInt + 5 := by rw [ex23]; exact i32_add rfl (by decide) (by omega) (by omega)
            exact ih1 x22 x23 o_me_1 o_me_reader_1 z17.2 hI_me_1 hkp_me_1 hI_me_reader_1 hkp_me_reader_1 hz17_1 hkpz17_me_isles ⟨by omega, by omega⟩ ⟨by omega, by omega⟩ ⟨by omega, by omega⟩ ⟨by omega, by omega⟩ (by omega) (by omega) (by omega) (by omega) (by omega)
    exact lp1 zfu (0 : Int32) (0 : Int32) o4 o_me_reader o_me_isles hIo4 hkpo4 hI_me_reader Kp.rf hI_me_isles Kp.rf ⟨by decide, by decide⟩ ⟨by decide, by decide⟩ ⟨by omega, by omega⟩ ⟨by omega, by omega⟩ (by omega) (by omega) (by omega) (by omega) (by show _ < 100000; omega)

set_option maxHeartbeats 4000000 in
set_option maxRecDepth 100000 in
theorem s_X2_addSeen {pl : List CR} (o_me : Ob) (p0 : Int32) (p1 : Int32) (hI_me : IvX2 pl o_me) (q0 : 0 ≤ p0.toInt ∧ p0.toInt ≤ 3) (q1 : 0 ≤ p1.toInt ∧ p1.toInt ≤ 9) : wp (f_X2_addSeen   o_me p0 p1) (fun (y : Int32 × Ob) => (1 ≤ y.1.toInt ∧ y.1.toInt ≤ 6) ∧ IvX2 pl y.2 ∧ Kp [7, 9, 10] [] [] o_me y.2) := by
  have li0 : (1 : Int32).toInt = 1 := by decide
  have li1 : (6 : Int32).toInt = 6 := by decide
  unfold f_X2_addSeen
  have t1 := igX2_8 hI_me
  refine wp_if (fun c2 => ?_) (fun c2 => ?_)
  · have c2 := cv_ge (a := (gI o_me 8).toInt) (b := 6) rfl (by decide) c2
    unfold bk_X2_addSeen_39
    refine wp_some ?_
    exact (show (1 ≤ (gI o_me 8).toInt ∧ (gI o_me 8).toInt ≤ 6) ∧ IvX2 pl o_me ∧ Kp [7, 9, 10] [] [] o_me o_me from ⟨⟨by omega, by omega⟩, hI_me, Kp.rf⟩)
  · have c2 := cv_nge (a := (gI o_me 8).toInt) (b := 6) rfl (by decide) c2
    refine wp_gd (zin_of (m := 6) rfl (by omega) (by omega)) ?_
    refine wp_lt (fun o3 eo3 => ?_)
    have hIo3 : IvX2 pl o3 := by rw [eo3]; exact ibX2_4 hI_me (by omega) (Or.inr (Or.inr ⟨by omega, by omega⟩))
    have ko3_k4 : (gI o3 8).toInt = (gI o_me 8).toInt := by rw [eo3]; rfl
    have ko3_v : (gA o3 4 (gI o_me 8).toNatClampNeg).toInt = p0.toInt := by rw [eo3]; exact congrArg Int32.toInt (upd_eq (g := gA o_me 4) (i := (gI o_me 8)) (v := p0))
    have hkpo3 : Kp [7, 9, 10] [] [] o_me o3 := Kp.rf.trans (by rw [eo3]; exact Kp.tA (by decide) (by decide))
    refine wp_gd (zin_of (m := 6) rfl (by omega) (by omega)) ?_
    refine wp_lt (fun o5 eo5 => ?_)
    have hIo5 : IvX2 pl o5 := by rw [eo5]; exact hIo3
    have ko5_k6 : (gA o5 4 (gI o_me 8).toNatClampNeg).toInt = (gA o3 4 (gI o_me 8).toNatClampNeg).toInt := by rw [eo5]; rfl
    have ko5_k7 : (gI o5 8).toInt = (gI o3 8).toInt := by rw [eo5]; rfl
    have ko5_v : (gA o5 5 (gI o3 8).toNatClampNeg).toInt = p1.toInt := by rw [eo5]; exact congrArg Int32.toInt (upd_eq (g := gA o3 5) (i := (gI o3 8)) (v := p1))
    have hkpo5 : Kp [7, 9, 10] [] [] o_me o5 := hkpo3.trans (by rw [eo5]; exact Kp.tA (by decide) (by decide))
    have t8 : ((gI o5 8) + (1 : Int32)).toInt = (gI o5 8).toInt + 1 := i32_add rfl (by decide) (by omega) (by omega)
    refine wp_lt (fun o9 eo9 => ?_)
    have hIo9 : IvX2 pl o9 := by rw [eo9]; exact ipX2_8 hIo5 ⟨by omega, by omega⟩
    have ko9_k10 : (gA o9 4 (gI o_me 8).toNatClampNeg).toInt = (gA o5 4 (gI o_me 8).toNatClampNeg).toInt := by rw [eo9]; rfl
    have ko9_k11 : (gA o9 5 (gI o3 8).toNatClampNeg).toInt = (gA o5 5 (gI o3 8).toNatClampNeg).toInt := by rw [eo9]; rfl
    have ko9_v : (gI o9 8).toInt = ((gI o5 8) + (1 : Int32)).toInt := by rw [eo9]; rfl
    have hkpo9 : Kp [7, 9, 10] [] [] o_me o9 := hkpo5.trans (by rw [eo9]; exact Kp.sI (by decide))
    unfold bk_X2_addSeen_39
    refine wp_some ?_
    exact (show (1 ≤ (gI o9 8).toInt ∧ (gI o9 8).toInt ≤ 6) ∧ IvX2 pl o9 ∧ Kp [7, 9, 10] [] [] o_me o9 from ⟨⟨by omega, by omega⟩, hIo9, hkpo9⟩)

set_option maxHeartbeats 4000000 in
set_option maxRecDepth 100000 in
theorem s_X8_seen {pl : List CR} (o_me : Ob) (o_me_isles : Ob) (p0 : Int32) (p1 : Int32) (hI_me : IvX8 o_me) (hI_me_isles : IvX2 pl o_me_isles)  : wp (f_X8_seen   o_me o_me_isles p0 p1) (fun (y : Int32 × Ob × Ob) => IvX8 y.2.1 ∧ Kp [] [] [] o_me y.2.1 ∧ IvX2 pl y.2.2 ∧ Kp [7, 9, 10] [] [] o_me_isles y.2.2) := by
  have li0 : (-1 : Int32).toInt = (-1) := by decide
  have li1 : (-5 : Int32).toInt = (-5) := by decide
  have li2 : (6 : Int32).toInt = 6 := by decide
  unfold f_X8_seen
  refine wp_bd (s_X8_isRace   p0    ) (fun z1 hz1 => ?_)
  obtain ⟨hz1_0, hz1_1⟩ := hz1
  refine wp_if (fun c2 => ?_) (fun c2 => ?_)
  · have c2 := cv_eq (a := z1.toInt) (b := 0) rfl (by decide) c2
    unfold bk_X8_seen_14
    refine wp_bd (s_X8_refuse   o_me (-1 : Int32)  hI_me  ) (fun z3 hz3 => ?_)
    obtain ⟨hz3_0, hz3_1⟩ := hz3
    have hkpz3_me : Kp [] [] [] o_me z3.2 := Kp.rf.trans (hz3_1.mono (by decide) (by decide) (by decide))
    refine wp_some ?_
    exact (show IvX8 z3.2 ∧ Kp [] [] [] o_me z3.2 ∧ IvX2 pl o_me_isles ∧ Kp [7, 9, 10] [] [] o_me_isles o_me_isles from ⟨hz3_0, hkpz3_me, hI_me_isles, Kp.rf⟩)
  · have c2z := c2
    have c2i := hz1_1 c2
    have c2 := cv_ne (a := z1.toInt) (b := 0) rfl (by decide) c2
    refine wp_bd (s_X8_isTrade   p1    ) (fun z4 hz4 => ?_)
    obtain ⟨hz4_0, hz4_1⟩ := hz4
    refine wp_if (fun c5 => ?_) (fun c5 => ?_)
    · have c5 := cv_eq (a := z4.toInt) (b := 0) rfl (by decide) c5
      unfold bk_X8_seen_14
      refine wp_bd (s_X8_refuse   o_me (-1 : Int32)  hI_me  ) (fun z6 hz6 => ?_)
      obtain ⟨hz6_0, hz6_1⟩ := hz6
      have hkpz6_me : Kp [] [] [] o_me z6.2 := Kp.rf.trans (hz6_1.mono (by decide) (by decide) (by decide))
      refine wp_some ?_
      exact (show IvX8 z6.2 ∧ Kp [] [] [] o_me z6.2 ∧ IvX2 pl o_me_isles ∧ Kp [7, 9, 10] [] [] o_me_isles o_me_isles from ⟨hz6_0, hkpz6_me, hI_me_isles, Kp.rf⟩)
    · have c5z := c5
      have c5i := hz4_1 c5
      have c5 := cv_ne (a := z4.toInt) (b := 0) rfl (by decide) c5
      have t7 := igX2_8 hI_me_isles
      refine wp_if (fun c8 => ?_) (fun c8 => ?_)
      · have c8 := cv_lt (a := (gI o_me_isles 8).toInt) (b := 6) rfl (by decide) c8
        refine wp_bd (s_X2_addSeen   o_me_isles p0 p1  hI_me_isles  ⟨by omega, by omega⟩ ⟨by omega, by omega⟩) (fun z9 hz9 => ?_)
        obtain ⟨hz9_0, hz9_1, hz9_2⟩ := hz9
        have hkpz9_me_isles : Kp [7, 9, 10] [] [] o_me_isles z9.2 := Kp.rf.trans (hz9_2.mono (by decide) (by decide) (by decide))
        refine wp_bd (s_X8_grant   o_me z9.1  hI_me  ) (fun z10 hz10 => ?_)
        obtain ⟨hz10_0, hz10_1⟩ := hz10
        have hkpz10_me : Kp [] [] [] o_me z10.2 := Kp.rf.trans (hz10_1.mono (by decide) (by decide) (by decide))
        refine wp_some ?_
        exact (show IvX8 z10.2 ∧ Kp [] [] [] o_me z10.2 ∧ IvX2 pl z9.2 ∧ Kp [7, 9, 10] [] [] o_me_isles z9.2 from ⟨hz10_0, hkpz10_me, hz9_1, hkpz9_me_isles⟩)
      · have c8 := cv_nlt (a := (gI o_me_isles 8).toInt) (b := 6) rfl (by decide) c8
        refine wp_bd (s_X8_refuse   o_me (-5 : Int32)  hI_me  ) (fun z11 hz11 => ?_)
        obtain ⟨hz11_0, hz11_1⟩ := hz11
        have hkpz11_me : Kp [] [] [] o_me z11.2 := Kp.rf.trans (hz11_1.mono (by decide) (by decide) (by decide))
        refine wp_some ?_
        exact (show IvX8 z11.2 ∧ Kp [] [] [] o_me z11.2 ∧ IvX2 pl o_me_isles ∧ Kp [7, 9, 10] [] [] o_me_isles o_me_isles from ⟨hz11_0, hkpz11_me, hI_me_isles, Kp.rf⟩)

set_option maxHeartbeats 4000000 in
set_option maxRecDepth 100000 in
theorem s_X8_status (o_me : Ob) (hI_me : IvX8 o_me)  : wp (f_X8_status   o_me) (fun (y : Int32) => True) := by
  unfold f_X8_status
  refine wp_some ?_
  exact trivial

set_option maxHeartbeats 4000000 in
set_option maxRecDepth 100000 in
theorem s_X8_stopped (o_me : Ob) (hI_me : IvX8 o_me)  : wp (f_X8_stopped   o_me) (fun (y : Int32) => True) := by
  unfold f_X8_stopped
  refine wp_some ?_
  exact trivial

set_option maxHeartbeats 4000000 in
set_option maxRecDepth 100000 in
theorem s_X8_strength {pl : List CR} (o_me : Ob) (o_me_isles : Ob) (p0 : Int32) (p1 : Int32) (p2 : Int32) (hI_me : IvX8 o_me) (hI_me_isles : IvX2 pl o_me_isles)  : wp (f_X8_strength   o_me o_me_isles p0 p1 p2) (fun (y : Int32 × Ob × Ob) => IvX8 y.2.1 ∧ Kp [] [] [] o_me y.2.1 ∧ IvX2 pl y.2.2 ∧ Kp [7, 8, 9, 10] [4] [] o_me_isles y.2.2) := by
  have li0 : (-1 : Int32).toInt = (-1) := by decide
  have li1 : (-2 : Int32).toInt = (-2) := by decide
  have li2 : (4 : Int32).toInt = 4 := by decide
  have li3 : (9 : Int32).toInt = 9 := by decide
  unfold f_X8_strength
  refine wp_bd (s_X8_isRace   p1    ) (fun z1 hz1 => ?_)
  obtain ⟨hz1_0, hz1_1⟩ := hz1
  refine wp_if (fun c2 => ?_) (fun c2 => ?_)
  · have c2 := cv_eq (a := z1.toInt) (b := 0) rfl (by decide) c2
    unfold bk_X8_strength_17
    refine wp_bd (s_X8_refuse   o_me (-1 : Int32)  hI_me  ) (fun z3 hz3 => ?_)
    obtain ⟨hz3_0, hz3_1⟩ := hz3
    have hkpz3_me : Kp [] [] [] o_me z3.2 := Kp.rf.trans (hz3_1.mono (by decide) (by decide) (by decide))
    refine wp_some ?_
    exact (show IvX8 z3.2 ∧ Kp [] [] [] o_me z3.2 ∧ IvX2 pl o_me_isles ∧ Kp [7, 8, 9, 10] [4] [] o_me_isles o_me_isles from ⟨hz3_0, hkpz3_me, hI_me_isles, Kp.rf⟩)
  · have c2z := c2
    have c2i := hz1_1 c2
    have c2 := cv_ne (a := z1.toInt) (b := 0) rfl (by decide) c2
    refine wp_if (fun c4 => ?_) (fun c4 => ?_)
    · have c4 := cv_lt (a := p2.toInt) (b := 0) rfl (by decide) c4
      unfold bk_X8_strength_17
      refine wp_bd (s_X8_refuse   o_me (-1 : Int32)  hI_me  ) (fun z5 hz5 => ?_)
      obtain ⟨hz5_0, hz5_1⟩ := hz5
      have hkpz5_me : Kp [] [] [] o_me z5.2 := Kp.rf.trans (hz5_1.mono (by decide) (by decide) (by decide))
      refine wp_some ?_
      exact (show IvX8 z5.2 ∧ Kp [] [] [] o_me z5.2 ∧ IvX2 pl o_me_isles ∧ Kp [7, 8, 9, 10] [4] [] o_me_isles o_me_isles from ⟨hz5_0, hkpz5_me, hI_me_isles, Kp.rf⟩)
    · have c4 := cv_nlt (a := p2.toInt) (b := 0) rfl (by decide) c4
      refine wp_if (fun c6 => ?_) (fun c6 => ?_)
      · have c6 := cv_le (a := p2.toInt) (b := 9) rfl (by decide) c6
        refine wp_bd (s_X2_isPerson   o_me_isles p0  hI_me_isles  ) (fun z7 hz7 => ?_)
        obtain ⟨hz7_0, hz7_1⟩ := hz7
        refine wp_if (fun c8 => ?_) (fun c8 => ?_)
        · have c8 := cv_eq (a := z7.toInt) (b := 0) rfl (by decide) c8
          refine wp_bd (s_X8_refuse   o_me (-2 : Int32)  hI_me  ) (fun z9 hz9 => ?_)
          obtain ⟨hz9_0, hz9_1⟩ := hz9
          have hkpz9_me : Kp [] [] [] o_me z9.2 := Kp.rf.trans (hz9_1.mono (by decide) (by decide) (by decide))
          refine wp_some ?_
          exact (show IvX8 z9.2 ∧ Kp [] [] [] o_me z9.2 ∧ IvX2 pl o_me_isles ∧ Kp [7, 8, 9, 10] [4] [] o_me_isles o_me_isles from ⟨hz9_0, hkpz9_me, hI_me_isles, Kp.rf⟩)
        · have c8z := c8
          have c8i := hz7_1 c8
          have c8 := cv_ne (a := z7.toInt) (b := 0) rfl (by decide) c8
          have t10 : (p0 * (4 : Int32)).toInt = p0.toInt * 4 := i32_mul rfl (by decide) (by omega) (by omega)
          have t11 : ((p0 * (4 : Int32)) + p1).toInt = (p0 * (4 : Int32)).toInt + p1.toInt := i32_add rfl rfl (by omega) (by omega)
          refine wp_lt (fun x12 ex12 => ?_)
          have tx12 : x12.toInt = ((p0 * (4 : Int32)) + p1).toInt := by rw [ex12]
          refine wp_gd (zin_of (m := 28) rfl (by omega) (by omega)) ?_
          refine wp_lt (fun x13 ex13 => ?_)
          have tx13 : x13.toInt = (gA o_me_isles 2 x12.toNatClampNeg).toInt := by rw [ex13]
          refine wp_gd (zin_of (m := 28) rfl (by omega) (by omega)) ?_
          refine wp_lt (fun o14 eo14 => ?_)
          have hIo14 : IvX2 pl o14 := by rw [eo14]; exact hI_me_isles
          have ko14_k15 : (gI o14 7).toInt = (gI o_me_isles 7).toInt := by rw [eo14]; rfl
          have ko14_v : (gA o14 2 x12.toNatClampNeg).toInt = p2.toInt := by rw [eo14]; exact congrArg Int32.toInt (upd_eq (g := gA o_me_isles 2) (i := x12) (v := p2))
          have hkpo14 : Kp [7, 8, 9, 10] [4] [] o_me_isles o14 := Kp.rf.trans (by rw [eo14]; exact Kp.tA (by decide) (by decide))
          refine wp_bd (s_X8_grant   o_me x13  hI_me  ) (fun z16 hz16 => ?_)
          obtain ⟨hz16_0, hz16_1⟩ := hz16
          have hkpz16_me : Kp [] [] [] o_me z16.2 := Kp.rf.trans (hz16_1.mono (by decide) (by decide) (by decide))
          refine wp_some ?_
          exact (show IvX8 z16.2 ∧ Kp [] [] [] o_me z16.2 ∧ IvX2 pl o14 ∧ Kp [7, 8, 9, 10] [4] [] o_me_isles o14 from ⟨hz16_0, hkpz16_me, hIo14, hkpo14⟩)
      · have c6 := cv_nle (a := p2.toInt) (b := 9) rfl (by decide) c6
        unfold bk_X8_strength_17
        refine wp_bd (s_X8_refuse   o_me (-1 : Int32)  hI_me  ) (fun z17 hz17 => ?_)
        obtain ⟨hz17_0, hz17_1⟩ := hz17
        have hkpz17_me : Kp [] [] [] o_me z17.2 := Kp.rf.trans (hz17_1.mono (by decide) (by decide) (by decide))
        refine wp_some ?_
        exact (show IvX8 z17.2 ∧ Kp [] [] [] o_me z17.2 ∧ IvX2 pl o_me_isles ∧ Kp [7, 8, 9, 10] [4] [] o_me_isles o_me_isles from ⟨hz17_0, hkpz17_me, hI_me_isles, Kp.rf⟩)

set_option maxHeartbeats 4000000 in
set_option maxRecDepth 100000 in
theorem s_X8_take (o_me : Ob) (o_me_machine : Ob) (o_me_isles : Ob) (o_me_isles_now : Ob) (o_me_court : Ob) (o_me_past : Ob) (o_pool : List CR) (p0 : Int32) (hI_me : IvX8 o_me) (hI_me_machine : IvX3 o_me_machine) (hI_me_isles : IvX2 o_pool o_me_isles) (hI_me_isles_now : IvX4 o_me_isles_now) (hI_me_court : IvX1 o_me_court) (hI_me_past : IvX5 o_me_past) (hI_pool : PLok o_pool)  : wp (f_X8_take   o_me o_me_machine o_me_isles o_me_isles_now o_me_court o_me_past o_pool p0) (fun (y : Int32 × Ob × Ob × Ob × Ob × Ob) => IvX8 y.2.1 ∧ Kp [] [] [] o_me y.2.1 ∧ IvX3 y.2.2.1 ∧ Kp [] [] [] o_me_machine y.2.2.1 ∧ IvX4 y.2.2.2.1 ∧ Kp [] [] [] o_me_isles_now y.2.2.2.1 ∧ IvX1 y.2.2.2.2.1 ∧ Kp [] [] [] o_me_court y.2.2.2.2.1 ∧ IvX5 y.2.2.2.2.2 ∧ Kp [] [] [] o_me_past y.2.2.2.2.2) := by
  have li0 : (2 : Int32).toInt = 2 := by decide
  unfold f_X8_take
  refine wp_bd (s_X1_moved_O   o_me_court o_me_isles o_me_isles_now o_me_machine o_pool o_me_past (2 : Int32) p0  hI_me_court hI_me_isles hI_me_isles_now hI_me_machine hI_pool hI_me_past  ) (fun z1 hz1 => ?_)
  obtain ⟨hz1_0, hz1_1, hz1_2, hz1_3, hz1_4, hz1_5, hz1_6, hz1_7⟩ := hz1
  have hkpz1_me_court : Kp [] [] [] o_me_court z1.2.1 := Kp.rf.trans (hz1_1.mono (by decide) (by decide) (by decide))
  have hkpz1_me_isles_now : Kp [] [] [] o_me_isles_now z1.2.2.1 := Kp.rf.trans (hz1_3.mono (by decide) (by decide) (by decide))
  have hkpz1_me_machine : Kp [] [] [] o_me_machine z1.2.2.2.1 := Kp.rf.trans (hz1_5.mono (by decide) (by decide) (by decide))
  have hkpz1_me_past : Kp [] [] [] o_me_past z1.2.2.2.2 := Kp.rf.trans (hz1_7.mono (by decide) (by decide) (by decide))
  refine wp_bd (s_X8_answer   o_me z1.1  hI_me  ) (fun z2 hz2 => ?_)
  obtain ⟨hz2_0, hz2_1⟩ := hz2
  have hkpz2_me : Kp [] [] [] o_me z2.2 := Kp.rf.trans (hz2_1.mono (by decide) (by decide) (by decide))
  refine wp_some ?_
  exact (show IvX8 z2.2 ∧ Kp [] [] [] o_me z2.2 ∧ IvX3 z1.2.2.2.1 ∧ Kp [] [] [] o_me_machine z1.2.2.2.1 ∧ IvX4 z1.2.2.1 ∧ Kp [] [] [] o_me_isles_now z1.2.2.1 ∧ IvX1 z1.2.1 ∧ Kp [] [] [] o_me_court z1.2.1 ∧ IvX5 z1.2.2.2.2 ∧ Kp [] [] [] o_me_past z1.2.2.2.2 from ⟨hz2_0, hkpz2_me, hz1_4, hkpz1_me_machine, hz1_2, hkpz1_me_isles_now, hz1_0, hkpz1_me_court, hz1_6, hkpz1_me_past⟩)

set_option maxHeartbeats 4000000 in
set_option maxRecDepth 100000 in
theorem s_X2_setTerm {pl : List CR} (o_me : Ob) (o_me_now : Ob) (p0 : Int32) (p1 : Int32) (hI_me : IvX2 pl o_me) (hI_me_now : IvX4 o_me_now)  : wp (f_X2_setTerm   o_me o_me_now p0 p1) (fun (y : Ob × Ob) => IvX2 pl y.1 ∧ Kp [7, 8, 9, 10] [4] [] o_me y.1 ∧ IvX4 y.2 ∧ Kp [] [0] [] o_me_now y.2) := by
  have li0 : (1 : Int32).toInt = 1 := by decide
  unfold f_X2_setTerm
  refine wp_if (fun c1 => ?_) (fun c1 => ?_)
  · have c1 := cv_eq (a := p0.toInt) (b := 0) rfl (by decide) c1
    refine wp_lt (fun o2 eo2 => ?_)
    have hIo2 : IvX4 o2 := by rw [eo2]; exact hI_me_now
    have ko2_v : (gI o2 4).toInt = p1.toInt := by rw [eo2]; rfl
    have hkpo2 : Kp [] [0] [] o_me_now o2 := Kp.rf.trans (by rw [eo2]; exact Kp.sI (by decide))
    refine wp_some ?_
    exact (show IvX2 pl o_me ∧ Kp [7, 8, 9, 10] [4] [] o_me o_me ∧ IvX4 o2 ∧ Kp [] [0] [] o_me_now o2 from ⟨hI_me, Kp.rf, hIo2, hkpo2⟩)
  · have c1z := c1
    have c1 := cv_ne (a := p0.toInt) (b := 0) rfl (by decide) c1
    refine wp_if (fun c3 => ?_) (fun c3 => ?_)
    · have c3 := cv_eq (a := p0.toInt) (b := 1) rfl (by decide) c3
      refine wp_lt (fun o4 eo4 => ?_)
      have hIo4 : IvX2 pl o4 := by rw [eo4]; exact hI_me
      have ko4_v : (gI o4 11).toInt = p1.toInt := by rw [eo4]; rfl
      have hkpo4 : Kp [7, 8, 9, 10] [4] [] o_me o4 := Kp.rf.trans (by rw [eo4]; exact Kp.sI (by decide))
      refine wp_some ?_
      exact (show IvX2 pl o4 ∧ Kp [7, 8, 9, 10] [4] [] o_me o4 ∧ IvX4 o_me_now ∧ Kp [] [0] [] o_me_now o_me_now from ⟨hIo4, hkpo4, hI_me_now, Kp.rf⟩)
    · have c3 := cv_ne (a := p0.toInt) (b := 1) rfl (by decide) c3
      refine wp_lt (fun o5 eo5 => ?_)
      have hIo5 : IvX2 pl o5 := by rw [eo5]; exact hI_me
      have ko5_v : (gI o5 12).toInt = p1.toInt := by rw [eo5]; rfl
      have hkpo5 : Kp [7, 8, 9, 10] [4] [] o_me o5 := Kp.rf.trans (by rw [eo5]; exact Kp.sI (by decide))
      refine wp_some ?_
      exact (show IvX2 pl o5 ∧ Kp [7, 8, 9, 10] [4] [] o_me o5 ∧ IvX4 o_me_now ∧ Kp [] [0] [] o_me_now o_me_now from ⟨hIo5, hkpo5, hI_me_now, Kp.rf⟩)

set_option maxHeartbeats 4000000 in
set_option maxRecDepth 100000 in
theorem s_X8_terms {pl : List CR} (o_me : Ob) (o_me_isles : Ob) (o_me_isles_now : Ob) (o_me_past : Ob) (p0 : Int32) (p1 : Int32) (hI_me : IvX8 o_me) (hI_me_isles : IvX2 pl o_me_isles) (hI_me_isles_now : IvX4 o_me_isles_now) (hI_me_past : IvX5 o_me_past)  : wp (f_X8_terms   o_me o_me_isles o_me_isles_now o_me_past p0 p1) (fun (y : Int32 × Ob × Ob × Ob × Ob) => IvX8 y.2.1 ∧ Kp [] [] [] o_me y.2.1 ∧ IvX2 pl y.2.2.1 ∧ Kp [7, 8, 9, 10] [4] [] o_me_isles y.2.2.1 ∧ IvX4 y.2.2.2.1 ∧ Kp [] [0] [] o_me_isles_now y.2.2.2.1 ∧ IvX5 y.2.2.2.2 ∧ Kp [] [] [] o_me_past y.2.2.2.2) := by
  have li0 : (-1 : Int32).toInt = (-1) := by decide
  have li1 : (1 : Int32).toInt = 1 := by decide
  have li2 : (10 : Int32).toInt = 10 := by decide
  have li3 : (2 : Int32).toInt = 2 := by decide
  have li4 : (9 : Int32).toInt = 9 := by decide
  have li5 : (999 : Int32).toInt = 999 := by decide
  unfold f_X8_terms
  refine wp_if (fun c1 => ?_) (fun c1 => ?_)
  · have c1 := cv_eq (a := p0.toInt) (b := 0) rfl (by decide) c1
    obtain ⟨w2, ew2⟩ : ∃ z : Int32, z = (999 : Int32) := ⟨_, rfl⟩
    have tw2 : w2.toInt = 999 := by rw [ew2]; decide
    rw [show bk_X8_terms_31   p0 p1 (999 : Int32) o_me o_me_isles o_me_isles_now o_me_past = bk_X8_terms_31   p0 p1 w2 o_me o_me_isles o_me_isles_now o_me_past from by rw [ew2]]
    unfold bk_X8_terms_31
    refine wp_if (fun c3 => ?_) (fun c3 => ?_)
    · have c3 := cv_lt (a := p1.toInt) (b := 0) rfl (by decide) c3
      unfold bk_X8_terms_41
      refine wp_bd (s_X8_refuse   o_me (-1 : Int32)  hI_me  ) (fun z4 hz4 => ?_)
      obtain ⟨hz4_0, hz4_1⟩ := hz4
      have hkpz4_me : Kp [] [] [] o_me z4.2 := Kp.rf.trans (hz4_1.mono (by decide) (by decide) (by decide))
      refine wp_some ?_
      exact (show IvX8 z4.2 ∧ Kp [] [] [] o_me z4.2 ∧ IvX2 pl o_me_isles ∧ Kp [7, 8, 9, 10] [4] [] o_me_isles o_me_isles ∧ IvX4 o_me_isles_now ∧ Kp [] [0] [] o_me_isles_now o_me_isles_now ∧ IvX5 o_me_past ∧ Kp [] [] [] o_me_past o_me_past from ⟨hz4_0, hkpz4_me, hI_me_isles, Kp.rf, hI_me_isles_now, Kp.rf, hI_me_past, Kp.rf⟩)
    · have c3 := cv_nlt (a := p1.toInt) (b := 0) rfl (by decide) c3
      have rg6 := i32_rg p1
      refine wp_if (fun c5 => ?_) (fun c5 => ?_)
      · have c5 := cv_le (a := p1.toInt) (b := w2.toInt) rfl rfl c5
        refine wp_bd (s_X2_term   o_me_isles o_me_isles_now p0  hI_me_isles hI_me_isles_now  ) (fun z7 hz7 => ?_)
        refine wp_bd (s_X2_setTerm   o_me_isles o_me_isles_now p0 p1  hI_me_isles hI_me_isles_now  ) (fun z8 hz8 => ?_)
        obtain ⟨hz8_0, hz8_1, hz8_2, hz8_3⟩ := hz8
        have hkpz8_me_isles : Kp [7, 8, 9, 10] [4] [] o_me_isles z8.1 := Kp.rf.trans (hz8_1.mono (by decide) (by decide) (by decide))
        have hkpz8_me_isles_now : Kp [] [0] [] o_me_isles_now z8.2 := Kp.rf.trans (hz8_3.mono (by decide) (by decide) (by decide))
        refine wp_bd (s_X5_clear   o_me_past  hI_me_past  ) (fun z9 hz9 => ?_)
        obtain ⟨hz9_0, hz9_1⟩ := hz9
        have hkpz9_me_past : Kp [] [] [] o_me_past z9 := Kp.rf.trans (hz9_1.mono (by decide) (by decide) (by decide))
        refine wp_bd (s_X8_grant   o_me z7  hI_me  ) (fun z10 hz10 => ?_)
        obtain ⟨hz10_0, hz10_1⟩ := hz10
        have hkpz10_me : Kp [] [] [] o_me z10.2 := Kp.rf.trans (hz10_1.mono (by decide) (by decide) (by decide))
        refine wp_some ?_
        exact (show IvX8 z10.2 ∧ Kp [] [] [] o_me z10.2 ∧ IvX2 pl z8.1 ∧ Kp [7, 8, 9, 10] [4] [] o_me_isles z8.1 ∧ IvX4 z8.2 ∧ Kp [] [0] [] o_me_isles_now z8.2 ∧ IvX5 z9 ∧ Kp [] [] [] o_me_past z9 from ⟨hz10_0, hkpz10_me, hz8_0, hkpz8_me_isles, hz8_2, hkpz8_me_isles_now, hz9_0, hkpz9_me_past⟩)
      · have c5 := cv_nle (a := p1.toInt) (b := w2.toInt) rfl rfl c5
        unfold bk_X8_terms_41
        refine wp_bd (s_X8_refuse   o_me (-1 : Int32)  hI_me  ) (fun z11 hz11 => ?_)
        obtain ⟨hz11_0, hz11_1⟩ := hz11
        have hkpz11_me : Kp [] [] [] o_me z11.2 := Kp.rf.trans (hz11_1.mono (by decide) (by decide) (by decide))
        refine wp_some ?_
        exact (show IvX8 z11.2 ∧ Kp [] [] [] o_me z11.2 ∧ IvX2 pl o_me_isles ∧ Kp [7, 8, 9, 10] [4] [] o_me_isles o_me_isles ∧ IvX4 o_me_isles_now ∧ Kp [] [0] [] o_me_isles_now o_me_isles_now ∧ IvX5 o_me_past ∧ Kp [] [] [] o_me_past o_me_past from ⟨hz11_0, hkpz11_me, hI_me_isles, Kp.rf, hI_me_isles_now, Kp.rf, hI_me_past, Kp.rf⟩)
  · have c1z := c1
    have c1 := cv_ne (a := p0.toInt) (b := 0) rfl (by decide) c1
    refine wp_if (fun c12 => ?_) (fun c12 => ?_)
    · have c12 := cv_eq (a := p0.toInt) (b := 1) rfl (by decide) c12
      obtain ⟨w13, ew13⟩ : ∃ z : Int32, z = (10 : Int32) := ⟨_, rfl⟩
      have tw13 : w13.toInt = 10 := by rw [ew13]; decide
      rw [show bk_X8_terms_31   p0 p1 (10 : Int32) o_me o_me_isles o_me_isles_now o_me_past = bk_X8_terms_31   p0 p1 w13 o_me o_me_isles o_me_isles_now o_me_past from by rw [ew13]]
      unfold bk_X8_terms_31
      refine wp_if (fun c14 => ?_) (fun c14 => ?_)
      · have c14 := cv_lt (a := p1.toInt) (b := 0) rfl (by decide) c14
        unfold bk_X8_terms_41
        refine wp_bd (s_X8_refuse   o_me (-1 : Int32)  hI_me  ) (fun z15 hz15 => ?_)
        obtain ⟨hz15_0, hz15_1⟩ := hz15
        have hkpz15_me : Kp [] [] [] o_me z15.2 := Kp.rf.trans (hz15_1.mono (by decide) (by decide) (by decide))
        refine wp_some ?_
        exact (show IvX8 z15.2 ∧ Kp [] [] [] o_me z15.2 ∧ IvX2 pl o_me_isles ∧ Kp [7, 8, 9, 10] [4] [] o_me_isles o_me_isles ∧ IvX4 o_me_isles_now ∧ Kp [] [0] [] o_me_isles_now o_me_isles_now ∧ IvX5 o_me_past ∧ Kp [] [] [] o_me_past o_me_past from ⟨hz15_0, hkpz15_me, hI_me_isles, Kp.rf, hI_me_isles_now, Kp.rf, hI_me_past, Kp.rf⟩)
      · have c14 := cv_nlt (a := p1.toInt) (b := 0) rfl (by decide) c14
        have rg17 := i32_rg p1
        refine wp_if (fun c16 => ?_) (fun c16 => ?_)
        · have c16 := cv_le (a := p1.toInt) (b := w13.toInt) rfl rfl c16
          refine wp_bd (s_X2_term   o_me_isles o_me_isles_now p0  hI_me_isles hI_me_isles_now  ) (fun z18 hz18 => ?_)
          refine wp_bd (s_X2_setTerm   o_me_isles o_me_isles_now p0 p1  hI_me_isles hI_me_isles_now  ) (fun z19 hz19 => ?_)
          obtain ⟨hz19_0, hz19_1, hz19_2, hz19_3⟩ := hz19
          have hkpz19_me_isles : Kp [7, 8, 9, 10] [4] [] o_me_isles z19.1 := Kp.rf.trans (hz19_1.mono (by decide) (by decide) (by decide))
          have hkpz19_me_isles_now : Kp [] [0] [] o_me_isles_now z19.2 := Kp.rf.trans (hz19_3.mono (by decide) (by decide) (by decide))
          refine wp_bd (s_X5_clear   o_me_past  hI_me_past  ) (fun z20 hz20 => ?_)
          obtain ⟨hz20_0, hz20_1⟩ := hz20
          have hkpz20_me_past : Kp [] [] [] o_me_past z20 := Kp.rf.trans (hz20_1.mono (by decide) (by decide) (by decide))
          refine wp_bd (s_X8_grant   o_me z18  hI_me  ) (fun z21 hz21 => ?_)
          obtain ⟨hz21_0, hz21_1⟩ := hz21
          have hkpz21_me : Kp [] [] [] o_me z21.2 := Kp.rf.trans (hz21_1.mono (by decide) (by decide) (by decide))
          refine wp_some ?_
          exact (show IvX8 z21.2 ∧ Kp [] [] [] o_me z21.2 ∧ IvX2 pl z19.1 ∧ Kp [7, 8, 9, 10] [4] [] o_me_isles z19.1 ∧ IvX4 z19.2 ∧ Kp [] [0] [] o_me_isles_now z19.2 ∧ IvX5 z20 ∧ Kp [] [] [] o_me_past z20 from ⟨hz21_0, hkpz21_me, hz19_0, hkpz19_me_isles, hz19_2, hkpz19_me_isles_now, hz20_0, hkpz20_me_past⟩)
        · have c16 := cv_nle (a := p1.toInt) (b := w13.toInt) rfl rfl c16
          unfold bk_X8_terms_41
          refine wp_bd (s_X8_refuse   o_me (-1 : Int32)  hI_me  ) (fun z22 hz22 => ?_)
          obtain ⟨hz22_0, hz22_1⟩ := hz22
          have hkpz22_me : Kp [] [] [] o_me z22.2 := Kp.rf.trans (hz22_1.mono (by decide) (by decide) (by decide))
          refine wp_some ?_
          exact (show IvX8 z22.2 ∧ Kp [] [] [] o_me z22.2 ∧ IvX2 pl o_me_isles ∧ Kp [7, 8, 9, 10] [4] [] o_me_isles o_me_isles ∧ IvX4 o_me_isles_now ∧ Kp [] [0] [] o_me_isles_now o_me_isles_now ∧ IvX5 o_me_past ∧ Kp [] [] [] o_me_past o_me_past from ⟨hz22_0, hkpz22_me, hI_me_isles, Kp.rf, hI_me_isles_now, Kp.rf, hI_me_past, Kp.rf⟩)
    · have c12 := cv_ne (a := p0.toInt) (b := 1) rfl (by decide) c12
      refine wp_if (fun c23 => ?_) (fun c23 => ?_)
      · have c23 := cv_eq (a := p0.toInt) (b := 2) rfl (by decide) c23
        obtain ⟨w24, ew24⟩ : ∃ z : Int32, z = (9 : Int32) := ⟨_, rfl⟩
        have tw24 : w24.toInt = 9 := by rw [ew24]; decide
        rw [show bk_X8_terms_31   p0 p1 (9 : Int32) o_me o_me_isles o_me_isles_now o_me_past = bk_X8_terms_31   p0 p1 w24 o_me o_me_isles o_me_isles_now o_me_past from by rw [ew24]]
        unfold bk_X8_terms_31
        refine wp_if (fun c25 => ?_) (fun c25 => ?_)
        · have c25 := cv_lt (a := p1.toInt) (b := 0) rfl (by decide) c25
          unfold bk_X8_terms_41
          refine wp_bd (s_X8_refuse   o_me (-1 : Int32)  hI_me  ) (fun z26 hz26 => ?_)
          obtain ⟨hz26_0, hz26_1⟩ := hz26
          have hkpz26_me : Kp [] [] [] o_me z26.2 := Kp.rf.trans (hz26_1.mono (by decide) (by decide) (by decide))
          refine wp_some ?_
          exact (show IvX8 z26.2 ∧ Kp [] [] [] o_me z26.2 ∧ IvX2 pl o_me_isles ∧ Kp [7, 8, 9, 10] [4] [] o_me_isles o_me_isles ∧ IvX4 o_me_isles_now ∧ Kp [] [0] [] o_me_isles_now o_me_isles_now ∧ IvX5 o_me_past ∧ Kp [] [] [] o_me_past o_me_past from ⟨hz26_0, hkpz26_me, hI_me_isles, Kp.rf, hI_me_isles_now, Kp.rf, hI_me_past, Kp.rf⟩)
        · have c25 := cv_nlt (a := p1.toInt) (b := 0) rfl (by decide) c25
          have rg28 := i32_rg p1
          refine wp_if (fun c27 => ?_) (fun c27 => ?_)
          · have c27 := cv_le (a := p1.toInt) (b := w24.toInt) rfl rfl c27
            refine wp_bd (s_X2_term   o_me_isles o_me_isles_now p0  hI_me_isles hI_me_isles_now  ) (fun z29 hz29 => ?_)
            refine wp_bd (s_X2_setTerm   o_me_isles o_me_isles_now p0 p1  hI_me_isles hI_me_isles_now  ) (fun z30 hz30 => ?_)
            obtain ⟨hz30_0, hz30_1, hz30_2, hz30_3⟩ := hz30
            have hkpz30_me_isles : Kp [7, 8, 9, 10] [4] [] o_me_isles z30.1 := Kp.rf.trans (hz30_1.mono (by decide) (by decide) (by decide))
            have hkpz30_me_isles_now : Kp [] [0] [] o_me_isles_now z30.2 := Kp.rf.trans (hz30_3.mono (by decide) (by decide) (by decide))
            refine wp_bd (s_X5_clear   o_me_past  hI_me_past  ) (fun z31 hz31 => ?_)
            obtain ⟨hz31_0, hz31_1⟩ := hz31
            have hkpz31_me_past : Kp [] [] [] o_me_past z31 := Kp.rf.trans (hz31_1.mono (by decide) (by decide) (by decide))
            refine wp_bd (s_X8_grant   o_me z29  hI_me  ) (fun z32 hz32 => ?_)
            obtain ⟨hz32_0, hz32_1⟩ := hz32
            have hkpz32_me : Kp [] [] [] o_me z32.2 := Kp.rf.trans (hz32_1.mono (by decide) (by decide) (by decide))
            refine wp_some ?_
            exact (show IvX8 z32.2 ∧ Kp [] [] [] o_me z32.2 ∧ IvX2 pl z30.1 ∧ Kp [7, 8, 9, 10] [4] [] o_me_isles z30.1 ∧ IvX4 z30.2 ∧ Kp [] [0] [] o_me_isles_now z30.2 ∧ IvX5 z31 ∧ Kp [] [] [] o_me_past z31 from ⟨hz32_0, hkpz32_me, hz30_0, hkpz30_me_isles, hz30_2, hkpz30_me_isles_now, hz31_0, hkpz31_me_past⟩)
          · have c27 := cv_nle (a := p1.toInt) (b := w24.toInt) rfl rfl c27
            unfold bk_X8_terms_41
            refine wp_bd (s_X8_refuse   o_me (-1 : Int32)  hI_me  ) (fun z33 hz33 => ?_)
            obtain ⟨hz33_0, hz33_1⟩ := hz33
            have hkpz33_me : Kp [] [] [] o_me z33.2 := Kp.rf.trans (hz33_1.mono (by decide) (by decide) (by decide))
            refine wp_some ?_
            exact (show IvX8 z33.2 ∧ Kp [] [] [] o_me z33.2 ∧ IvX2 pl o_me_isles ∧ Kp [7, 8, 9, 10] [4] [] o_me_isles o_me_isles ∧ IvX4 o_me_isles_now ∧ Kp [] [0] [] o_me_isles_now o_me_isles_now ∧ IvX5 o_me_past ∧ Kp [] [] [] o_me_past o_me_past from ⟨hz33_0, hkpz33_me, hI_me_isles, Kp.rf, hI_me_isles_now, Kp.rf, hI_me_past, Kp.rf⟩)
      · have c23 := cv_ne (a := p0.toInt) (b := 2) rfl (by decide) c23
        obtain ⟨w34, ew34⟩ : ∃ z : Int32, z = (-1 : Int32) := ⟨_, rfl⟩
        have tw34 : w34.toInt = (-1) := by rw [ew34]; decide
        rw [show bk_X8_terms_31   p0 p1 (-1 : Int32) o_me o_me_isles o_me_isles_now o_me_past = bk_X8_terms_31   p0 p1 w34 o_me o_me_isles o_me_isles_now o_me_past from by rw [ew34]]
        unfold bk_X8_terms_31
        refine wp_if (fun c35 => ?_) (fun c35 => ?_)
        · have c35 := cv_lt (a := p1.toInt) (b := 0) rfl (by decide) c35
          unfold bk_X8_terms_41
          refine wp_bd (s_X8_refuse   o_me (-1 : Int32)  hI_me  ) (fun z36 hz36 => ?_)
          obtain ⟨hz36_0, hz36_1⟩ := hz36
          have hkpz36_me : Kp [] [] [] o_me z36.2 := Kp.rf.trans (hz36_1.mono (by decide) (by decide) (by decide))
          refine wp_some ?_
          exact (show IvX8 z36.2 ∧ Kp [] [] [] o_me z36.2 ∧ IvX2 pl o_me_isles ∧ Kp [7, 8, 9, 10] [4] [] o_me_isles o_me_isles ∧ IvX4 o_me_isles_now ∧ Kp [] [0] [] o_me_isles_now o_me_isles_now ∧ IvX5 o_me_past ∧ Kp [] [] [] o_me_past o_me_past from ⟨hz36_0, hkpz36_me, hI_me_isles, Kp.rf, hI_me_isles_now, Kp.rf, hI_me_past, Kp.rf⟩)
        · have c35 := cv_nlt (a := p1.toInt) (b := 0) rfl (by decide) c35
          have rg38 := i32_rg p1
          refine wp_if (fun c37 => ?_) (fun c37 => ?_)
          · have c37 := cv_le (a := p1.toInt) (b := w34.toInt) rfl rfl c37
            exfalso; omega
          · have c37 := cv_nle (a := p1.toInt) (b := w34.toInt) rfl rfl c37
            unfold bk_X8_terms_41
            refine wp_bd (s_X8_refuse   o_me (-1 : Int32)  hI_me  ) (fun z39 hz39 => ?_)
            obtain ⟨hz39_0, hz39_1⟩ := hz39
            have hkpz39_me : Kp [] [] [] o_me z39.2 := Kp.rf.trans (hz39_1.mono (by decide) (by decide) (by decide))
            refine wp_some ?_
            exact (show IvX8 z39.2 ∧ Kp [] [] [] o_me z39.2 ∧ IvX2 pl o_me_isles ∧ Kp [7, 8, 9, 10] [4] [] o_me_isles o_me_isles ∧ IvX4 o_me_isles_now ∧ Kp [] [0] [] o_me_isles_now o_me_isles_now ∧ IvX5 o_me_past ∧ Kp [] [] [] o_me_past o_me_past from ⟨hz39_0, hkpz39_me, hI_me_isles, Kp.rf, hI_me_isles_now, Kp.rf, hI_me_past, Kp.rf⟩)

set_option maxHeartbeats 4000000 in
set_option maxRecDepth 100000 in
theorem s_X5_bringBack_O (o_me : Ob) (o_a0 : Ob) (hI_me : IvX5 o_me) (hI_a0 : IvX4 o_a0)  : wp (f_X5_bringBack_O   o_me o_a0) (fun (y : Int32 × Ob × Ob) => IvX5 y.2.1 ∧ Kp [2] [] [] o_me y.2.1 ∧ IvX4 y.2.2 ∧ Kp [] [] [] o_a0 y.2.2) := by
  sorry

set_option maxHeartbeats 4000000 in
set_option maxRecDepth 100000 in
theorem s_X8_undo {pl : List CR} (o_me : Ob) (o_me_isles : Ob) (o_me_isles_now : Ob) (o_me_past : Ob) (hI_me : IvX8 o_me) (hI_me_isles : IvX2 pl o_me_isles) (hI_me_isles_now : IvX4 o_me_isles_now) (hI_me_past : IvX5 o_me_past)  : wp (f_X8_undo   o_me o_me_isles o_me_isles_now o_me_past) (fun (y : Int32 × Ob × Ob × Ob) => IvX8 y.2.1 ∧ Kp [] [] [] o_me y.2.1 ∧ IvX4 y.2.2.1 ∧ Kp [] [] [] o_me_isles_now y.2.2.1 ∧ IvX5 y.2.2.2 ∧ Kp [2] [] [] o_me_past y.2.2.2) := by
  have li0 : (-3 : Int32).toInt = (-3) := by decide
  unfold f_X8_undo
  have t1 := igX5_3 hI_me_past
  refine wp_if (fun c2 => ?_) (fun c2 => ?_)
  · have c2 := cv_eq (a := (gI o_me_past 3).toInt) (b := 0) rfl (by decide) c2
    refine wp_bd (s_X8_refuse   o_me (-3 : Int32)  hI_me  ) (fun z3 hz3 => ?_)
    obtain ⟨hz3_0, hz3_1⟩ := hz3
    have hkpz3_me : Kp [] [] [] o_me z3.2 := Kp.rf.trans (hz3_1.mono (by decide) (by decide) (by decide))
    refine wp_some ?_
    exact (show IvX8 z3.2 ∧ Kp [] [] [] o_me z3.2 ∧ IvX4 o_me_isles_now ∧ Kp [] [] [] o_me_isles_now o_me_isles_now ∧ IvX5 o_me_past ∧ Kp [2] [] [] o_me_past o_me_past from ⟨hz3_0, hkpz3_me, hI_me_isles_now, Kp.rf, hI_me_past, Kp.rf⟩)
  · have c2z := c2
    have c2 := cv_ne (a := (gI o_me_past 3).toInt) (b := 0) rfl (by decide) c2
    refine wp_bd (s_X5_bringBack_O   o_me_past o_me_isles_now  hI_me_past hI_me_isles_now  ) (fun z4 hz4 => ?_)
    obtain ⟨hz4_0, hz4_1, hz4_2, hz4_3⟩ := hz4
    have hkpz4_me_past : Kp [2] [] [] o_me_past z4.2.1 := Kp.rf.trans (hz4_1.mono (by decide) (by decide) (by decide))
    have hkpz4_me_isles_now : Kp [] [] [] o_me_isles_now z4.2.2 := Kp.rf.trans (hz4_3.mono (by decide) (by decide) (by decide))
    refine wp_bd (s_X8_grant   o_me z4.1  hI_me  ) (fun z5 hz5 => ?_)
    obtain ⟨hz5_0, hz5_1⟩ := hz5
    have hkpz5_me : Kp [] [] [] o_me z5.2 := Kp.rf.trans (hz5_1.mono (by decide) (by decide) (by decide))
    refine wp_some ?_
    exact (show IvX8 z5.2 ∧ Kp [] [] [] o_me z5.2 ∧ IvX4 z4.2.2 ∧ Kp [] [] [] o_me_isles_now z4.2.2 ∧ IvX5 z4.2.1 ∧ Kp [2] [] [] o_me_past z4.2.1 from ⟨hz5_0, hkpz5_me, hz4_2, hkpz4_me_isles_now, hz4_0, hkpz4_me_past⟩)

set_option maxHeartbeats 4000000 in
set_option maxRecDepth 100000 in
theorem s_X2_addLaw_Q (o_me : Ob) (o_pool : List CR) (p0 : Option Nat) (hI_me : IvX2 o_pool o_me) (hI_pool : PLok o_pool) (po_p0 : zpo o_pool p0 = true)  : wp (f_X2_addLaw_Q   o_me o_pool p0) (fun (y : Int32 × Ob) => ((-1) ≤ y.1.toInt ∧ y.1.toInt ≤ 5) ∧ IvX2 o_pool y.2 ∧ Kp [7, 8, 10] [4] [] o_me y.2) := by
  have li0 : (-1 : Int32).toInt = (-1) := by decide
  have li1 : (1 : Int32).toInt = 1 := by decide
  have li2 : (6 : Int32).toInt = 6 := by decide
  unfold f_X2_addLaw_Q
  have t1 := igX2_9 hI_me
  refine wp_if (fun c2 => ?_) (fun c2 => ?_)
  · have c2 := cv_lt (a := (gI o_me 9).toInt) (b := 6) rfl (by decide) c2
    refine wp_gd po_p0 ?_
    refine wp_gd (zin_of (m := 6) rfl (by omega) (by omega)) ?_
    refine wp_lt (fun o3 eo3 => ?_)
    have hIo3 : IvX2 o_pool o3 := by rw [eo3]; exact iqX2 hI_me po_p0
    have ko3_k4 : (gI o3 9).toInt = (gI o_me 9).toInt := by rw [eo3]; rfl
    have hkpo3 : Kp [7, 8, 10] [4] [] o_me o3 := Kp.rf.trans (by rw [eo3]; exact Kp.tR)
    have t5 : ((gI o3 9) + (1 : Int32)).toInt = (gI o3 9).toInt + 1 := i32_add rfl (by decide) (by omega) (by omega)
    refine wp_lt (fun o6 eo6 => ?_)
    have hIo6 : IvX2 o_pool o6 := by rw [eo6]; exact ipX2_9 hIo3 ⟨by omega, by omega⟩
    have ko6_v : (gI o6 9).toInt = ((gI o3 9) + (1 : Int32)).toInt := by rw [eo6]; rfl
    have hkpo6 : Kp [7, 8, 10] [4] [] o_me o6 := hkpo3.trans (by rw [eo6]; exact Kp.sI (by decide))
    have t7 : ((gI o6 9) - (1 : Int32)).toInt = (gI o6 9).toInt - 1 := i32_sub rfl (by decide) (by omega) (by omega)
    refine wp_some ?_
    exact (show ((-1) ≤ ((gI o6 9) - (1 : Int32)).toInt ∧ ((gI o6 9) - (1 : Int32)).toInt ≤ 5) ∧ IvX2 o_pool o6 ∧ Kp [7, 8, 10] [4] [] o_me o6 from ⟨⟨by omega, by omega⟩, hIo6, hkpo6⟩)
  · have c2 := cv_nlt (a := (gI o_me 9).toInt) (b := 6) rfl (by decide) c2
    refine wp_some ?_
    exact (show ((-1) ≤ (-1 : Int32).toInt ∧ (-1 : Int32).toInt ≤ 5) ∧ IvX2 o_pool o_me ∧ Kp [7, 8, 10] [4] [] o_me o_me from ⟨⟨by decide, by decide⟩, hI_me, Kp.rf⟩)

