set_option maxHeartbeats 4000000 in
set_option maxRecDepth 100000 in
theorem s_X9_be (o_me : Ob) (p0 : Int32) (p1 : Int32) (p2 : Int32) (p3 : Int32) (hI_me : IvX9 o_me) (q0 : 0 ≤ (gI o_me 20).toInt ∧ (gI o_me 20).toInt ≤ 0) : wp (f_X9_be   o_me p0 p1 p2 p3) (fun (y : Int32 × Ob) => IvX9 y.2 ∧ Kp [1, 8, 11, 13, 14, 15, 16, 18, 19, 20, 21, 23, 26, 29, 43, 56, 57, 58, 59, 62] [2, 3, 4, 5, 7, 10, 12, 22, 24, 25, 27, 28, 42, 48, 50, 51, 55, 61] [(0, 1), (1, 2), (29, 36), (36, 64), (64, 71)] o_me y.2) := by
  have li0 : (-1 : Int32).toInt = (-1) := by decide
  have li1 : (0 : Int32).toInt = 0 := by decide
  have li2 : (0 : Int64).toInt = 0 := by decide
  have li3 : (1 : Int32).toInt = 1 := by decide
  have li4 : (1 : Int64).toInt = 1 := by decide
  have li5 : (100000000 : Int32).toInt = 100000000 := by decide
  have li6 : (7 : Int64).toInt = 7 := by decide
  unfold f_X9_be
  refine wp_lt (fun o1 eo1 => ?_)
  have hIo1 : IvX9 o1 := by rw [eo1]; exact hI_me
  have ko1_k2 : (gI o1 20).toInt = (gI o_me 20).toInt := by rw [eo1]; rfl
  have ko1_v : (gI o1 0).toInt = 0 := by rw [eo1]; exact (show ((0 : Int32)).toInt = _ from by decide)
  have hkpo1 : Kp [1, 8, 11, 13, 14, 15, 16, 18, 19, 20, 21, 23, 26, 29, 43, 56, 57, 58, 59, 62] [2, 3, 4, 5, 7, 10, 12, 22, 24, 25, 27, 28, 42, 48, 50, 51, 55, 61] [(0, 1), (1, 2), (29, 36), (36, 64), (64, 71)] o_me o1 := Kp.rf.trans (by rw [eo1]; exact Kp.sI (by decide))
  refine wp_bd (s_X9_isPerson   o1 p0  hIo1  ) (fun z3 hz3 => ?_)
  obtain ⟨hz3_0, hz3_1⟩ := hz3
  refine wp_if (fun c4 => ?_) (fun c4 => ?_)
  · have c4 := cv_eq (a := z3.toInt) (b := 0) rfl (by decide) c4
    refine wp_some ?_
    exact (show IvX9 o1 ∧ Kp [1, 8, 11, 13, 14, 15, 16, 18, 19, 20, 21, 23, 26, 29, 43, 56, 57, 58, 59, 62] [2, 3, 4, 5, 7, 10, 12, 22, 24, 25, 27, 28, 42, 48, 50, 51, 55, 61] [(0, 1), (1, 2), (29, 36), (36, 64), (64, 71)] o_me o1 from ⟨hIo1, hkpo1⟩)
  · have c4z := c4
    have c4i := hz3_1 c4
    have c4 := cv_ne (a := z3.toInt) (b := 0) rfl (by decide) c4
    refine wp_bd (s_X9_isRace   p1    ) (fun z5 hz5 => ?_)
    obtain ⟨hz5_0, hz5_1⟩ := hz5
    refine wp_if (fun c6 => ?_) (fun c6 => ?_)
    · have c6 := cv_eq (a := z5.toInt) (b := 0) rfl (by decide) c6
      refine wp_some ?_
      exact (show IvX9 o1 ∧ Kp [1, 8, 11, 13, 14, 15, 16, 18, 19, 20, 21, 23, 26, 29, 43, 56, 57, 58, 59, 62] [2, 3, 4, 5, 7, 10, 12, 22, 24, 25, 27, 28, 42, 48, 50, 51, 55, 61] [(0, 1), (1, 2), (29, 36), (36, 64), (64, 71)] o_me o1 from ⟨hIo1, hkpo1⟩)
    · have c6z := c6
      have c6i := hz5_1 c6
      have c6 := cv_ne (a := z5.toInt) (b := 0) rfl (by decide) c6
      have rg7 := i32_rg p2
      have t8 : p2.toInt64.toInt = p2.toInt := Int32.toInt_toInt64 _
      refine wp_bd (s_X9_in   p2.toInt64 (1 : Int64) (7 : Int64)    ) (fun z9 hz9 => ?_)
      obtain ⟨hz9_0, hz9_1⟩ := hz9
      refine wp_if (fun c10 => ?_) (fun c10 => ?_)
      · have c10 := cv_eq (a := z9.toInt) (b := 0) rfl (by decide) c10
        refine wp_some ?_
        exact (show IvX9 o1 ∧ Kp [1, 8, 11, 13, 14, 15, 16, 18, 19, 20, 21, 23, 26, 29, 43, 56, 57, 58, 59, 62] [2, 3, 4, 5, 7, 10, 12, 22, 24, 25, 27, 28, 42, 48, 50, 51, 55, 61] [(0, 1), (1, 2), (29, 36), (36, 64), (64, 71)] o_me o1 from ⟨hIo1, hkpo1⟩)
      · have c10z := c10
        have c10i := hz9_1 c10
        have c10 := cv_ne (a := z9.toInt) (b := 0) rfl (by decide) c10
        have rg11 := i32_rg p3
        have t12 : p3.toInt64.toInt = p3.toInt := Int32.toInt_toInt64 _
        refine wp_bd (s_X9_in   p3.toInt64 (0 : Int64) (1 : Int64)    ) (fun z13 hz13 => ?_)
        obtain ⟨hz13_0, hz13_1⟩ := hz13
        refine wp_if (fun c14 => ?_) (fun c14 => ?_)
        · have c14 := cv_eq (a := z13.toInt) (b := 0) rfl (by decide) c14
          refine wp_some ?_
          exact (show IvX9 o1 ∧ Kp [1, 8, 11, 13, 14, 15, 16, 18, 19, 20, 21, 23, 26, 29, 43, 56, 57, 58, 59, 62] [2, 3, 4, 5, 7, 10, 12, 22, 24, 25, 27, 28, 42, 48, 50, 51, 55, 61] [(0, 1), (1, 2), (29, 36), (36, 64), (64, 71)] o_me o1 from ⟨hIo1, hkpo1⟩)
        · have c14z := c14
          have c14i := hz13_1 c14
          have c14 := cv_ne (a := z13.toInt) (b := 0) rfl (by decide) c14
          refine wp_bd (s_X9_isBarred   o1 p0 p1  hIo1  ⟨by omega, by omega⟩ ⟨by omega, by omega⟩ ⟨by omega, by omega⟩) (fun z15 hz15 => ?_)
          obtain ⟨hz15_0, hz15_1, hz15_2⟩ := hz15
          have hkpz15_me : Kp [1, 8, 11, 13, 14, 15, 16, 18, 19, 20, 21, 23, 26, 29, 43, 56, 57, 58, 59, 62] [2, 3, 4, 5, 7, 10, 12, 22, 24, 25, 27, 28, 42, 48, 50, 51, 55, 61] [(0, 1), (1, 2), (29, 36), (36, 64), (64, 71)] o_me z15.2 := hkpo1.trans (hz15_2.mono (by decide) (by decide) (by decide))
          have kz15_k16 : (gI z15.2 20).toInt = (gI o1 20).toInt := congrArg Int32.toInt (hz15_2.1 20 (by decide))
          refine wp_if (fun c17 => ?_) (fun c17 => ?_)
          · have c17 := cv_eq (a := z15.1.toInt) (b := 0) rfl (by decide) c17
            refine wp_bd (s_X9_layRuns   z15.2 p1  hz15_1  ⟨by omega, by omega⟩ ⟨by omega, by omega⟩) (fun z18 hz18 => ?_)
            obtain ⟨hz18_0, hz18_1⟩ := hz18
            have hkpz18_me : Kp [1, 8, 11, 13, 14, 15, 16, 18, 19, 20, 21, 23, 26, 29, 43, 56, 57, 58, 59, 62] [2, 3, 4, 5, 7, 10, 12, 22, 24, 25, 27, 28, 42, 48, 50, 51, 55, 61] [(0, 1), (1, 2), (29, 36), (36, 64), (64, 71)] o_me z18 := hkpz15_me.trans (hz18_1.mono (by decide) (by decide) (by decide))
            have kz18_k19 : (gI z18 20).toInt = (gI z15.2 20).toInt := congrArg Int32.toInt (hz18_1.1 20 (by decide))
            refine wp_bd (s_X9_enteredBits   z18  hz18_0  ) (fun z20 hz20 => ?_)
            have lp1 : ∀ (N1 : Nat) (v1_1 : Int32) (v3_1 : Int32) (v4_1 : Int32) (v5_1 : Int32) (v6_1 : Int32) (v7_1 : Int32) (v8_1 : Int32) (o_me_1 : Ob), IvX9 o_me_1 → Kp [1, 8, 11, 13, 14, 15, 16, 18, 19, 20, 21, 23, 26, 29, 43, 56, 57, 58, 59, 62] [2, 3, 4, 5, 7, 10, 12, 22, 24, 25, 27, 28, 42, 48, 50, 51, 55, 61] [(0, 1), (1, 2), (29, 36), (36, 64), (64, 71)] o_me o_me_1 → (0 ≤ v1_1.toInt ∧ v1_1.toInt ≤ 6) → (1 ≤ v3_1.toInt ∧ v3_1.toInt ≤ 7) → (0 ≤ v4_1.toInt ∧ v4_1.toInt ≤ 1) → ((-1) ≤ v7_1.toInt ∧ v7_1.toInt ≤ 127) → (0 ≤ v8_1.toInt ∧ v8_1.toInt ≤ 128) → (0 ≤ (gI o_me_1 20).toInt ∧ (gI o_me_1 20).toInt ≤ 0) → (v7_1.toInt ≤ v8_1.toInt + (-1)) → (v1_1.toInt ≤ p0.toInt + 0) → (p0.toInt ≤ v1_1.toInt + 0) → (128 - v8_1.toInt).toNat < N1 → wp (lp_X9_be_76   N1 (v1_1, v3_1, v4_1, v5_1, v6_1, v7_1, v8_1, o_me_1)) (fun (y : Int32 × Ob) => IvX9 y.2 ∧ Kp [1, 8, 11, 13, 14, 15, 16, 18, 19, 20, 21, 23, 26, 29, 43, 56, 57, 58, 59, 62] [2, 3, 4, 5, 7, 10, 12, 22, 24, 25, 27, 28, 42, 48, 50, 51, 55, 61] [(0, 1), (1, 2), (29, 36), (36, 64), (64, 71)] o_me y.2) := by
              intro N1
              induction N1 with
              | zero =>
                intro v1_1 v3_1 v4_1 v5_1 v6_1 v7_1 v8_1 o_me_1 hI_me_1 hkp_me_1 hh22 hh23 hh24 hh25 hh26 hh27 hh28 hh29 hh30 hN1
                exact absurd hN1 (Nat.not_lt_zero _)
              | succ N1 ihx =>
                have ih1 := ihx
                intro v1_1 v3_1 v4_1 v5_1 v6_1 v7_1 v8_1 o_me_1 hI_me_1 hkp_me_1 hh22 hh23 hh24 hh25 hh26 hh27 hh28 hh29 hh30 hN1
                show wp (lb_X9_be_76   (lp_X9_be_76   N1) v1_1 v3_1 v4_1 v5_1 v6_1 v7_1 v8_1 o_me_1) (fun (y : Int32 × Ob) => IvX9 y.2 ∧ Kp [1, 8, 11, 13, 14, 15, 16, 18, 19, 20, 21, 23, 26, 29, 43, 56, 57, 58, 59, 62] [2, 3, 4, 5, 7, 10, 12, 22, 24, 25, 27, 28, 42, 48, 50, 51, 55, 61] [(0, 1), (1, 2), (29, 36), (36, 64), (64, 71)] o_me y.2)
                unfold lb_X9_be_76
                have kc31 : (gA o_me_1 3 (0 : Int32).toNatClampNeg).toInt = (gA o_me 3 (0 : Int32).toNatClampNeg).toInt := congrArg Int32.toInt (hkp_me_1.2.2 (0, 1) (by decide) (0 : Int32).toNatClampNeg (by decide) (by decide))
                have t32 := iaX9_3_0 hI_me_1 (j := (0 : Int32)) (by decide) (by decide)
                have t33 : 1 ≤ ((1 : Int32) <<< ((gA o_me_1 3 (0 : Int32).toNatClampNeg) &&& 31)).toInt ∧ ((1 : Int32) <<< ((gA o_me_1 3 (0 : Int32).toNatClampNeg) &&& 31)).toInt ≤ 128 := i32_shl7 (p := gA o_me_1 3 (0 : Int32).toNatClampNeg) (by omega) (by omega)
                refine wp_if (fun c34 => ?_) (fun c34 => ?_)
                · have c34 := cv_ge (a := v8_1.toInt) (b := ((1 : Int32) <<< ((gA o_me_1 3 (0 : Int32).toNatClampNeg) &&& 31)).toInt) rfl rfl c34
                  refine wp_if (fun c35 => ?_) (fun c35 => ?_)
                  · have c35 := cv_eq (a := v7_1.toInt) (b := (-1)) rfl (by decide) c35
                    unfold bk_X9_be_178
                    refine wp_some ?_
                    exact (show IvX9 o_me_1 ∧ Kp [1, 8, 11, 13, 14, 15, 16, 18, 19, 20, 21, 23, 26, 29, 43, 56, 57, 58, 59, 62] [2, 3, 4, 5, 7, 10, 12, 22, 24, 25, 27, 28, 42, 48, 50, 51, 55, 61] [(0, 1), (1, 2), (29, 36), (36, 64), (64, 71)] o_me o_me_1 from ⟨hI_me_1, hkp_me_1⟩)
                  · have c35 := cv_ne (a := v7_1.toInt) (b := (-1)) rfl (by decide) c35
                    refine wp_if (fun c36 => ?_) (fun c36 => ?_)
                    · have c36 := cv_eq (a := v4_1.toInt) (b := 1) rfl (by decide) c36
                      unfold bk_X9_be_178
                      refine wp_some ?_
                      exact (show IvX9 o_me_1 ∧ Kp [1, 8, 11, 13, 14, 15, 16, 18, 19, 20, 21, 23, 26, 29, 43, 56, 57, 58, 59, 62] [2, 3, 4, 5, 7, 10, 12, 22, 24, 25, 27, 28, 42, 48, 50, 51, 55, 61] [(0, 1), (1, 2), (29, 36), (36, 64), (64, 71)] o_me o_me_1 from ⟨hI_me_1, hkp_me_1⟩)
                    · have c36 := cv_ne (a := v4_1.toInt) (b := 1) rfl (by decide) c36
                      refine wp_some ?_
                      exact (show IvX9 o_me_1 ∧ Kp [1, 8, 11, 13, 14, 15, 16, 18, 19, 20, 21, 23, 26, 29, 43, 56, 57, 58, 59, 62] [2, 3, 4, 5, 7, 10, 12, 22, 24, 25, 27, 28, 42, 48, 50, 51, 55, 61] [(0, 1), (1, 2), (29, 36), (36, 64), (64, 71)] o_me o_me_1 from ⟨hI_me_1, hkp_me_1⟩)
                · have c34 := cv_nge (a := v8_1.toInt) (b := ((1 : Int32) <<< ((gA o_me_1 3 (0 : Int32).toNatClampNeg) &&& 31)).toInt) rfl rfl c34
                  refine wp_bd (s_X9_is   v8_1 v1_1    ) (fun z37 hz37 => ?_)
                  have hz37_0 := hz37
                  refine wp_if (fun c38 => ?_) (fun c38 => ?_)
                  · have c38 := cv_eq (a := z37.toInt) (b := 0) rfl (by decide) c38
                    refine wp_bd (s_X9_ones   v8_1    ) (fun z39 hz39 => ?_)
                    have rg41 := i32_rg z39
                    have rg42 := i32_rg v6_1
                    refine wp_if (fun c40 => ?_) (fun c40 => ?_)
                    · have c40 := cv_ge (a := z39.toInt) (b := v6_1.toInt) rfl rfl c40
                      unfold bk_X9_be_126
                      obtain ⟨w43, ew43⟩ : ∃ z : Int32, z = (0 : Int32) := ⟨_, rfl⟩
                      have tw43 : w43.toInt = 0 := by rw [ew43]; decide
                      rw [show bk_X9_be_127  (lp_X9_be_76   N1) v1_1 v3_1 v4_1 v5_1 v6_1 v7_1 v8_1 (0 : Int32) o_me_1 = bk_X9_be_127  (lp_X9_be_76   N1) v1_1 v3_1 v4_1 v5_1 v6_1 v7_1 v8_1 w43 o_me_1 from by rw [ew43]]
                      unfold bk_X9_be_127
                      refine wp_if (fun c44 => ?_) (fun c44 => ?_)
                      · have c44 := cv_eq (a := w43.toInt) (b := 0) rfl (by decide) c44
                        unfold bk_X9_be_141
                        refine wp_if (fun c45 => ?_) (fun c45 => ?_)
                        · have c45 := cv_eq (a := w43.toInt) (b := 0) rfl (by decide) c45
                          unfold bk_X9_be_158
                          refine wp_lt (fun x46 ex46 => ?_)
                          have tx46 : x46.toInt = v8_1.toInt + 1 := by rw [ex46]; exact i32_add rfl (by decide) (by omega) (by omega)
                          exact ih1 v1_1 v3_1 v4_1 v5_1 v6_1 v7_1 x46 o_me_1 hI_me_1 hkp_me_1 ⟨by omega, by omega⟩ ⟨by omega, by omega⟩ ⟨by omega, by omega⟩ ⟨by omega, by omega⟩ ⟨by omega, by omega⟩ ⟨by omega, by omega⟩ (by omega) (by omega) (by omega) (by omega)
                        · have c45z := c45
                          have c45 := cv_ne (a := w43.toInt) (b := 0) rfl (by decide) c45
                          exfalso; omega
                      · have c44z := c44
                        have c44 := cv_ne (a := w43.toInt) (b := 0) rfl (by decide) c44
                        exfalso; omega
                    · have c40 := cv_nge (a := z39.toInt) (b := v6_1.toInt) rfl rfl c40
                      refine wp_bd (s_X9_placeOf   o_me_1 v1_1 (v5_1 ^^^ v8_1)  hI_me_1  ⟨by omega, by omega⟩) (fun z47 hz47 => ?_)
                      have rg49 := i32_rg z47
                      refine wp_if (fun c48 => ?_) (fun c48 => ?_)
                      · have c48 := cv_eq (a := z47.toInt) (b := v3_1.toInt) rfl rfl c48
                        obtain ⟨w50, ew50⟩ : ∃ z : Int32, z = (1 : Int32) := ⟨_, rfl⟩
                        have tw50 : w50.toInt = 1 := by rw [ew50]; decide
                        rw [show bk_X9_be_127  (lp_X9_be_76   N1) v1_1 v3_1 v4_1 v5_1 v6_1 v7_1 v8_1 (1 : Int32) o_me_1 = bk_X9_be_127  (lp_X9_be_76   N1) v1_1 v3_1 v4_1 v5_1 v6_1 v7_1 v8_1 w50 o_me_1 from by rw [ew50]]
                        unfold bk_X9_be_127
                        refine wp_if (fun c51 => ?_) (fun c51 => ?_)
                        · have c51 := cv_eq (a := w50.toInt) (b := 0) rfl (by decide) c51
                          exfalso; omega
                        · have c51z := c51
                          have c51 := cv_ne (a := w50.toInt) (b := 0) rfl (by decide) c51
                          unfold bk_X9_be_141
                          refine wp_if (fun c52 => ?_) (fun c52 => ?_)
                          · have c52 := cv_eq (a := w50.toInt) (b := 0) rfl (by decide) c52
                            exfalso; omega
                          · have c52z := c52
                            have c52 := cv_ne (a := w50.toInt) (b := 0) rfl (by decide) c52
                            refine wp_bd (s_X9_ones   v8_1    ) (fun z53 hz53 => ?_)
                            unfold bk_X9_be_158
                            refine wp_lt (fun x54 ex54 => ?_)
                            have tx54 : x54.toInt = v8_1.toInt + 1 := by rw [ex54]; exact i32_add rfl (by decide) (by omega) (by omega)
                            exact ih1 v1_1 v3_1 v4_1 v5_1 z53 v8_1 x54 o_me_1 hI_me_1 hkp_me_1 ⟨by omega, by omega⟩ ⟨by omega, by omega⟩ ⟨by omega, by omega⟩ ⟨by omega, by omega⟩ ⟨by omega, by omega⟩ ⟨by omega, by omega⟩ (by omega) (by omega) (by omega) (by omega)
                      · have c48 := cv_ne (a := z47.toInt) (b := v3_1.toInt) rfl rfl c48
                        unfold bk_X9_be_126
                        obtain ⟨w55, ew55⟩ : ∃ z : Int32, z = (0 : Int32) := ⟨_, rfl⟩
                        have tw55 : w55.toInt = 0 := by rw [ew55]; decide
                        rw [show bk_X9_be_127  (lp_X9_be_76   N1) v1_1 v3_1 v4_1 v5_1 v6_1 v7_1 v8_1 (0 : Int32) o_me_1 = bk_X9_be_127  (lp_X9_be_76   N1) v1_1 v3_1 v4_1 v5_1 v6_1 v7_1 v8_1 w55 o_me_1 from by rw [ew55]]
                        unfold bk_X9_be_127
                        refine wp_if (fun c56 => ?_) (fun c56 => ?_)
                        · have c56 := cv_eq (a := w55.toInt) (b := 0) rfl (by decide) c56
                          unfold bk_X9_be_141
                          refine wp_if (fun c57 => ?_) (fun c57 => ?_)
                          · have c57 := cv_eq (a := w55.toInt) (b := 0) rfl (by decide) c57
                            unfold bk_X9_be_158
                            refine wp_lt (fun x58 ex58 => ?_)
                            have tx58 : x58.toInt = v8_1.toInt + 1 := by rw [ex58]; exact i32_add rfl (by decide) (by omega) (by omega)
                            exact ih1 v1_1 v3_1 v4_1 v5_1 v6_1 v7_1 x58 o_me_1 hI_me_1 hkp_me_1 ⟨by omega, by omega⟩ ⟨by omega, by omega⟩ ⟨by omega, by omega⟩ ⟨by omega, by omega⟩ ⟨by omega, by omega⟩ ⟨by omega, by omega⟩ (by omega) (by omega) (by omega) (by omega)
                          · have c57z := c57
                            have c57 := cv_ne (a := w55.toInt) (b := 0) rfl (by decide) c57
                            exfalso; omega
                        · have c56z := c56
                          have c56 := cv_ne (a := w55.toInt) (b := 0) rfl (by decide) c56
                          exfalso; omega
                  · have c38z := c38
                    have c38 := cv_ne (a := z37.toInt) (b := 0) rfl (by decide) c38
                    unfold bk_X9_be_126
                    obtain ⟨w59, ew59⟩ : ∃ z : Int32, z = (0 : Int32) := ⟨_, rfl⟩
                    have tw59 : w59.toInt = 0 := by rw [ew59]; decide
                    rw [show bk_X9_be_127  (lp_X9_be_76   N1) v1_1 v3_1 v4_1 v5_1 v6_1 v7_1 v8_1 (0 : Int32) o_me_1 = bk_X9_be_127  (lp_X9_be_76   N1) v1_1 v3_1 v4_1 v5_1 v6_1 v7_1 v8_1 w59 o_me_1 from by rw [ew59]]
                    unfold bk_X9_be_127
                    refine wp_if (fun c60 => ?_) (fun c60 => ?_)
                    · have c60 := cv_eq (a := w59.toInt) (b := 0) rfl (by decide) c60
                      unfold bk_X9_be_141
                      refine wp_if (fun c61 => ?_) (fun c61 => ?_)
                      · have c61 := cv_eq (a := w59.toInt) (b := 0) rfl (by decide) c61
                        unfold bk_X9_be_158
                        refine wp_lt (fun x62 ex62 => ?_)
                        have tx62 : x62.toInt = v8_1.toInt + 1 := by rw [ex62]; exact i32_add rfl (by decide) (by omega) (by omega)
                        exact ih1 v1_1 v3_1 v4_1 v5_1 v6_1 v7_1 x62 o_me_1 hI_me_1 hkp_me_1 ⟨by omega, by omega⟩ ⟨by omega, by omega⟩ ⟨by omega, by omega⟩ ⟨by omega, by omega⟩ ⟨by omega, by omega⟩ ⟨by omega, by omega⟩ (by omega) (by omega) (by omega) (by omega)
                      · have c61z := c61
                        have c61 := cv_ne (a := w59.toInt) (b := 0) rfl (by decide) c61
                        exfalso; omega
                    · have c60z := c60
                      have c60 := cv_ne (a := w59.toInt) (b := 0) rfl (by decide) c60
                      exfalso; omega
            exact lp1 zfu p0 p2 p3 z20 (100000000 : Int32) (-1 : Int32) (0 : Int32) z18 hz18_0 hkpz18_me ⟨by omega, by omega⟩ ⟨by omega, by omega⟩ ⟨by omega, by omega⟩ ⟨by decide, by decide⟩ ⟨by decide, by decide⟩ ⟨by omega, by omega⟩ (by omega) (by omega) (by omega) (by show _ < 100000; omega)
          · have c17z := c17
            have c17 := cv_ne (a := z15.1.toInt) (b := 0) rfl (by decide) c17
            refine wp_some ?_
            exact (show IvX9 z15.2 ∧ Kp [1, 8, 11, 13, 14, 15, 16, 18, 19, 20, 21, 23, 26, 29, 43, 56, 57, 58, 59, 62] [2, 3, 4, 5, 7, 10, 12, 22, 24, 25, 27, 28, 42, 48, 50, 51, 55, 61] [(0, 1), (1, 2), (29, 36), (36, 64), (64, 71)] o_me z15.2 from ⟨hz15_1, hkpz15_me⟩)

set_option maxHeartbeats 4000000 in
set_option maxRecDepth 100000 in
theorem s_X9_beats (o_me : Ob) (p0 : Int32) (p1 : Int32) (p2 : Int32) (hI_me : IvX9 o_me)  : wp (f_X9_beats   o_me p0 p1 p2) (fun (y : Int32 × Ob) => ((-6) ≤ y.1.toInt ∧ y.1.toInt ≤ 2147483647) ∧ IvX9 y.2 ∧ Kp [8, 11, 13, 14, 15, 16, 18, 19, 20, 21, 23, 26, 29, 34, 38, 43, 56, 57, 58, 59, 62] [4, 5, 7, 10, 12, 22, 24, 25, 27, 28, 42, 48, 50, 51, 55, 61] [(0, 1), (1, 2), (29, 36), (36, 64)] o_me y.2) := by
  have li0 : (-1 : Int32).toInt = (-1) := by decide
  have li1 : (-2 : Int32).toInt = (-2) := by decide
  have li2 : (0 : Int32).toInt = 0 := by decide
  have li3 : (0 : Int64).toInt = 0 := by decide
  have li4 : (1 : Int32).toInt = 1 := by decide
  have li5 : (1 : Int64).toInt = 1 := by decide
  have li6 : (64 : Int32).toInt = 64 := by decide
  unfold f_X9_beats
  refine wp_lt (fun o1 eo1 => ?_)
  have hIo1 : IvX9 o1 := by rw [eo1]; exact hI_me
  have ko1_v : (gI o1 0).toInt = 0 := by rw [eo1]; exact (show ((0 : Int32)).toInt = _ from by decide)
  have hkpo1 : Kp [8, 11, 13, 14, 15, 16, 18, 19, 20, 21, 23, 26, 29, 34, 38, 43, 56, 57, 58, 59, 62] [4, 5, 7, 10, 12, 22, 24, 25, 27, 28, 42, 48, 50, 51, 55, 61] [(0, 1), (1, 2), (29, 36), (36, 64)] o_me o1 := Kp.rf.trans (by rw [eo1]; exact Kp.sI (by decide))
  have rg3 := i32_rg p0
  have rg4 := i32_rg p1
  refine wp_if (fun c2 => ?_) (fun c2 => ?_)
  · have c2 := cv_eq (a := p0.toInt) (b := p1.toInt) rfl rfl c2
    unfold bk_X9_beats_20
    refine wp_bd (s_X9_tell   o1 (-1 : Int32)  hIo1  ⟨by decide, by decide⟩) (fun z5 hz5 => ?_)
    obtain ⟨hz5_0, hz5_1, hz5_2⟩ := hz5
    have hkpz5_me : Kp [8, 11, 13, 14, 15, 16, 18, 19, 20, 21, 23, 26, 29, 34, 38, 43, 56, 57, 58, 59, 62] [4, 5, 7, 10, 12, 22, 24, 25, 27, 28, 42, 48, 50, 51, 55, 61] [(0, 1), (1, 2), (29, 36), (36, 64)] o_me z5.2 := hkpo1.trans (hz5_2.mono (by decide) (by decide) (by decide))
    refine wp_some ?_
    have rg6 := i32_rg z5.1
    exact (show ((-6) ≤ z5.1.toInt ∧ z5.1.toInt ≤ 2147483647) ∧ IvX9 z5.2 ∧ Kp [8, 11, 13, 14, 15, 16, 18, 19, 20, 21, 23, 26, 29, 34, 38, 43, 56, 57, 58, 59, 62] [4, 5, 7, 10, 12, 22, 24, 25, 27, 28, 42, 48, 50, 51, 55, 61] [(0, 1), (1, 2), (29, 36), (36, 64)] o_me z5.2 from ⟨⟨by omega, by omega⟩, hz5_1, hkpz5_me⟩)
  · have c2 := cv_ne (a := p0.toInt) (b := p1.toInt) rfl rfl c2
    have rg7 := i32_rg p2
    have t8 : p2.toInt64.toInt = p2.toInt := Int32.toInt_toInt64 _
    refine wp_bd (s_X9_in   p2.toInt64 (0 : Int64) (1 : Int64)    ) (fun z9 hz9 => ?_)
    obtain ⟨hz9_0, hz9_1⟩ := hz9
    refine wp_if (fun c10 => ?_) (fun c10 => ?_)
    · have c10 := cv_eq (a := z9.toInt) (b := 0) rfl (by decide) c10
      unfold bk_X9_beats_20
      refine wp_bd (s_X9_tell   o1 (-1 : Int32)  hIo1  ⟨by decide, by decide⟩) (fun z11 hz11 => ?_)
      obtain ⟨hz11_0, hz11_1, hz11_2⟩ := hz11
      have hkpz11_me : Kp [8, 11, 13, 14, 15, 16, 18, 19, 20, 21, 23, 26, 29, 34, 38, 43, 56, 57, 58, 59, 62] [4, 5, 7, 10, 12, 22, 24, 25, 27, 28, 42, 48, 50, 51, 55, 61] [(0, 1), (1, 2), (29, 36), (36, 64)] o_me z11.2 := hkpo1.trans (hz11_2.mono (by decide) (by decide) (by decide))
      refine wp_some ?_
      have rg12 := i32_rg z11.1
      exact (show ((-6) ≤ z11.1.toInt ∧ z11.1.toInt ≤ 2147483647) ∧ IvX9 z11.2 ∧ Kp [8, 11, 13, 14, 15, 16, 18, 19, 20, 21, 23, 26, 29, 34, 38, 43, 56, 57, 58, 59, 62] [4, 5, 7, 10, 12, 22, 24, 25, 27, 28, 42, 48, 50, 51, 55, 61] [(0, 1), (1, 2), (29, 36), (36, 64)] o_me z11.2 from ⟨⟨by omega, by omega⟩, hz11_1, hkpz11_me⟩)
    · have c10z := c10
      have c10i := hz9_1 c10
      have c10 := cv_ne (a := z9.toInt) (b := 0) rfl (by decide) c10
      refine wp_bd (s_X9_isPerson   o1 p0  hIo1  ) (fun z13 hz13 => ?_)
      obtain ⟨hz13_0, hz13_1⟩ := hz13
      refine wp_if (fun c14 => ?_) (fun c14 => ?_)
      · have c14 := cv_eq (a := z13.toInt) (b := 0) rfl (by decide) c14
        unfold bk_X9_beats_42
        refine wp_bd (s_X9_tell   o1 (-2 : Int32)  hIo1  ⟨by decide, by decide⟩) (fun z15 hz15 => ?_)
        obtain ⟨hz15_0, hz15_1, hz15_2⟩ := hz15
        have hkpz15_me : Kp [8, 11, 13, 14, 15, 16, 18, 19, 20, 21, 23, 26, 29, 34, 38, 43, 56, 57, 58, 59, 62] [4, 5, 7, 10, 12, 22, 24, 25, 27, 28, 42, 48, 50, 51, 55, 61] [(0, 1), (1, 2), (29, 36), (36, 64)] o_me z15.2 := hkpo1.trans (hz15_2.mono (by decide) (by decide) (by decide))
        refine wp_some ?_
        have rg16 := i32_rg z15.1
        exact (show ((-6) ≤ z15.1.toInt ∧ z15.1.toInt ≤ 2147483647) ∧ IvX9 z15.2 ∧ Kp [8, 11, 13, 14, 15, 16, 18, 19, 20, 21, 23, 26, 29, 34, 38, 43, 56, 57, 58, 59, 62] [4, 5, 7, 10, 12, 22, 24, 25, 27, 28, 42, 48, 50, 51, 55, 61] [(0, 1), (1, 2), (29, 36), (36, 64)] o_me z15.2 from ⟨⟨by omega, by omega⟩, hz15_1, hkpz15_me⟩)
      · have c14z := c14
        have c14i := hz13_1 c14
        have c14 := cv_ne (a := z13.toInt) (b := 0) rfl (by decide) c14
        refine wp_bd (s_X9_isPerson   o1 p1  hIo1  ) (fun z17 hz17 => ?_)
        obtain ⟨hz17_0, hz17_1⟩ := hz17
        refine wp_if (fun c18 => ?_) (fun c18 => ?_)
        · have c18 := cv_eq (a := z17.toInt) (b := 0) rfl (by decide) c18
          unfold bk_X9_beats_42
          refine wp_bd (s_X9_tell   o1 (-2 : Int32)  hIo1  ⟨by decide, by decide⟩) (fun z19 hz19 => ?_)
          obtain ⟨hz19_0, hz19_1, hz19_2⟩ := hz19
          have hkpz19_me : Kp [8, 11, 13, 14, 15, 16, 18, 19, 20, 21, 23, 26, 29, 34, 38, 43, 56, 57, 58, 59, 62] [4, 5, 7, 10, 12, 22, 24, 25, 27, 28, 42, 48, 50, 51, 55, 61] [(0, 1), (1, 2), (29, 36), (36, 64)] o_me z19.2 := hkpo1.trans (hz19_2.mono (by decide) (by decide) (by decide))
          refine wp_some ?_
          have rg20 := i32_rg z19.1
          exact (show ((-6) ≤ z19.1.toInt ∧ z19.1.toInt ≤ 2147483647) ∧ IvX9 z19.2 ∧ Kp [8, 11, 13, 14, 15, 16, 18, 19, 20, 21, 23, 26, 29, 34, 38, 43, 56, 57, 58, 59, 62] [4, 5, 7, 10, 12, 22, 24, 25, 27, 28, 42, 48, 50, 51, 55, 61] [(0, 1), (1, 2), (29, 36), (36, 64)] o_me z19.2 from ⟨⟨by omega, by omega⟩, hz19_1, hkpz19_me⟩)
        · have c18z := c18
          have c18i := hz17_1 c18
          have c18 := cv_ne (a := z17.toInt) (b := 0) rfl (by decide) c18
          have t21 : ((64 : Int32) + p0).toInt = 64 + p0.toInt := i32_add (by decide) rfl (by omega) (by omega)
          refine wp_gd (zin_of (m := 5484) rfl (by omega) (by omega)) ?_
          have t22 := i32_and (x := (gA o1 3 ((64 : Int32) + p0).toNatClampNeg) >>> (p1 &&& 31)) (y := (1 : Int32)) (m := 1) ⟨by decide, by decide⟩
          refine wp_lt (fun x23 ex23 => ?_)
          have tx23 : x23.toInt = (((gA o1 3 ((64 : Int32) + p0).toNatClampNeg) >>> (p1 &&& 31)) &&& (1 : Int32)).toInt := by rw [ex23]
          refine wp_lt (fun x24 ex24 => ?_)
          have tx24 : x24.toInt = ((64 : Int32) + p0).toInt := by rw [ex24]
          refine wp_gd (zin_of (m := 5484) rfl (by omega) (by omega)) ?_
          refine wp_if (fun c25 => ?_) (fun c25 => ?_)
          · have c25 := cv_eq (a := x23.toInt) (b := p2.toInt) rfl rfl c25
            obtain ⟨w26, ew26⟩ : ∃ z : Int32, z = (0 : Int32) := ⟨_, rfl⟩
            have tw26 : w26.toInt = 0 := by rw [ew26]; decide
            obtain ⟨w27, ew27⟩ : ∃ z : Int32, z = gA o1 3 x24.toNatClampNeg := ⟨_, rfl⟩
            have tw27 : w27.toInt = (gA o1 3 x24.toNatClampNeg).toInt := by rw [ew27]
            rw [show bk_X9_beats_87   x23 (0 : Int32) (gA o1 3 x24.toNatClampNeg) x24 o1 = bk_X9_beats_87   x23 w26 w27 x24 o1 from by rw [ew26, ew27]]
            unfold bk_X9_beats_87
            refine wp_gd (zin_of (m := 5484) rfl (by omega) (by omega)) ?_
            refine wp_lt (fun o28 eo28 => ?_)
            have hIo28 : IvX9 o28 := by rw [eo28]; exact ibX9_3 hIo1 (by omega) (by omega) (Or.inr (Or.inl (by first | omega | decide))) (Or.inr (Or.inl (by first | omega | decide))) (Or.inr (Or.inl (by first | omega | decide))) (Or.inr (Or.inl (by first | omega | decide))) (Or.inr (Or.inl (by first | omega | decide))) (Or.inr (Or.inl (by first | omega | decide))) (Or.inr (Or.inl (by first | omega | decide))) (Or.inr (Or.inl (by first | omega | decide))) (Or.inl (by first | omega | decide))
            have ko28_k29 : (gI o28 0).toInt = (gI o1 0).toInt := by rw [eo28]; rfl
            have ko28_v : (gA o28 3 x24.toNatClampNeg).toInt = (w27 ^^^ w26).toInt := by rw [eo28]; exact congrArg Int32.toInt (upd_eq (g := gA o1 3) (i := x24) (v := (w27 ^^^ w26)))
            have hkpo28 : Kp [8, 11, 13, 14, 15, 16, 18, 19, 20, 21, 23, 26, 29, 34, 38, 43, 56, 57, 58, 59, 62] [4, 5, 7, 10, 12, 22, 24, 25, 27, 28, 42, 48, 50, 51, 55, 61] [(0, 1), (1, 2), (29, 36), (36, 64)] o_me o28 := hkpo1.trans (by rw [eo28]; exact kp_bw (a := 64) (b := 71) (by decide) (by decide) (by omega) (by omega))
            have rg31 := i32_rg x23
            refine wp_bd (s_X9_tell   o28 x23  hIo28  ⟨by omega, by omega⟩) (fun z30 hz30 => ?_)
            obtain ⟨hz30_0, hz30_1, hz30_2⟩ := hz30
            have hkpz30_me : Kp [8, 11, 13, 14, 15, 16, 18, 19, 20, 21, 23, 26, 29, 34, 38, 43, 56, 57, 58, 59, 62] [4, 5, 7, 10, 12, 22, 24, 25, 27, 28, 42, 48, 50, 51, 55, 61] [(0, 1), (1, 2), (29, 36), (36, 64)] o_me z30.2 := hkpo28.trans (hz30_2.mono (by decide) (by decide) (by decide))
            have kz30_k32 : (gA z30.2 3 x24.toNatClampNeg).toInt = (gA o28 3 x24.toNatClampNeg).toInt := congrArg (fun g => (g x24.toNatClampNeg).toInt) (hz30_2.2.1 3 (by decide))
            refine wp_some ?_
            have rg33 := i32_rg z30.1
            exact (show ((-6) ≤ z30.1.toInt ∧ z30.1.toInt ≤ 2147483647) ∧ IvX9 z30.2 ∧ Kp [8, 11, 13, 14, 15, 16, 18, 19, 20, 21, 23, 26, 29, 34, 38, 43, 56, 57, 58, 59, 62] [4, 5, 7, 10, 12, 22, 24, 25, 27, 28, 42, 48, 50, 51, 55, 61] [(0, 1), (1, 2), (29, 36), (36, 64)] o_me z30.2 from ⟨⟨by omega, by omega⟩, hz30_1, hkpz30_me⟩)
          · have c25 := cv_ne (a := x23.toInt) (b := p2.toInt) rfl rfl c25
            have t34 : 1 ≤ ((1 : Int32) <<< (p1 &&& 31)).toInt ∧ ((1 : Int32) <<< (p1 &&& 31)).toInt ≤ 64 := i32_shl6 (p := p1) (by omega) (by omega)
            obtain ⟨w35, ew35⟩ : ∃ z : Int32, z = (1 : Int32) <<< (p1 &&& 31) := ⟨_, rfl⟩
            have tw35 : w35.toInt = ((1 : Int32) <<< (p1 &&& 31)).toInt := by rw [ew35]
            obtain ⟨w36, ew36⟩ : ∃ z : Int32, z = gA o1 3 x24.toNatClampNeg := ⟨_, rfl⟩
            have tw36 : w36.toInt = (gA o1 3 x24.toNatClampNeg).toInt := by rw [ew36]
            rw [show bk_X9_beats_87   x23 ((1 : Int32) <<< (p1 &&& 31)) (gA o1 3 x24.toNatClampNeg) x24 o1 = bk_X9_beats_87   x23 w35 w36 x24 o1 from by rw [ew35, ew36]]
            unfold bk_X9_beats_87
            refine wp_gd (zin_of (m := 5484) rfl (by omega) (by omega)) ?_
            refine wp_lt (fun o37 eo37 => ?_)
            have hIo37 : IvX9 o37 := by rw [eo37]; exact ibX9_3 hIo1 (by omega) (by omega) (Or.inr (Or.inl (by first | omega | decide))) (Or.inr (Or.inl (by first | omega | decide))) (Or.inr (Or.inl (by first | omega | decide))) (Or.inr (Or.inl (by first | omega | decide))) (Or.inr (Or.inl (by first | omega | decide))) (Or.inr (Or.inl (by first | omega | decide))) (Or.inr (Or.inl (by first | omega | decide))) (Or.inr (Or.inl (by first | omega | decide))) (Or.inl (by first | omega | decide))
            have ko37_k38 : (gI o37 0).toInt = (gI o1 0).toInt := by rw [eo37]; rfl
            have ko37_v : (gA o37 3 x24.toNatClampNeg).toInt = (w36 ^^^ w35).toInt := by rw [eo37]; exact congrArg Int32.toInt (upd_eq (g := gA o1 3) (i := x24) (v := (w36 ^^^ w35)))
            have hkpo37 : Kp [8, 11, 13, 14, 15, 16, 18, 19, 20, 21, 23, 26, 29, 34, 38, 43, 56, 57, 58, 59, 62] [4, 5, 7, 10, 12, 22, 24, 25, 27, 28, 42, 48, 50, 51, 55, 61] [(0, 1), (1, 2), (29, 36), (36, 64)] o_me o37 := hkpo1.trans (by rw [eo37]; exact kp_bw (a := 64) (b := 71) (by decide) (by decide) (by omega) (by omega))
            have rg40 := i32_rg x23
            refine wp_bd (s_X9_tell   o37 x23  hIo37  ⟨by omega, by omega⟩) (fun z39 hz39 => ?_)
            obtain ⟨hz39_0, hz39_1, hz39_2⟩ := hz39
            have hkpz39_me : Kp [8, 11, 13, 14, 15, 16, 18, 19, 20, 21, 23, 26, 29, 34, 38, 43, 56, 57, 58, 59, 62] [4, 5, 7, 10, 12, 22, 24, 25, 27, 28, 42, 48, 50, 51, 55, 61] [(0, 1), (1, 2), (29, 36), (36, 64)] o_me z39.2 := hkpo37.trans (hz39_2.mono (by decide) (by decide) (by decide))
            have kz39_k41 : (gA z39.2 3 x24.toNatClampNeg).toInt = (gA o37 3 x24.toNatClampNeg).toInt := congrArg (fun g => (g x24.toNatClampNeg).toInt) (hz39_2.2.1 3 (by decide))
            refine wp_some ?_
            have rg42 := i32_rg z39.1
            exact (show ((-6) ≤ z39.1.toInt ∧ z39.1.toInt ≤ 2147483647) ∧ IvX9 z39.2 ∧ Kp [8, 11, 13, 14, 15, 16, 18, 19, 20, 21, 23, 26, 29, 34, 38, 43, 56, 57, 58, 59, 62] [4, 5, 7, 10, 12, 22, 24, 25, 27, 28, 42, 48, 50, 51, 55, 61] [(0, 1), (1, 2), (29, 36), (36, 64)] o_me z39.2 from ⟨⟨by omega, by omega⟩, hz39_1, hkpz39_me⟩)

set_option maxHeartbeats 4000000 in
set_option maxRecDepth 100000 in
theorem s_X9_isSmall (p0 : Int32)   : wp (f_X9_isSmall   p0) (fun (y : Int32) => (0 ≤ y.toInt ∧ y.toInt ≤ 1)) := by
  have li0 : (0 : Int32).toInt = 0 := by decide
  have li1 : (1 : Int32).toInt = 1 := by decide
  have li2 : (122 : Int32).toInt = 122 := by decide
  have li3 : (97 : Int32).toInt = 97 := by decide
  unfold f_X9_isSmall
  refine wp_if (fun c1 => ?_) (fun c1 => ?_)
  · have c1 := cv_lt (a := p0.toInt) (b := 97) rfl (by decide) c1
    refine wp_some ?_
    exact (show (0 ≤ (0 : Int32).toInt ∧ (0 : Int32).toInt ≤ 1) from ⟨by decide, by decide⟩)
  · have c1 := cv_nlt (a := p0.toInt) (b := 97) rfl (by decide) c1
    refine wp_if (fun c2 => ?_) (fun c2 => ?_)
    · have c2 := cv_gt (a := p0.toInt) (b := 122) rfl (by decide) c2
      refine wp_some ?_
      exact (show (0 ≤ (0 : Int32).toInt ∧ (0 : Int32).toInt ≤ 1) from ⟨by decide, by decide⟩)
    · have c2 := cv_ngt (a := p0.toInt) (b := 122) rfl (by decide) c2
      refine wp_some ?_
      exact (show (0 ≤ (1 : Int32).toInt ∧ (1 : Int32).toInt ≤ 1) from ⟨by decide, by decide⟩)

set_option maxHeartbeats 4000000 in
set_option maxRecDepth 100000 in
theorem s_X9_isDigit (p0 : Int32)   : wp (f_X9_isDigit   p0) (fun (y : Int32) => (0 ≤ y.toInt ∧ y.toInt ≤ 1)) := by
  have li0 : (0 : Int32).toInt = 0 := by decide
  have li1 : (1 : Int32).toInt = 1 := by decide
  have li2 : (48 : Int32).toInt = 48 := by decide
  have li3 : (57 : Int32).toInt = 57 := by decide
  unfold f_X9_isDigit
  refine wp_if (fun c1 => ?_) (fun c1 => ?_)
  · have c1 := cv_lt (a := p0.toInt) (b := 48) rfl (by decide) c1
    refine wp_some ?_
    exact (show (0 ≤ (0 : Int32).toInt ∧ (0 : Int32).toInt ≤ 1) from ⟨by decide, by decide⟩)
  · have c1 := cv_nlt (a := p0.toInt) (b := 48) rfl (by decide) c1
    refine wp_if (fun c2 => ?_) (fun c2 => ?_)
    · have c2 := cv_gt (a := p0.toInt) (b := 57) rfl (by decide) c2
      refine wp_some ?_
      exact (show (0 ≤ (0 : Int32).toInt ∧ (0 : Int32).toInt ≤ 1) from ⟨by decide, by decide⟩)
    · have c2 := cv_ngt (a := p0.toInt) (b := 57) rfl (by decide) c2
      refine wp_some ?_
      exact (show (0 ≤ (1 : Int32).toInt ∧ (1 : Int32).toInt ≤ 1) from ⟨by decide, by decide⟩)

set_option maxHeartbeats 4000000 in
set_option maxRecDepth 100000 in
theorem s_X9_next (o_me : Ob) (hI_me : IvX9 o_me) (r0 : (gI o_me 15).toInt ≤ (gI o_me 13).toInt + 0) : wp (f_X9_next   o_me) (fun (y : Ob) => IvX9 y ∧ Kp [1, 8, 11, 13, 18, 19, 20, 21, 23, 26, 29, 34, 38, 43, 56, 57, 58, 59, 62] [2, 3, 4, 5, 7, 10, 12, 22, 24, 25, 27, 28, 42, 48, 50, 51, 55, 61] [(0, 1), (1, 2), (29, 36), (36, 64), (64, 71)] o_me y ∧ ((gI y 15).toInt ≤ (gI y 13).toInt + 0)) := by
  have li0 : (-1 : Int64).toInt = (-1) := by decide
  have li1 : (0 : Int32).toInt = 0 := by decide
  have li2 : (0 : Int64).toInt = 0 := by decide
  have li3 : (1 : Int32).toInt = 1 := by decide
  have li4 : (10 : Int32).toInt = 10 := by decide
  have li5 : (10 : Int64).toInt = 10 := by decide
  have li6 : (1000000 : Int64).toInt = 1000000 := by decide
  have li7 : (2 : Int32).toInt = 2 := by decide
  have li8 : (3 : Int32).toInt = 3 := by decide
  have li9 : (32 : Int32).toInt = 32 := by decide
  have li10 : (32 : Int64).toInt = 32 := by decide
  have li11 : (48 : Int64).toInt = 48 := by decide
  have li12 : (96 : Int64).toInt = 96 := by decide
  unfold f_X9_next
  have t1 := igX9_15 hI_me
  refine wp_lt (fun o2 eo2 => ?_)
  have hIo2 : IvX9 o2 := by rw [eo2]; exact ipX9_14 hI_me ⟨by omega, by omega⟩
  have ko2_k3 : (gI o2 13).toInt = (gI o_me 13).toInt := by rw [eo2]; rfl
  have ko2_k4 : (gI o2 15).toInt = (gI o_me 15).toInt := by rw [eo2]; rfl
  have ko2_v : (gI o2 14).toInt = (gI o_me 15).toInt := by rw [eo2]; rfl
  have hkpo2 : Kp [1, 8, 11, 13, 18, 19, 20, 21, 23, 26, 29, 34, 38, 43, 56, 57, 58, 59, 62] [2, 3, 4, 5, 7, 10, 12, 22, 24, 25, 27, 28, 42, 48, 50, 51, 55, 61] [(0, 1), (1, 2), (29, 36), (36, 64), (64, 71)] o_me o2 := Kp.rf.trans (by rw [eo2]; exact Kp.sI (by decide))
  have t5 := igX9_13 hIo2
  have t6 := igX9_16 hIo2
  have lp1 : ∀ (N1 : Nat) (o_me_1 : Ob), IvX9 o_me_1 → Kp [1, 8, 11, 13, 18, 19, 20, 21, 23, 26, 29, 34, 38, 43, 56, 57, 58, 59, 62] [2, 3, 4, 5, 7, 10, 12, 22, 24, 25, 27, 28, 42, 48, 50, 51, 55, 61] [(0, 1), (1, 2), (29, 36), (36, 64), (64, 71)] o_me o_me_1 → (0 ≤ (gI o_me_1 13).toInt ∧ (gI o_me_1 13).toInt ≤ 400) → (0 ≤ (gI o_me_1 14).toInt ∧ (gI o_me_1 14).toInt ≤ 400) → (0 ≤ (gI o_me_1 15).toInt ∧ (gI o_me_1 15).toInt ≤ 400) → (0 ≤ (gI o_me_1 16).toInt ∧ (gI o_me_1 16).toInt ≤ 3) → ((gI o_me_1 14).toInt ≤ (gI o_me_1 13).toInt + 0) → ((gI o_me_1 15).toInt ≤ (gI o_me_1 13).toInt + 0) → ((gI o_me_1 15).toInt ≤ (gI o_me_1 14).toInt + 0) → (400 - (gI o_me_1 14).toInt).toNat < N1 → wp (lp_X9_next_8   N1 o_me_1) (fun (y : Ob) => IvX9 y ∧ Kp [1, 8, 11, 13, 18, 19, 20, 21, 23, 26, 29, 34, 38, 43, 56, 57, 58, 59, 62] [2, 3, 4, 5, 7, 10, 12, 22, 24, 25, 27, 28, 42, 48, 50, 51, 55, 61] [(0, 1), (1, 2), (29, 36), (36, 64), (64, 71)] o_me y ∧ ((gI y 15).toInt ≤ (gI y 13).toInt + 0)) := by
    intro N1
    induction N1 with
    | zero =>
      intro o_me_1 hI_me_1 hkp_me_1 hh11 hh12 hh13 hh14 hh15 hh16 hh17 hN1
      exact absurd hN1 (Nat.not_lt_zero _)
    | succ N1 ihx =>
      have ih1 := ihx
      intro o_me_1 hI_me_1 hkp_me_1 hh11 hh12 hh13 hh14 hh15 hh16 hh17 hN1
      show wp (lb_X9_next_8   (lp_X9_next_8   N1) o_me_1) (fun (y : Ob) => IvX9 y ∧ Kp [1, 8, 11, 13, 18, 19, 20, 21, 23, 26, 29, 34, 38, 43, 56, 57, 58, 59, 62] [2, 3, 4, 5, 7, 10, 12, 22, 24, 25, 27, 28, 42, 48, 50, 51, 55, 61] [(0, 1), (1, 2), (29, 36), (36, 64), (64, 71)] o_me y ∧ ((gI y 15).toInt ≤ (gI y 13).toInt + 0))
      unfold lb_X9_next_8
      refine wp_if (fun c18 => ?_) (fun c18 => ?_)
      · have c18 := cv_ge (a := (gI o_me_1 14).toInt) (b := (gI o_me_1 13).toInt) rfl rfl c18
        unfold bk_X9_next_46
        refine wp_lt (fun o19 eo19 => ?_)
        have hIo19 : IvX9 o19 := by rw [eo19]; exact ipX9_15 hI_me_1 ⟨by omega, by omega⟩
        have ko19_k20 : (gI o19 13).toInt = (gI o_me_1 13).toInt := by rw [eo19]; rfl
        have ko19_k21 : (gI o19 14).toInt = (gI o_me_1 14).toInt := by rw [eo19]; rfl
        have ko19_k22 : (gI o19 16).toInt = (gI o_me_1 16).toInt := by rw [eo19]; rfl
        have ko19_v : (gI o19 15).toInt = (gI o_me_1 14).toInt := by rw [eo19]; rfl
        have hkpo19 : Kp [1, 8, 11, 13, 18, 19, 20, 21, 23, 26, 29, 34, 38, 43, 56, 57, 58, 59, 62] [2, 3, 4, 5, 7, 10, 12, 22, 24, 25, 27, 28, 42, 48, 50, 51, 55, 61] [(0, 1), (1, 2), (29, 36), (36, 64), (64, 71)] o_me o19 := hkp_me_1.trans (by rw [eo19]; exact Kp.sI (by decide))
        refine wp_lt (fun o23 eo23 => ?_)
        have hIo23 : IvX9 o23 := by rw [eo23]; exact hIo19
        have ko23_k24 : (gI o23 13).toInt = (gI o19 13).toInt := by rw [eo23]; rfl
        have ko23_k25 : (gI o23 14).toInt = (gI o19 14).toInt := by rw [eo23]; rfl
        have ko23_k26 : (gI o23 15).toInt = (gI o19 15).toInt := by rw [eo23]; rfl
        have ko23_k27 : (gI o23 16).toInt = (gI o19 16).toInt := by rw [eo23]; rfl
        have ko23_v : (gL o23 17).toInt = 0 := by rw [eo23]; exact (show ((0 : Int64)).toInt = _ from by decide)
        have hkpo23 : Kp [1, 8, 11, 13, 18, 19, 20, 21, 23, 26, 29, 34, 38, 43, 56, 57, 58, 59, 62] [2, 3, 4, 5, 7, 10, 12, 22, 24, 25, 27, 28, 42, 48, 50, 51, 55, 61] [(0, 1), (1, 2), (29, 36), (36, 64), (64, 71)] o_me o23 := hkpo19.trans (by rw [eo23]; exact Kp.sL)
        refine wp_if (fun c28 => ?_) (fun c28 => ?_)
        · have c28 := cv_eq (a := (gI o23 14).toInt) (b := (gI o23 13).toInt) rfl rfl c28
          obtain ⟨w29, ew29⟩ : ∃ z : Int32, z = (0 : Int32) := ⟨_, rfl⟩
          have tw29 : w29.toInt = 0 := by rw [ew29]; decide
          rw [show bk_X9_next_114   (0 : Int32) o23 = bk_X9_next_114   w29 o23 from by rw [ew29]]
          unfold bk_X9_next_114
          refine wp_lt (fun o30 eo30 => ?_)
          have hIo30 : IvX9 o30 := by rw [eo30]; exact ipX9_16 hIo23 ⟨by omega, by omega⟩
          have ko30_k31 : (gI o30 13).toInt = (gI o23 13).toInt := by rw [eo30]; rfl
          have ko30_k32 : (gI o30 14).toInt = (gI o23 14).toInt := by rw [eo30]; rfl
          have ko30_k33 : (gI o30 15).toInt = (gI o23 15).toInt := by rw [eo30]; rfl
          have ko30_k34 : (gL o30 17).toInt = (gL o23 17).toInt := by rw [eo30]; rfl
          have ko30_v : (gI o30 16).toInt = w29.toInt := by rw [eo30]; rfl
          have hkpo30 : Kp [1, 8, 11, 13, 18, 19, 20, 21, 23, 26, 29, 34, 38, 43, 56, 57, 58, 59, 62] [2, 3, 4, 5, 7, 10, 12, 22, 24, 25, 27, 28, 42, 48, 50, 51, 55, 61] [(0, 1), (1, 2), (29, 36), (36, 64), (64, 71)] o_me o30 := hkpo23.trans (by rw [eo30]; exact Kp.sI (by decide))
          refine wp_if (fun c35 => ?_) (fun c35 => ?_)
          · have c35 := cv_eq (a := (gI o30 16).toInt) (b := 3) rfl (by decide) c35
            exfalso; omega
          · have c35 := cv_ne (a := (gI o30 16).toInt) (b := 3) rfl (by decide) c35
            have lp2 : ∀ (N2 : Nat) (o_me_2 : Ob), IvX9 o_me_2 → Kp [1, 8, 11, 13, 18, 19, 20, 21, 23, 26, 29, 34, 38, 43, 56, 57, 58, 59, 62] [2, 3, 4, 5, 7, 10, 12, 22, 24, 25, 27, 28, 42, 48, 50, 51, 55, 61] [(0, 1), (1, 2), (29, 36), (36, 64), (64, 71)] o_me o_me_2 → (0 ≤ (gI o_me_2 13).toInt ∧ (gI o_me_2 13).toInt ≤ 400) → (0 ≤ (gI o_me_2 14).toInt ∧ (gI o_me_2 14).toInt ≤ 400) → (0 ≤ (gI o_me_2 15).toInt ∧ (gI o_me_2 15).toInt ≤ 400) → (0 ≤ (gI o_me_2 16).toInt ∧ (gI o_me_2 16).toInt ≤ 0) → ((gI o_me_2 13).toInt ≤ (gI o_me_2 14).toInt + 0) → ((gI o_me_2 13).toInt ≤ (gI o_me_2 15).toInt + 0) → ((gI o_me_2 14).toInt ≤ (gI o_me_2 13).toInt + 0) → ((gI o_me_2 14).toInt ≤ (gI o_me_2 15).toInt + 0) → ((gI o_me_2 15).toInt ≤ (gI o_me_2 13).toInt + 0) → ((gI o_me_2 15).toInt ≤ (gI o_me_2 14).toInt + 0) → (400 - (gI o_me_2 13).toInt).toNat < N2 → wp (lp_X9_next_149   N2 o_me_2) (fun (y : Ob) => IvX9 y ∧ Kp [1, 8, 11, 13, 18, 19, 20, 21, 23, 26, 29, 34, 38, 43, 56, 57, 58, 59, 62] [2, 3, 4, 5, 7, 10, 12, 22, 24, 25, 27, 28, 42, 48, 50, 51, 55, 61] [(0, 1), (1, 2), (29, 36), (36, 64), (64, 71)] o_me y ∧ ((gI y 15).toInt ≤ (gI y 13).toInt + 0)) := by
              intro N2
              induction N2 with
              | zero =>
                intro o_me_2 hI_me_2 hkp_me_2 hh40 hh41 hh42 hh43 hh44 hh45 hh46 hh47 hh48 hh49 hN2
                exact absurd hN2 (Nat.not_lt_zero _)
              | succ N2 ihx =>
                have ih2 := ihx
                intro o_me_2 hI_me_2 hkp_me_2 hh40 hh41 hh42 hh43 hh44 hh45 hh46 hh47 hh48 hh49 hN2
                show wp (lb_X9_next_149   (lp_X9_next_149   N2) o_me_2) (fun (y : Ob) => IvX9 y ∧ Kp [1, 8, 11, 13, 18, 19, 20, 21, 23, 26, 29, 34, 38, 43, 56, 57, 58, 59, 62] [2, 3, 4, 5, 7, 10, 12, 22, 24, 25, 27, 28, 42, 48, 50, 51, 55, 61] [(0, 1), (1, 2), (29, 36), (36, 64), (64, 71)] o_me y ∧ ((gI y 15).toInt ≤ (gI y 13).toInt + 0))
                unfold lb_X9_next_149
                refine wp_if (fun c50 => ?_) (fun c50 => ?_)
                · have c50 := cv_eq (a := (gI o_me_2 16).toInt) (b := 1) rfl (by decide) c50
                  exfalso; omega
                · have c50 := cv_ne (a := (gI o_me_2 16).toInt) (b := 1) rfl (by decide) c50
                  have lp3 : ∀ (N3 : Nat) (o_me_3 : Ob), IvX9 o_me_3 → Kp [1, 8, 11, 13, 18, 19, 20, 21, 23, 26, 29, 34, 38, 43, 56, 57, 58, 59, 62] [2, 3, 4, 5, 7, 10, 12, 22, 24, 25, 27, 28, 42, 48, 50, 51, 55, 61] [(0, 1), (1, 2), (29, 36), (36, 64), (64, 71)] o_me o_me_3 → (0 ≤ (gI o_me_3 13).toInt ∧ (gI o_me_3 13).toInt ≤ 400) → (0 ≤ (gI o_me_3 14).toInt ∧ (gI o_me_3 14).toInt ≤ 400) → (0 ≤ (gI o_me_3 15).toInt ∧ (gI o_me_3 15).toInt ≤ 400) → (0 ≤ (gI o_me_3 16).toInt ∧ (gI o_me_3 16).toInt ≤ 0) → ((gI o_me_3 13).toInt ≤ (gI o_me_3 14).toInt + 0) → ((gI o_me_3 13).toInt ≤ (gI o_me_3 15).toInt + 0) → ((gI o_me_3 14).toInt ≤ (gI o_me_3 13).toInt + 0) → ((gI o_me_3 14).toInt ≤ (gI o_me_3 15).toInt + 0) → ((gI o_me_3 15).toInt ≤ (gI o_me_3 13).toInt + 0) → ((gI o_me_3 15).toInt ≤ (gI o_me_3 14).toInt + 0) → (400 - (gI o_me_3 13).toInt).toNat < N3 → wp (lp_X9_next_243   N3 o_me_3) (fun (y : Ob) => IvX9 y ∧ Kp [1, 8, 11, 13, 18, 19, 20, 21, 23, 26, 29, 34, 38, 43, 56, 57, 58, 59, 62] [2, 3, 4, 5, 7, 10, 12, 22, 24, 25, 27, 28, 42, 48, 50, 51, 55, 61] [(0, 1), (1, 2), (29, 36), (36, 64), (64, 71)] o_me y ∧ ((gI y 15).toInt ≤ (gI y 13).toInt + 0)) := by
                    intro N3
                    induction N3 with
                    | zero =>
                      intro o_me_3 hI_me_3 hkp_me_3 hh55 hh56 hh57 hh58 hh59 hh60 hh61 hh62 hh63 hh64 hN3
                      exact absurd hN3 (Nat.not_lt_zero _)
                    | succ N3 ihx =>
                      have ih3 := ihx
                      intro o_me_3 hI_me_3 hkp_me_3 hh55 hh56 hh57 hh58 hh59 hh60 hh61 hh62 hh63 hh64 hN3
                      show wp (lb_X9_next_243   (lp_X9_next_243   N3) o_me_3) (fun (y : Ob) => IvX9 y ∧ Kp [1, 8, 11, 13, 18, 19, 20, 21, 23, 26, 29, 34, 38, 43, 56, 57, 58, 59, 62] [2, 3, 4, 5, 7, 10, 12, 22, 24, 25, 27, 28, 42, 48, 50, 51, 55, 61] [(0, 1), (1, 2), (29, 36), (36, 64), (64, 71)] o_me y ∧ ((gI y 15).toInt ≤ (gI y 13).toInt + 0))
                      unfold lb_X9_next_243
                      refine wp_if (fun c65 => ?_) (fun c65 => ?_)
                      · have c65 := cv_eq (a := (gI o_me_3 16).toInt) (b := 2) rfl (by decide) c65
                        exfalso; omega
                      · have c65 := cv_ne (a := (gI o_me_3 16).toInt) (b := 2) rfl (by decide) c65
                        refine wp_some ?_
                        exact (show IvX9 o_me_3 ∧ Kp [1, 8, 11, 13, 18, 19, 20, 21, 23, 26, 29, 34, 38, 43, 56, 57, 58, 59, 62] [2, 3, 4, 5, 7, 10, 12, 22, 24, 25, 27, 28, 42, 48, 50, 51, 55, 61] [(0, 1), (1, 2), (29, 36), (36, 64), (64, 71)] o_me o_me_3 ∧ ((gI o_me_3 15).toInt ≤ (gI o_me_3 13).toInt + 0) from ⟨hI_me_3, hkp_me_3, (by omega)⟩)
                  exact lp3 zfu o_me_2 hI_me_2 hkp_me_2 ⟨by omega, by omega⟩ ⟨by omega, by omega⟩ ⟨by omega, by omega⟩ ⟨by omega, by omega⟩ (by omega) (by omega) (by omega) (by omega) (by omega) (by omega) (by show _ < 100000; omega)
            exact lp2 zfu o30 hIo30 hkpo30 ⟨by omega, by omega⟩ ⟨by omega, by omega⟩ ⟨by omega, by omega⟩ ⟨by omega, by omega⟩ (by omega) (by omega) (by omega) (by omega) (by omega) (by omega) (by show _ < 100000; omega)
        · have c28 := cv_ne (a := (gI o23 14).toInt) (b := (gI o23 13).toInt) rfl rfl c28
          exfalso; omega
      · have c18 := cv_nge (a := (gI o_me_1 14).toInt) (b := (gI o_me_1 13).toInt) rfl rfl c18
        refine wp_gd (zin_of (m := 400) rfl (by omega) (by omega)) ?_
        refine wp_if (fun c66 => ?_) (fun c66 => ?_)
        · have c66 := cv_eq (a := (gA o_me_1 12 (gI o_me_1 14).toNatClampNeg).toInt) (b := 32) rfl (by decide) c66
          have t67 : ((gI o_me_1 14) + (1 : Int32)).toInt = (gI o_me_1 14).toInt + 1 := i32_add rfl (by decide) (by omega) (by omega)
          refine wp_lt (fun o68 eo68 => ?_)
          have hIo68 : IvX9 o68 := by rw [eo68]; exact ipX9_14 hI_me_1 ⟨by omega, by omega⟩
          have ko68_k69 : (gA o68 12 (gI o_me_1 14).toNatClampNeg).toInt = (gA o_me_1 12 (gI o_me_1 14).toNatClampNeg).toInt := by rw [eo68]; rfl
          have ko68_k70 : (gI o68 13).toInt = (gI o_me_1 13).toInt := by rw [eo68]; rfl
          have ko68_k71 : (gI o68 15).toInt = (gI o_me_1 15).toInt := by rw [eo68]; rfl
          have ko68_k72 : (gI o68 16).toInt = (gI o_me_1 16).toInt := by rw [eo68]; rfl
          have ko68_v : (gI o68 14).toInt = ((gI o_me_1 14) + (1 : Int32)).toInt := by rw [eo68]; rfl
          have hkpo68 : Kp [1, 8, 11, 13, 18, 19, 20, 21, 23, 26, 29, 34, 38, 43, 56, 57, 58, 59, 62] [2, 3, 4, 5, 7, 10, 12, 22, 24, 25, 27, 28, 42, 48, 50, 51, 55, 61] [(0, 1), (1, 2), (29, 36), (36, 64), (64, 71)] o_me o68 := hkp_me_1.trans (by rw [eo68]; exact Kp.sI (by decide))
          exact ih1 o68 hIo68 hkpo68 ⟨by omega, by omega⟩ ⟨by omega, by omega⟩ ⟨by omega, by omega⟩ ⟨by omega, by omega⟩ (by omega) (by omega) (by omega) (by omega)
        · have c66 := cv_ne (a := (gA o_me_1 12 (gI o_me_1 14).toNatClampNeg).toInt) (b := 32) rfl (by decide) c66
          unfold bk_X9_next_46
          refine wp_lt (fun o73 eo73 => ?_)
          have hIo73 : IvX9 o73 := by rw [eo73]; exact ipX9_15 hI_me_1 ⟨by omega, by omega⟩
          have ko73_k74 : (gA o73 12 (gI o_me_1 14).toNatClampNeg).toInt = (gA o_me_1 12 (gI o_me_1 14).toNatClampNeg).toInt := by rw [eo73]; rfl
          have ko73_k75 : (gI o73 13).toInt = (gI o_me_1 13).toInt := by rw [eo73]; rfl
          have ko73_k76 : (gI o73 14).toInt = (gI o_me_1 14).toInt := by rw [eo73]; rfl
          have ko73_k77 : (gI o73 16).toInt = (gI o_me_1 16).toInt := by rw [eo73]; rfl
          have ko73_v : (gI o73 15).toInt = (gI o_me_1 14).toInt := by rw [eo73]; rfl
          have hkpo73 : Kp [1, 8, 11, 13, 18, 19, 20, 21, 23, 26, 29, 34, 38, 43, 56, 57, 58, 59, 62] [2, 3, 4, 5, 7, 10, 12, 22, 24, 25, 27, 28, 42, 48, 50, 51, 55, 61] [(0, 1), (1, 2), (29, 36), (36, 64), (64, 71)] o_me o73 := hkp_me_1.trans (by rw [eo73]; exact Kp.sI (by decide))
          refine wp_lt (fun o78 eo78 => ?_)
          have hIo78 : IvX9 o78 := by rw [eo78]; exact hIo73
          have ko78_k79 : (gA o78 12 (gI o_me_1 14).toNatClampNeg).toInt = (gA o73 12 (gI o_me_1 14).toNatClampNeg).toInt := by rw [eo78]; rfl
          have ko78_k80 : (gI o78 13).toInt = (gI o73 13).toInt := by rw [eo78]; rfl
          have ko78_k81 : (gI o78 14).toInt = (gI o73 14).toInt := by rw [eo78]; rfl
          have ko78_k82 : (gI o78 15).toInt = (gI o73 15).toInt := by rw [eo78]; rfl
          have ko78_k83 : (gI o78 16).toInt = (gI o73 16).toInt := by rw [eo78]; rfl
          have ko78_v : (gL o78 17).toInt = 0 := by rw [eo78]; exact (show ((0 : Int64)).toInt = _ from by decide)
          have hkpo78 : Kp [1, 8, 11, 13, 18, 19, 20, 21, 23, 26, 29, 34, 38, 43, 56, 57, 58, 59, 62] [2, 3, 4, 5, 7, 10, 12, 22, 24, 25, 27, 28, 42, 48, 50, 51, 55, 61] [(0, 1), (1, 2), (29, 36), (36, 64), (64, 71)] o_me o78 := hkpo73.trans (by rw [eo78]; exact Kp.sL)
          refine wp_if (fun c84 => ?_) (fun c84 => ?_)
          · have c84 := cv_eq (a := (gI o78 14).toInt) (b := (gI o78 13).toInt) rfl rfl c84
            exfalso; omega
          · have c84 := cv_ne (a := (gI o78 14).toInt) (b := (gI o78 13).toInt) rfl rfl c84
            refine wp_gd (zin_of (m := 400) rfl (by omega) (by omega)) ?_
            refine wp_bd (s_X9_isSmall   (gA o78 12 (gI o78 14).toNatClampNeg)    ) (fun z85 hz85 => ?_)
            have hz85_0 := hz85
            refine wp_if (fun c86 => ?_) (fun c86 => ?_)
            · have c86 := cv_eq (a := z85.toInt) (b := 0) rfl (by decide) c86
              refine wp_gd (zin_of (m := 400) rfl (by omega) (by omega)) ?_
              refine wp_bd (s_X9_isDigit   (gA o78 12 (gI o78 14).toNatClampNeg)    ) (fun z87 hz87 => ?_)
              have hz87_0 := hz87
              refine wp_if (fun c88 => ?_) (fun c88 => ?_)
              · have c88 := cv_eq (a := z87.toInt) (b := 0) rfl (by decide) c88
                obtain ⟨w89, ew89⟩ : ∃ z : Int32, z = (3 : Int32) := ⟨_, rfl⟩
                have tw89 : w89.toInt = 3 := by rw [ew89]; decide
                rw [show bk_X9_next_114   (3 : Int32) o78 = bk_X9_next_114   w89 o78 from by rw [ew89]]
                unfold bk_X9_next_114
                refine wp_lt (fun o90 eo90 => ?_)
                have hIo90 : IvX9 o90 := by rw [eo90]; exact ipX9_16 hIo78 ⟨by omega, by omega⟩
                have ko90_k91 : (gA o90 12 (gI o_me_1 14).toNatClampNeg).toInt = (gA o78 12 (gI o_me_1 14).toNatClampNeg).toInt := by rw [eo90]; rfl
                have ko90_k92 : (gI o90 13).toInt = (gI o78 13).toInt := by rw [eo90]; rfl
                have ko90_k93 : (gI o90 14).toInt = (gI o78 14).toInt := by rw [eo90]; rfl
                have ko90_k94 : (gI o90 15).toInt = (gI o78 15).toInt := by rw [eo90]; rfl
                have ko90_k95 : (gL o90 17).toInt = (gL o78 17).toInt := by rw [eo90]; rfl
                have ko90_v : (gI o90 16).toInt = w89.toInt := by rw [eo90]; rfl
                have hkpo90 : Kp [1, 8, 11, 13, 18, 19, 20, 21, 23, 26, 29, 34, 38, 43, 56, 57, 58, 59, 62] [2, 3, 4, 5, 7, 10, 12, 22, 24, 25, 27, 28, 42, 48, 50, 51, 55, 61] [(0, 1), (1, 2), (29, 36), (36, 64), (64, 71)] o_me o90 := hkpo78.trans (by rw [eo90]; exact Kp.sI (by decide))
                refine wp_if (fun c96 => ?_) (fun c96 => ?_)
                · have c96 := cv_eq (a := (gI o90 16).toInt) (b := 3) rfl (by decide) c96
                  refine wp_gd (zin_of (m := 400) rfl (by omega) (by omega)) ?_
                  have rg97 := i32_rg (gA o90 12 (gI o90 14).toNatClampNeg)
                  have t98 : ((gA o90 12 (gI o90 14).toNatClampNeg).toInt64).toInt = (gA o90 12 (gI o90 14).toNatClampNeg).toInt := Int32.toInt_toInt64 _
                  refine wp_lt (fun o99 eo99 => ?_)
                  have hIo99 : IvX9 o99 := by rw [eo99]; exact hIo90
                  have ko99_k100 : (gA o99 12 (gI o90 14).toNatClampNeg).toInt = (gA o90 12 (gI o90 14).toNatClampNeg).toInt := by rw [eo99]; rfl
                  have ko99_k101 : (gA o99 12 (gI o_me_1 14).toNatClampNeg).toInt = (gA o90 12 (gI o_me_1 14).toNatClampNeg).toInt := by rw [eo99]; rfl
                  have ko99_k102 : (gI o99 13).toInt = (gI o90 13).toInt := by rw [eo99]; rfl
                  have ko99_k103 : (gI o99 14).toInt = (gI o90 14).toInt := by rw [eo99]; rfl
                  have ko99_k104 : (gI o99 15).toInt = (gI o90 15).toInt := by rw [eo99]; rfl
                  have ko99_k105 : (gI o99 16).toInt = (gI o90 16).toInt := by rw [eo99]; rfl
                  have ko99_v : (gL o99 17).toInt = ((gA o90 12 (gI o90 14).toNatClampNeg).toInt64).toInt := by rw [eo99]; rfl
                  have hkpo99 : Kp [1, 8, 11, 13, 18, 19, 20, 21, 23, 26, 29, 34, 38, 43, 56, 57, 58, 59, 62] [2, 3, 4, 5, 7, 10, 12, 22, 24, 25, 27, 28, 42, 48, 50, 51, 55, 61] [(0, 1), (1, 2), (29, 36), (36, 64), (64, 71)] o_me o99 := hkpo90.trans (by rw [eo99]; exact Kp.sL)
                  have t106 : ((gI o99 15) + (1 : Int32)).toInt = (gI o99 15).toInt + 1 := i32_add rfl (by decide) (by omega) (by omega)
                  refine wp_lt (fun o107 eo107 => ?_)
                  have hIo107 : IvX9 o107 := by rw [eo107]; exact ipX9_15 hIo99 ⟨by omega, by omega⟩
                  have ko107_k108 : (gA o107 12 (gI o90 14).toNatClampNeg).toInt = (gA o99 12 (gI o90 14).toNatClampNeg).toInt := by rw [eo107]; rfl
                  have ko107_k109 : (gA o107 12 (gI o_me_1 14).toNatClampNeg).toInt = (gA o99 12 (gI o_me_1 14).toNatClampNeg).toInt := by rw [eo107]; rfl
                  have ko107_k110 : (gI o107 13).toInt = (gI o99 13).toInt := by rw [eo107]; rfl
                  have ko107_k111 : (gI o107 14).toInt = (gI o99 14).toInt := by rw [eo107]; rfl
                  have ko107_k112 : (gI o107 16).toInt = (gI o99 16).toInt := by rw [eo107]; rfl
                  have ko107_k113 : (gL o107 17).toInt = (gL o99 17).toInt := by rw [eo107]; rfl
                  have ko107_v : (gI o107 15).toInt = ((gI o99 15) + (1 : Int32)).toInt := by rw [eo107]; rfl
                  have hkpo107 : Kp [1, 8, 11, 13, 18, 19, 20, 21, 23, 26, 29, 34, 38, 43, 56, 57, 58, 59, 62] [2, 3, 4, 5, 7, 10, 12, 22, 24, 25, 27, 28, 42, 48, 50, 51, 55, 61] [(0, 1), (1, 2), (29, 36), (36, 64), (64, 71)] o_me o107 := hkpo99.trans (by rw [eo107]; exact Kp.sI (by decide))
                  have lp4 : ∀ (N4 : Nat) (o_me_4 : Ob), IvX9 o_me_4 → Kp [1, 8, 11, 13, 18, 19, 20, 21, 23, 26, 29, 34, 38, 43, 56, 57, 58, 59, 62] [2, 3, 4, 5, 7, 10, 12, 22, 24, 25, 27, 28, 42, 48, 50, 51, 55, 61] [(0, 1), (1, 2), (29, 36), (36, 64), (64, 71)] o_me o_me_4 → (1 ≤ (gI o_me_4 13).toInt ∧ (gI o_me_4 13).toInt ≤ 400) → (0 ≤ (gI o_me_4 14).toInt ∧ (gI o_me_4 14).toInt ≤ 399) → (1 ≤ (gI o_me_4 15).toInt ∧ (gI o_me_4 15).toInt ≤ 400) → (3 ≤ (gI o_me_4 16).toInt ∧ (gI o_me_4 16).toInt ≤ 3) → ((gI o_me_4 14).toInt ≤ (gI o_me_4 13).toInt + (-1)) → ((gI o_me_4 14).toInt ≤ (gI o_me_4 15).toInt + (-1)) → ((gI o_me_4 15).toInt ≤ (gI o_me_4 13).toInt + 0) → ((gI o_me_4 15).toInt ≤ (gI o_me_4 14).toInt + 1) → (400 - (gI o_me_4 13).toInt).toNat < N4 → wp (lp_X9_next_149   N4 o_me_4) (fun (y : Ob) => IvX9 y ∧ Kp [1, 8, 11, 13, 18, 19, 20, 21, 23, 26, 29, 34, 38, 43, 56, 57, 58, 59, 62] [2, 3, 4, 5, 7, 10, 12, 22, 24, 25, 27, 28, 42, 48, 50, 51, 55, 61] [(0, 1), (1, 2), (29, 36), (36, 64), (64, 71)] o_me y ∧ ((gI y 15).toInt ≤ (gI y 13).toInt + 0)) := by
                    intro N4
                    induction N4 with
                    | zero =>
                      intro o_me_4 hI_me_4 hkp_me_4 hh118 hh119 hh120 hh121 hh122 hh123 hh124 hh125 hN4
                      exact absurd hN4 (Nat.not_lt_zero _)
                    | succ N4 ihx =>
                      have ih4 := ihx
                      intro o_me_4 hI_me_4 hkp_me_4 hh118 hh119 hh120 hh121 hh122 hh123 hh124 hh125 hN4
                      show wp (lb_X9_next_149   (lp_X9_next_149   N4) o_me_4) (fun (y : Ob) => IvX9 y ∧ Kp [1, 8, 11, 13, 18, 19, 20, 21, 23, 26, 29, 34, 38, 43, 56, 57, 58, 59, 62] [2, 3, 4, 5, 7, 10, 12, 22, 24, 25, 27, 28, 42, 48, 50, 51, 55, 61] [(0, 1), (1, 2), (29, 36), (36, 64), (64, 71)] o_me y ∧ ((gI y 15).toInt ≤ (gI y 13).toInt + 0))
                      unfold lb_X9_next_149
                      refine wp_if (fun c126 => ?_) (fun c126 => ?_)
                      · have c126 := cv_eq (a := (gI o_me_4 16).toInt) (b := 1) rfl (by decide) c126
                        exfalso; omega
                      · have c126 := cv_ne (a := (gI o_me_4 16).toInt) (b := 1) rfl (by decide) c126
                        have lp5 : ∀ (N5 : Nat) (o_me_5 : Ob), IvX9 o_me_5 → Kp [1, 8, 11, 13, 18, 19, 20, 21, 23, 26, 29, 34, 38, 43, 56, 57, 58, 59, 62] [2, 3, 4, 5, 7, 10, 12, 22, 24, 25, 27, 28, 42, 48, 50, 51, 55, 61] [(0, 1), (1, 2), (29, 36), (36, 64), (64, 71)] o_me o_me_5 → (1 ≤ (gI o_me_5 13).toInt ∧ (gI o_me_5 13).toInt ≤ 400) → (0 ≤ (gI o_me_5 14).toInt ∧ (gI o_me_5 14).toInt ≤ 399) → (1 ≤ (gI o_me_5 15).toInt ∧ (gI o_me_5 15).toInt ≤ 400) → (3 ≤ (gI o_me_5 16).toInt ∧ (gI o_me_5 16).toInt ≤ 3) → ((gI o_me_5 14).toInt ≤ (gI o_me_5 13).toInt + (-1)) → ((gI o_me_5 14).toInt ≤ (gI o_me_5 15).toInt + (-1)) → ((gI o_me_5 15).toInt ≤ (gI o_me_5 13).toInt + 0) → ((gI o_me_5 15).toInt ≤ (gI o_me_5 14).toInt + 1) → (400 - (gI o_me_5 13).toInt).toNat < N5 → wp (lp_X9_next_243   N5 o_me_5) (fun (y : Ob) => IvX9 y ∧ Kp [1, 8, 11, 13, 18, 19, 20, 21, 23, 26, 29, 34, 38, 43, 56, 57, 58, 59, 62] [2, 3, 4, 5, 7, 10, 12, 22, 24, 25, 27, 28, 42, 48, 50, 51, 55, 61] [(0, 1), (1, 2), (29, 36), (36, 64), (64, 71)] o_me y ∧ ((gI y 15).toInt ≤ (gI y 13).toInt + 0)) := by
                          intro N5
                          induction N5 with
                          | zero =>
                            intro o_me_5 hI_me_5 hkp_me_5 hh131 hh132 hh133 hh134 hh135 hh136 hh137 hh138 hN5
                            exact absurd hN5 (Nat.not_lt_zero _)
                          | succ N5 ihx =>
                            have ih5 := ihx
                            intro o_me_5 hI_me_5 hkp_me_5 hh131 hh132 hh133 hh134 hh135 hh136 hh137 hh138 hN5
                            show wp (lb_X9_next_243   (lp_X9_next_243   N5) o_me_5) (fun (y : Ob) => IvX9 y ∧ Kp [1, 8, 11, 13, 18, 19, 20, 21, 23, 26, 29, 34, 38, 43, 56, 57, 58, 59, 62] [2, 3, 4, 5, 7, 10, 12, 22, 24, 25, 27, 28, 42, 48, 50, 51, 55, 61] [(0, 1), (1, 2), (29, 36), (36, 64), (64, 71)] o_me y ∧ ((gI y 15).toInt ≤ (gI y 13).toInt + 0))
                            unfold lb_X9_next_243
                            refine wp_if (fun c139 => ?_) (fun c139 => ?_)
                            · have c139 := cv_eq (a := (gI o_me_5 16).toInt) (b := 2) rfl (by decide) c139
                              exfalso; omega
                            · have c139 := cv_ne (a := (gI o_me_5 16).toInt) (b := 2) rfl (by decide) c139
                              refine wp_some ?_
                              exact (show IvX9 o_me_5 ∧ Kp [1, 8, 11, 13, 18, 19, 20, 21, 23, 26, 29, 34, 38, 43, 56, 57, 58, 59, 62] [2, 3, 4, 5, 7, 10, 12, 22, 24, 25, 27, 28, 42, 48, 50, 51, 55, 61] [(0, 1), (1, 2), (29, 36), (36, 64), (64, 71)] o_me o_me_5 ∧ ((gI o_me_5 15).toInt ≤ (gI o_me_5 13).toInt + 0) from ⟨hI_me_5, hkp_me_5, (by omega)⟩)
                        exact lp5 zfu o_me_4 hI_me_4 hkp_me_4 ⟨by omega, by omega⟩ ⟨by omega, by omega⟩ ⟨by omega, by omega⟩ ⟨by omega, by omega⟩ (by omega) (by omega) (by omega) (by omega) (by show _ < 100000; omega)
                  exact lp4 zfu o107 hIo107 hkpo107 ⟨by omega, by omega⟩ ⟨by omega, by omega⟩ ⟨by omega, by omega⟩ ⟨by omega, by omega⟩ (by omega) (by omega) (by omega) (by omega) (by show _ < 100000; omega)
                · have c96 := cv_ne (a := (gI o90 16).toInt) (b := 3) rfl (by decide) c96
                  exfalso; omega
              · have c88z := c88
                have c88 := cv_ne (a := z87.toInt) (b := 0) rfl (by decide) c88
                obtain ⟨w140, ew140⟩ : ∃ z : Int32, z = (2 : Int32) := ⟨_, rfl⟩
                have tw140 : w140.toInt = 2 := by rw [ew140]; decide
                rw [show bk_X9_next_114   (2 : Int32) o78 = bk_X9_next_114   w140 o78 from by rw [ew140]]
                unfold bk_X9_next_114
                refine wp_lt (fun o141 eo141 => ?_)
                have hIo141 : IvX9 o141 := by rw [eo141]; exact ipX9_16 hIo78 ⟨by omega, by omega⟩
                have ko141_k142 : (gA o141 12 (gI o_me_1 14).toNatClampNeg).toInt = (gA o78 12 (gI o_me_1 14).toNatClampNeg).toInt := by rw [eo141]; rfl
                have ko141_k143 : (gI o141 13).toInt = (gI o78 13).toInt := by rw [eo141]; rfl
                have ko141_k144 : (gI o141 14).toInt = (gI o78 14).toInt := by rw [eo141]; rfl
                have ko141_k145 : (gI o141 15).toInt = (gI o78 15).toInt := by rw [eo141]; rfl
                have ko141_k146 : (gL o141 17).toInt = (gL o78 17).toInt := by rw [eo141]; rfl
                have ko141_v : (gI o141 16).toInt = w140.toInt := by rw [eo141]; rfl
                have hkpo141 : Kp [1, 8, 11, 13, 18, 19, 20, 21, 23, 26, 29, 34, 38, 43, 56, 57, 58, 59, 62] [2, 3, 4, 5, 7, 10, 12, 22, 24, 25, 27, 28, 42, 48, 50, 51, 55, 61] [(0, 1), (1, 2), (29, 36), (36, 64), (64, 71)] o_me o141 := hkpo78.trans (by rw [eo141]; exact Kp.sI (by decide))
                refine wp_if (fun c147 => ?_) (fun c147 => ?_)
                · have c147 := cv_eq (a := (gI o141 16).toInt) (b := 3) rfl (by decide) c147
                  exfalso; omega
                · have c147 := cv_ne (a := (gI o141 16).toInt) (b := 3) rfl (by decide) c147
                  have lp6 : ∀ (N6 : Nat) (o_me_6 : Ob), IvX9 o_me_6 → Kp [1, 8, 11, 13, 18, 19, 20, 21, 23, 26, 29, 34, 38, 43, 56, 57, 58, 59, 62] [2, 3, 4, 5, 7, 10, 12, 22, 24, 25, 27, 28, 42, 48, 50, 51, 55, 61] [(0, 1), (1, 2), (29, 36), (36, 64), (64, 71)] o_me o_me_6 → (1 ≤ (gI o_me_6 13).toInt ∧ (gI o_me_6 13).toInt ≤ 400) → (0 ≤ (gI o_me_6 14).toInt ∧ (gI o_me_6 14).toInt ≤ 399) → (0 ≤ (gI o_me_6 15).toInt ∧ (gI o_me_6 15).toInt ≤ 399) → (2 ≤ (gI o_me_6 16).toInt ∧ (gI o_me_6 16).toInt ≤ 2) → ((gI o_me_6 14).toInt ≤ (gI o_me_6 13).toInt + (-1)) → ((gI o_me_6 14).toInt ≤ (gI o_me_6 15).toInt + 0) → ((gI o_me_6 15).toInt ≤ (gI o_me_6 13).toInt + (-1)) → ((gI o_me_6 15).toInt ≤ (gI o_me_6 14).toInt + 0) → (400 - (gI o_me_6 13).toInt).toNat < N6 → wp (lp_X9_next_149   N6 o_me_6) (fun (y : Ob) => IvX9 y ∧ Kp [1, 8, 11, 13, 18, 19, 20, 21, 23, 26, 29, 34, 38, 43, 56, 57, 58, 59, 62] [2, 3, 4, 5, 7, 10, 12, 22, 24, 25, 27, 28, 42, 48, 50, 51, 55, 61] [(0, 1), (1, 2), (29, 36), (36, 64), (64, 71)] o_me y ∧ ((gI y 15).toInt ≤ (gI y 13).toInt + 0)) := by
                    intro N6
                    induction N6 with
                    | zero =>
                      intro o_me_6 hI_me_6 hkp_me_6 hh152 hh153 hh154 hh155 hh156 hh157 hh158 hh159 hN6
                      exact absurd hN6 (Nat.not_lt_zero _)
                    | succ N6 ihx =>
                      have ih6 := ihx
                      intro o_me_6 hI_me_6 hkp_me_6 hh152 hh153 hh154 hh155 hh156 hh157 hh158 hh159 hN6
                      show wp (lb_X9_next_149   (lp_X9_next_149   N6) o_me_6) (fun (y : Ob) => IvX9 y ∧ Kp [1, 8, 11, 13, 18, 19, 20, 21, 23, 26, 29, 34, 38, 43, 56, 57, 58, 59, 62] [2, 3, 4, 5, 7, 10, 12, 22, 24, 25, 27, 28, 42, 48, 50, 51, 55, 61] [(0, 1), (1, 2), (29, 36), (36, 64), (64, 71)] o_me y ∧ ((gI y 15).toInt ≤ (gI y 13).toInt + 0))
                      unfold lb_X9_next_149
                      refine wp_if (fun c160 => ?_) (fun c160 => ?_)
                      · have c160 := cv_eq (a := (gI o_me_6 16).toInt) (b := 1) rfl (by decide) c160
                        exfalso; omega
                      · have c160 := cv_ne (a := (gI o_me_6 16).toInt) (b := 1) rfl (by decide) c160
                        have lp7 : ∀ (N7 : Nat) (o_me_7 : Ob), IvX9 o_me_7 → Kp [1, 8, 11, 13, 18, 19, 20, 21, 23, 26, 29, 34, 38, 43, 56, 57, 58, 59, 62] [2, 3, 4, 5, 7, 10, 12, 22, 24, 25, 27, 28, 42, 48, 50, 51, 55, 61] [(0, 1), (1, 2), (29, 36), (36, 64), (64, 71)] o_me o_me_7 → (1 ≤ (gI o_me_7 13).toInt ∧ (gI o_me_7 13).toInt ≤ 400) → (0 ≤ (gI o_me_7 14).toInt ∧ (gI o_me_7 14).toInt ≤ 399) → (0 ≤ (gI o_me_7 15).toInt ∧ (gI o_me_7 15).toInt ≤ 400) → (2 ≤ (gI o_me_7 16).toInt ∧ (gI o_me_7 16).toInt ≤ 2) → ((gI o_me_7 14).toInt ≤ (gI o_me_7 13).toInt + (-1)) → ((gI o_me_7 14).toInt ≤ (gI o_me_7 15).toInt + 0) → ((gI o_me_7 15).toInt ≤ (gI o_me_7 13).toInt + 0) → (400 - (gI o_me_7 15).toInt).toNat < N7 → wp (lp_X9_next_243   N7 o_me_7) (fun (y : Ob) => IvX9 y ∧ Kp [1, 8, 11, 13, 18, 19, 20, 21, 23, 26, 29, 34, 38, 43, 56, 57, 58, 59, 62] [2, 3, 4, 5, 7, 10, 12, 22, 24, 25, 27, 28, 42, 48, 50, 51, 55, 61] [(0, 1), (1, 2), (29, 36), (36, 64), (64, 71)] o_me y ∧ ((gI y 15).toInt ≤ (gI y 13).toInt + 0)) := by
                          intro N7
                          induction N7 with
                          | zero =>
                            intro o_me_7 hI_me_7 hkp_me_7 hh165 hh166 hh167 hh168 hh169 hh170 hh171 hN7
                            exact absurd hN7 (Nat.not_lt_zero _)
                          | succ N7 ihx =>
                            have ih7 := ihx
                            intro o_me_7 hI_me_7 hkp_me_7 hh165 hh166 hh167 hh168 hh169 hh170 hh171 hN7
                            show wp (lb_X9_next_243   (lp_X9_next_243   N7) o_me_7) (fun (y : Ob) => IvX9 y ∧ Kp [1, 8, 11, 13, 18, 19, 20, 21, 23, 26, 29, 34, 38, 43, 56, 57, 58, 59, 62] [2, 3, 4, 5, 7, 10, 12, 22, 24, 25, 27, 28, 42, 48, 50, 51, 55, 61] [(0, 1), (1, 2), (29, 36), (36, 64), (64, 71)] o_me y ∧ ((gI y 15).toInt ≤ (gI y 13).toInt + 0))
                            unfold lb_X9_next_243
                            refine wp_if (fun c172 => ?_) (fun c172 => ?_)
                            · have c172 := cv_eq (a := (gI o_me_7 16).toInt) (b := 2) rfl (by decide) c172
                              refine wp_if (fun c173 => ?_) (fun c173 => ?_)
                              · have c173 := cv_ge (a := (gI o_me_7 15).toInt) (b := (gI o_me_7 13).toInt) rfl rfl c173
                                refine wp_some ?_
                                exact (show IvX9 o_me_7 ∧ Kp [1, 8, 11, 13, 18, 19, 20, 21, 23, 26, 29, 34, 38, 43, 56, 57, 58, 59, 62] [2, 3, 4, 5, 7, 10, 12, 22, 24, 25, 27, 28, 42, 48, 50, 51, 55, 61] [(0, 1), (1, 2), (29, 36), (36, 64), (64, 71)] o_me o_me_7 ∧ ((gI o_me_7 15).toInt ≤ (gI o_me_7 13).toInt + 0) from ⟨hI_me_7, hkp_me_7, (by omega)⟩)
                              · have c173 := cv_nge (a := (gI o_me_7 15).toInt) (b := (gI o_me_7 13).toInt) rfl rfl c173
                                refine wp_gd (zin_of (m := 400) rfl (by omega) (by omega)) ?_
                                refine wp_bd (s_X9_isDigit   (gA o_me_7 12 (gI o_me_7 15).toNatClampNeg)    ) (fun z174 hz174 => ?_)
                                have hz174_0 := hz174
                                refine wp_if (fun c175 => ?_) (fun c175 => ?_)
                                · have c175 := cv_eq (a := z174.toInt) (b := 0) rfl (by decide) c175
                                  refine wp_some ?_
                                  exact (show IvX9 o_me_7 ∧ Kp [1, 8, 11, 13, 18, 19, 20, 21, 23, 26, 29, 34, 38, 43, 56, 57, 58, 59, 62] [2, 3, 4, 5, 7, 10, 12, 22, 24, 25, 27, 28, 42, 48, 50, 51, 55, 61] [(0, 1), (1, 2), (29, 36), (36, 64), (64, 71)] o_me o_me_7 ∧ ((gI o_me_7 15).toInt ≤ (gI o_me_7 13).toInt + 0) from ⟨hI_me_7, hkp_me_7, (by omega)⟩)
                                · have c175z := c175
                                  have c175 := cv_ne (a := z174.toInt) (b := 0) rfl (by decide) c175
                                  refine wp_if (fun c176 => ?_) (fun c176 => ?_)
                                  · have c176 := cvl_le (a := (gL o_me_7 17).toInt) (b := 1000000) rfl (by decide) c176
                                    refine wp_gd (zin_of (m := 400) rfl (by omega) (by omega)) ?_
                                    have rg177 := i32_rg (gA o_me_7 12 (gI o_me_7 15).toNatClampNeg)
                                    have t178 : ((gA o_me_7 12 (gI o_me_7 15).toNatClampNeg).toInt64).toInt = (gA o_me_7 12 (gI o_me_7 15).toNatClampNeg).toInt := Int32.toInt_toInt64 _
                                    obtain ⟨w179, ew179⟩ : ∃ z : Int64, z = (((gL o_me_7 17) * (10 : Int64)) + ((gA o_me_7 12 (gI o_me_7 15).toNatClampNeg).toInt64)) - (48 : Int64) := ⟨_, rfl⟩
                                    have tw179 : w179.toInt = ((((gL o_me_7 17) * (10 : Int64)) + ((gA o_me_7 12 (gI o_me_7 15).toNatClampNeg).toInt64)) - (48 : Int64)).toInt := by rw [ew179]
                                    rw [show bk_X9_next_319  (lp_X9_next_243   N7) ((((gL o_me_7 17) * (10 : Int64)) + ((gA o_me_7 12 (gI o_me_7 15).toNatClampNeg).toInt64)) - (48 : Int64)) o_me_7 = bk_X9_next_319  (lp_X9_next_243   N7) w179 o_me_7 from by rw [ew179]]
                                    unfold bk_X9_next_319
                                    refine wp_lt (fun o180 eo180 => ?_)
                                    have hIo180 : IvX9 o180 := by rw [eo180]; exact hI_me_7
                                    have ko180_k181 : (gA o180 12 (gI o_me_7 15).toNatClampNeg).toInt = (gA o_me_7 12 (gI o_me_7 15).toNatClampNeg).toInt := by rw [eo180]; rfl
                                    have ko180_k182 : (gI o180 13).toInt = (gI o_me_7 13).toInt := by rw [eo180]; rfl
                                    have ko180_k183 : (gI o180 14).toInt = (gI o_me_7 14).toInt := by rw [eo180]; rfl
                                    have ko180_k184 : (gI o180 15).toInt = (gI o_me_7 15).toInt := by rw [eo180]; rfl
                                    have ko180_k185 : (gI o180 16).toInt = (gI o_me_7 16).toInt := by rw [eo180]; rfl
                                    have ko180_v : (gL o180 17).toInt = w179.toInt := by rw [eo180]; rfl
                                    have hkpo180 : Kp [1, 8, 11, 13, 18, 19, 20, 21, 23, 26, 29, 34, 38, 43, 56, 57, 58, 59, 62] [2, 3, 4, 5, 7, 10, 12, 22, 24, 25, 27, 28, 42, 48, 50, 51, 55, 61] [(0, 1), (1, 2), (29, 36), (36, 64), (64, 71)] o_me o180 := hkp_me_7.trans (by rw [eo180]; exact Kp.sL)
                                    have t186 : ((gI o180 15) + (1 : Int32)).toInt = (gI o180 15).toInt + 1 := i32_add rfl (by decide) (by omega) (by omega)
                                    refine wp_lt (fun o187 eo187 => ?_)
                                    have hIo187 : IvX9 o187 := by rw [eo187]; exact ipX9_15 hIo180 ⟨by omega, by omega⟩
                                    have ko187_k188 : (gA o187 12 (gI o_me_7 15).toNatClampNeg).toInt = (gA o180 12 (gI o_me_7 15).toNatClampNeg).toInt := by rw [eo187]; rfl
                                    have ko187_k189 : (gI o187 13).toInt = (gI o180 13).toInt := by rw [eo187]; rfl
                                    have ko187_k190 : (gI o187 14).toInt = (gI o180 14).toInt := by rw [eo187]; rfl
                                    have ko187_k191 : (gI o187 16).toInt = (gI o180 16).toInt := by rw [eo187]; rfl
                                    have ko187_k192 : (gL o187 17).toInt = (gL o180 17).toInt := by rw [eo187]; rfl
                                    have ko187_v : (gI o187 15).toInt = ((gI o180 15) + (1 : Int32)).toInt := by rw [eo187]; rfl
                                    have hkpo187 : Kp [1, 8, 11, 13, 18, 19, 20, 21, 23, 26, 29, 34, 38, 43, 56, 57, 58, 59, 62] [2, 3, 4, 5, 7, 10, 12, 22, 24, 25, 27, 28, 42, 48, 50, 51, 55, 61] [(0, 1), (1, 2), (29, 36), (36, 64), (64, 71)] o_me o187 := hkpo180.trans (by rw [eo187]; exact Kp.sI (by decide))
                                    exact ih7 o187 hIo187 hkpo187 ⟨by omega, by omega⟩ ⟨by omega, by omega⟩ ⟨by omega, by omega⟩ ⟨by omega, by omega⟩ (by omega) (by omega) (by omega) (by omega)
                                  · have c176 := cvl_nle (a := (gL o_me_7 17).toInt) (b := 1000000) rfl (by decide) c176
                                    obtain ⟨w193, ew193⟩ : ∃ z : Int64, z = gL o_me_7 17 := ⟨_, rfl⟩
                                    have tw193 : w193.toInt = (gL o_me_7 17).toInt := by rw [ew193]
                                    rw [show bk_X9_next_319  (lp_X9_next_243   N7) (gL o_me_7 17) o_me_7 = bk_X9_next_319  (lp_X9_next_243   N7) w193 o_me_7 from by rw [ew193]]
                                    unfold bk_X9_next_319
                                    refine wp_lt (fun o194 eo194 => ?_)
                                    have hIo194 : IvX9 o194 := by rw [eo194]; exact hI_me_7
                                    have ko194_k195 : (gI o194 13).toInt = (gI o_me_7 13).toInt := by rw [eo194]; rfl
                                    have ko194_k196 : (gI o194 14).toInt = (gI o_me_7 14).toInt := by rw [eo194]; rfl
                                    have ko194_k197 : (gI o194 15).toInt = (gI o_me_7 15).toInt := by rw [eo194]; rfl
                                    have ko194_k198 : (gI o194 16).toInt = (gI o_me_7 16).toInt := by rw [eo194]; rfl
                                    have ko194_v : (gL o194 17).toInt = w193.toInt := by rw [eo194]; rfl
                                    have hkpo194 : Kp [1, 8, 11, 13, 18, 19, 20, 21, 23, 26, 29, 34, 38, 43, 56, 57, 58, 59, 62] [2, 3, 4, 5, 7, 10, 12, 22, 24, 25, 27, 28, 42, 48, 50, 51, 55, 61] [(0, 1), (1, 2), (29, 36), (36, 64), (64, 71)] o_me o194 := hkp_me_7.trans (by rw [eo194]; exact Kp.sL)
                                    have t199 : ((gI o194 15) + (1 : Int32)).toInt = (gI o194 15).toInt + 1 := i32_add rfl (by decide) (by omega) (by omega)
                                    refine wp_lt (fun o200 eo200 => ?_)
                                    have hIo200 : IvX9 o200 := by rw [eo200]; exact ipX9_15 hIo194 ⟨by omega, by omega⟩
                                    have ko200_k201 : (gI o200 13).toInt = (gI o194 13).toInt := by rw [eo200]; rfl
                                    have ko200_k202 : (gI o200 14).toInt = (gI o194 14).toInt := by rw [eo200]; rfl
                                    have ko200_k203 : (gI o200 16).toInt = (gI o194 16).toInt := by rw [eo200]; rfl
                                    have ko200_k204 : (gL o200 17).toInt = (gL o194 17).toInt := by rw [eo200]; rfl
                                    have ko200_v : (gI o200 15).toInt = ((gI o194 15) + (1 : Int32)).toInt := by rw [eo200]; rfl
                                    have hkpo200 : Kp [1, 8, 11, 13, 18, 19, 20, 21, 23, 26, 29, 34, 38, 43, 56, 57, 58, 59, 62] [2, 3, 4, 5, 7, 10, 12, 22, 24, 25, 27, 28, 42, 48, 50, 51, 55, 61] [(0, 1), (1, 2), (29, 36), (36, 64), (64, 71)] o_me o200 := hkpo194.trans (by rw [eo200]; exact Kp.sI (by decide))
                                    exact ih7 o200 hIo200 hkpo200 ⟨by omega, by omega⟩ ⟨by omega, by omega⟩ ⟨by omega, by omega⟩ ⟨by omega, by omega⟩ (by omega) (by omega) (by omega) (by omega)
                            · have c172 := cv_ne (a := (gI o_me_7 16).toInt) (b := 2) rfl (by decide) c172
                              exfalso; omega
                        exact lp7 zfu o_me_6 hI_me_6 hkp_me_6 ⟨by omega, by omega⟩ ⟨by omega, by omega⟩ ⟨by omega, by omega⟩ ⟨by omega, by omega⟩ (by omega) (by omega) (by omega) (by show _ < 100000; omega)
                  exact lp6 zfu o141 hIo141 hkpo141 ⟨by omega, by omega⟩ ⟨by omega, by omega⟩ ⟨by omega, by omega⟩ ⟨by omega, by omega⟩ (by omega) (by omega) (by omega) (by omega) (by show _ < 100000; omega)
            · have c86z := c86
              have c86 := cv_ne (a := z85.toInt) (b := 0) rfl (by decide) c86
              obtain ⟨w205, ew205⟩ : ∃ z : Int32, z = (1 : Int32) := ⟨_, rfl⟩
              have tw205 : w205.toInt = 1 := by rw [ew205]; decide
              rw [show bk_X9_next_114   (1 : Int32) o78 = bk_X9_next_114   w205 o78 from by rw [ew205]]
              unfold bk_X9_next_114
              refine wp_lt (fun o206 eo206 => ?_)
              have hIo206 : IvX9 o206 := by rw [eo206]; exact ipX9_16 hIo78 ⟨by omega, by omega⟩
              have ko206_k207 : (gA o206 12 (gI o_me_1 14).toNatClampNeg).toInt = (gA o78 12 (gI o_me_1 14).toNatClampNeg).toInt := by rw [eo206]; rfl
              have ko206_k208 : (gI o206 13).toInt = (gI o78 13).toInt := by rw [eo206]; rfl
              have ko206_k209 : (gI o206 14).toInt = (gI o78 14).toInt := by rw [eo206]; rfl
              have ko206_k210 : (gI o206 15).toInt = (gI o78 15).toInt := by rw [eo206]; rfl
              have ko206_k211 : (gL o206 17).toInt = (gL o78 17).toInt := by rw [eo206]; rfl
              have ko206_v : (gI o206 16).toInt = w205.toInt := by rw [eo206]; rfl
              have hkpo206 : Kp [1, 8, 11, 13, 18, 19, 20, 21, 23, 26, 29, 34, 38, 43, 56, 57, 58, 59, 62] [2, 3, 4, 5, 7, 10, 12, 22, 24, 25, 27, 28, 42, 48, 50, 51, 55, 61] [(0, 1), (1, 2), (29, 36), (36, 64), (64, 71)] o_me o206 := hkpo78.trans (by rw [eo206]; exact Kp.sI (by decide))
              refine wp_if (fun c212 => ?_) (fun c212 => ?_)
              · have c212 := cv_eq (a := (gI o206 16).toInt) (b := 3) rfl (by decide) c212
                exfalso; omega
              · have c212 := cv_ne (a := (gI o206 16).toInt) (b := 3) rfl (by decide) c212
                have lp8 : ∀ (N8 : Nat) (o_me_8 : Ob), IvX9 o_me_8 → Kp [1, 8, 11, 13, 18, 19, 20, 21, 23, 26, 29, 34, 38, 43, 56, 57, 58, 59, 62] [2, 3, 4, 5, 7, 10, 12, 22, 24, 25, 27, 28, 42, 48, 50, 51, 55, 61] [(0, 1), (1, 2), (29, 36), (36, 64), (64, 71)] o_me o_me_8 → (1 ≤ (gI o_me_8 13).toInt ∧ (gI o_me_8 13).toInt ≤ 400) → (0 ≤ (gI o_me_8 14).toInt ∧ (gI o_me_8 14).toInt ≤ 399) → (0 ≤ (gI o_me_8 15).toInt ∧ (gI o_me_8 15).toInt ≤ 400) → (1 ≤ (gI o_me_8 16).toInt ∧ (gI o_me_8 16).toInt ≤ 1) → ((gI o_me_8 14).toInt ≤ (gI o_me_8 13).toInt + (-1)) → ((gI o_me_8 14).toInt ≤ (gI o_me_8 15).toInt + 0) → ((gI o_me_8 15).toInt ≤ (gI o_me_8 13).toInt + 0) → (400 - (gI o_me_8 15).toInt).toNat < N8 → wp (lp_X9_next_149   N8 o_me_8) (fun (y : Ob) => IvX9 y ∧ Kp [1, 8, 11, 13, 18, 19, 20, 21, 23, 26, 29, 34, 38, 43, 56, 57, 58, 59, 62] [2, 3, 4, 5, 7, 10, 12, 22, 24, 25, 27, 28, 42, 48, 50, 51, 55, 61] [(0, 1), (1, 2), (29, 36), (36, 64), (64, 71)] o_me y ∧ ((gI y 15).toInt ≤ (gI y 13).toInt + 0)) := by
                  intro N8
                  induction N8 with
                  | zero =>
                    intro o_me_8 hI_me_8 hkp_me_8 hh217 hh218 hh219 hh220 hh221 hh222 hh223 hN8
                    exact absurd hN8 (Nat.not_lt_zero _)
                  | succ N8 ihx =>
                    have ih8 := ihx
                    intro o_me_8 hI_me_8 hkp_me_8 hh217 hh218 hh219 hh220 hh221 hh222 hh223 hN8
                    show wp (lb_X9_next_149   (lp_X9_next_149   N8) o_me_8) (fun (y : Ob) => IvX9 y ∧ Kp [1, 8, 11, 13, 18, 19, 20, 21, 23, 26, 29, 34, 38, 43, 56, 57, 58, 59, 62] [2, 3, 4, 5, 7, 10, 12, 22, 24, 25, 27, 28, 42, 48, 50, 51, 55, 61] [(0, 1), (1, 2), (29, 36), (36, 64), (64, 71)] o_me y ∧ ((gI y 15).toInt ≤ (gI y 13).toInt + 0))
                    unfold lb_X9_next_149
                    refine wp_if (fun c224 => ?_) (fun c224 => ?_)
                    · have c224 := cv_eq (a := (gI o_me_8 16).toInt) (b := 1) rfl (by decide) c224
                      refine wp_if (fun c225 => ?_) (fun c225 => ?_)
                      · have c225 := cv_ge (a := (gI o_me_8 15).toInt) (b := (gI o_me_8 13).toInt) rfl rfl c225
                        have lp9 : ∀ (N9 : Nat) (o_me_9 : Ob), IvX9 o_me_9 → Kp [1, 8, 11, 13, 18, 19, 20, 21, 23, 26, 29, 34, 38, 43, 56, 57, 58, 59, 62] [2, 3, 4, 5, 7, 10, 12, 22, 24, 25, 27, 28, 42, 48, 50, 51, 55, 61] [(0, 1), (1, 2), (29, 36), (36, 64), (64, 71)] o_me o_me_9 → (1 ≤ (gI o_me_9 13).toInt ∧ (gI o_me_9 13).toInt ≤ 400) → (0 ≤ (gI o_me_9 14).toInt ∧ (gI o_me_9 14).toInt ≤ 399) → (1 ≤ (gI o_me_9 15).toInt ∧ (gI o_me_9 15).toInt ≤ 400) → (1 ≤ (gI o_me_9 16).toInt ∧ (gI o_me_9 16).toInt ≤ 1) → ((gI o_me_9 13).toInt ≤ (gI o_me_9 15).toInt + 0) → ((gI o_me_9 14).toInt ≤ (gI o_me_9 13).toInt + (-1)) → ((gI o_me_9 14).toInt ≤ (gI o_me_9 15).toInt + (-1)) → ((gI o_me_9 15).toInt ≤ (gI o_me_9 13).toInt + 0) → (400 - (gI o_me_9 13).toInt).toNat < N9 → wp (lp_X9_next_243   N9 o_me_9) (fun (y : Ob) => IvX9 y ∧ Kp [1, 8, 11, 13, 18, 19, 20, 21, 23, 26, 29, 34, 38, 43, 56, 57, 58, 59, 62] [2, 3, 4, 5, 7, 10, 12, 22, 24, 25, 27, 28, 42, 48, 50, 51, 55, 61] [(0, 1), (1, 2), (29, 36), (36, 64), (64, 71)] o_me y ∧ ((gI y 15).toInt ≤ (gI y 13).toInt + 0)) := by
                          intro N9
                          induction N9 with
                          | zero =>
                            intro o_me_9 hI_me_9 hkp_me_9 hh230 hh231 hh232 hh233 hh234 hh235 hh236 hh237 hN9
                            exact absurd hN9 (Nat.not_lt_zero _)
                          | succ N9 ihx =>
                            have ih9 := ihx
                            intro o_me_9 hI_me_9 hkp_me_9 hh230 hh231 hh232 hh233 hh234 hh235 hh236 hh237 hN9
                            show wp (lb_X9_next_243   (lp_X9_next_243   N9) o_me_9) (fun (y : Ob) => IvX9 y ∧ Kp [1, 8, 11, 13, 18, 19, 20, 21, 23, 26, 29, 34, 38, 43, 56, 57, 58, 59, 62] [2, 3, 4, 5, 7, 10, 12, 22, 24, 25, 27, 28, 42, 48, 50, 51, 55, 61] [(0, 1), (1, 2), (29, 36), (36, 64), (64, 71)] o_me y ∧ ((gI y 15).toInt ≤ (gI y 13).toInt + 0))
                            unfold lb_X9_next_243
                            refine wp_if (fun c238 => ?_) (fun c238 => ?_)
                            · have c238 := cv_eq (a := (gI o_me_9 16).toInt) (b := 2) rfl (by decide) c238
                              exfalso; omega
                            · have c238 := cv_ne (a := (gI o_me_9 16).toInt) (b := 2) rfl (by decide) c238
                              refine wp_some ?_
                              exact (show IvX9 o_me_9 ∧ Kp [1, 8, 11, 13, 18, 19, 20, 21, 23, 26, 29, 34, 38, 43, 56, 57, 58, 59, 62] [2, 3, 4, 5, 7, 10, 12, 22, 24, 25, 27, 28, 42, 48, 50, 51, 55, 61] [(0, 1), (1, 2), (29, 36), (36, 64), (64, 71)] o_me o_me_9 ∧ ((gI o_me_9 15).toInt ≤ (gI o_me_9 13).toInt + 0) from ⟨hI_me_9, hkp_me_9, (by omega)⟩)
                        exact lp9 zfu o_me_8 hI_me_8 hkp_me_8 ⟨by omega, by omega⟩ ⟨by omega, by omega⟩ ⟨by omega, by omega⟩ ⟨by omega, by omega⟩ (by omega) (by omega) (by omega) (by omega) (by show _ < 100000; omega)
                      · have c225 := cv_nge (a := (gI o_me_8 15).toInt) (b := (gI o_me_8 13).toInt) rfl rfl c225
                        refine wp_gd (zin_of (m := 400) rfl (by omega) (by omega)) ?_
                        refine wp_bd (s_X9_isSmall   (gA o_me_8 12 (gI o_me_8 15).toNatClampNeg)    ) (fun z239 hz239 => ?_)
                        have hz239_0 := hz239
                        refine wp_if (fun c240 => ?_) (fun c240 => ?_)
                        · have c240 := cv_eq (a := z239.toInt) (b := 0) rfl (by decide) c240
                          have lp10 : ∀ (N10 : Nat) (o_me_10 : Ob), IvX9 o_me_10 → Kp [1, 8, 11, 13, 18, 19, 20, 21, 23, 26, 29, 34, 38, 43, 56, 57, 58, 59, 62] [2, 3, 4, 5, 7, 10, 12, 22, 24, 25, 27, 28, 42, 48, 50, 51, 55, 61] [(0, 1), (1, 2), (29, 36), (36, 64), (64, 71)] o_me o_me_10 → (1 ≤ (gI o_me_10 13).toInt ∧ (gI o_me_10 13).toInt ≤ 400) → (0 ≤ (gI o_me_10 14).toInt ∧ (gI o_me_10 14).toInt ≤ 399) → (0 ≤ (gI o_me_10 15).toInt ∧ (gI o_me_10 15).toInt ≤ 399) → (1 ≤ (gI o_me_10 16).toInt ∧ (gI o_me_10 16).toInt ≤ 1) → ((gI o_me_10 14).toInt ≤ (gI o_me_10 13).toInt + (-1)) → ((gI o_me_10 14).toInt ≤ (gI o_me_10 15).toInt + 0) → ((gI o_me_10 15).toInt ≤ (gI o_me_10 13).toInt + (-1)) → (400 - (gI o_me_10 13).toInt).toNat < N10 → wp (lp_X9_next_243   N10 o_me_10) (fun (y : Ob) => IvX9 y ∧ Kp [1, 8, 11, 13, 18, 19, 20, 21, 23, 26, 29, 34, 38, 43, 56, 57, 58, 59, 62] [2, 3, 4, 5, 7, 10, 12, 22, 24, 25, 27, 28, 42, 48, 50, 51, 55, 61] [(0, 1), (1, 2), (29, 36), (36, 64), (64, 71)] o_me y ∧ ((gI y 15).toInt ≤ (gI y 13).toInt + 0)) := by
                            intro N10
                            induction N10 with
                            | zero =>
                              intro o_me_10 hI_me_10 hkp_me_10 hh245 hh246 hh247 hh248 hh249 hh250 hh251 hN10
                              exact absurd hN10 (Nat.not_lt_zero _)
                            | succ N10 ihx =>
                              have ih10 := ihx
                              intro o_me_10 hI_me_10 hkp_me_10 hh245 hh246 hh247 hh248 hh249 hh250 hh251 hN10
                              show wp (lb_X9_next_243   (lp_X9_next_243   N10) o_me_10) (fun (y : Ob) => IvX9 y ∧ Kp [1, 8, 11, 13, 18, 19, 20, 21, 23, 26, 29, 34, 38, 43, 56, 57, 58, 59, 62] [2, 3, 4, 5, 7, 10, 12, 22, 24, 25, 27, 28, 42, 48, 50, 51, 55, 61] [(0, 1), (1, 2), (29, 36), (36, 64), (64, 71)] o_me y ∧ ((gI y 15).toInt ≤ (gI y 13).toInt + 0))
                              unfold lb_X9_next_243
                              refine wp_if (fun c252 => ?_) (fun c252 => ?_)
                              · have c252 := cv_eq (a := (gI o_me_10 16).toInt) (b := 2) rfl (by decide) c252
                                exfalso; omega
                              · have c252 := cv_ne (a := (gI o_me_10 16).toInt) (b := 2) rfl (by decide) c252
                                refine wp_some ?_
                                exact (show IvX9 o_me_10 ∧ Kp [1, 8, 11, 13, 18, 19, 20, 21, 23, 26, 29, 34, 38, 43, 56, 57, 58, 59, 62] [2, 3, 4, 5, 7, 10, 12, 22, 24, 25, 27, 28, 42, 48, 50, 51, 55, 61] [(0, 1), (1, 2), (29, 36), (36, 64), (64, 71)] o_me o_me_10 ∧ ((gI o_me_10 15).toInt ≤ (gI o_me_10 13).toInt + 0) from ⟨hI_me_10, hkp_me_10, (by omega)⟩)
                          exact lp10 zfu o_me_8 hI_me_8 hkp_me_8 ⟨by omega, by omega⟩ ⟨by omega, by omega⟩ ⟨by omega, by omega⟩ ⟨by omega, by omega⟩ (by omega) (by omega) (by omega) (by show _ < 100000; omega)
                        · have c240z := c240
                          have c240 := cv_ne (a := z239.toInt) (b := 0) rfl (by decide) c240
                          have t253 : ((gI o_me_8 15) - (gI o_me_8 14)).toInt = (gI o_me_8 15).toInt - (gI o_me_8 14).toInt := i32_sub rfl rfl (by omega) (by omega)
                          refine wp_if (fun c254 => ?_) (fun c254 => ?_)
                          · have c254 := cv_ge (a := ((gI o_me_8 15) - (gI o_me_8 14)).toInt) (b := 10) rfl (by decide) c254
                            obtain ⟨w255, ew255⟩ : ∃ z : Int64, z = (-1 : Int64) := ⟨_, rfl⟩
                            have tw255 : w255.toInt = (-1) := by rw [ew255]; decide
                            rw [show bk_X9_next_227  (lp_X9_next_149   N8) (-1 : Int64) o_me_8 = bk_X9_next_227  (lp_X9_next_149   N8) w255 o_me_8 from by rw [ew255]]
                            unfold bk_X9_next_227
                            refine wp_lt (fun o256 eo256 => ?_)
                            have hIo256 : IvX9 o256 := by rw [eo256]; exact hI_me_8
                            have ko256_k257 : (gI o256 13).toInt = (gI o_me_8 13).toInt := by rw [eo256]; rfl
                            have ko256_k258 : (gI o256 14).toInt = (gI o_me_8 14).toInt := by rw [eo256]; rfl
                            have ko256_k259 : (gI o256 15).toInt = (gI o_me_8 15).toInt := by rw [eo256]; rfl
                            have ko256_k260 : (gI o256 16).toInt = (gI o_me_8 16).toInt := by rw [eo256]; rfl
                            have ko256_v : (gL o256 17).toInt = w255.toInt := by rw [eo256]; rfl
                            have hkpo256 : Kp [1, 8, 11, 13, 18, 19, 20, 21, 23, 26, 29, 34, 38, 43, 56, 57, 58, 59, 62] [2, 3, 4, 5, 7, 10, 12, 22, 24, 25, 27, 28, 42, 48, 50, 51, 55, 61] [(0, 1), (1, 2), (29, 36), (36, 64), (64, 71)] o_me o256 := hkp_me_8.trans (by rw [eo256]; exact Kp.sL)
                            have t261 : ((gI o256 15) + (1 : Int32)).toInt = (gI o256 15).toInt + 1 := i32_add rfl (by decide) (by omega) (by omega)
                            refine wp_lt (fun o262 eo262 => ?_)
                            have hIo262 : IvX9 o262 := by rw [eo262]; exact ipX9_15 hIo256 ⟨by omega, by omega⟩
                            have ko262_k263 : (gI o262 13).toInt = (gI o256 13).toInt := by rw [eo262]; rfl
                            have ko262_k264 : (gI o262 14).toInt = (gI o256 14).toInt := by rw [eo262]; rfl
                            have ko262_k265 : (gI o262 16).toInt = (gI o256 16).toInt := by rw [eo262]; rfl
                            have ko262_k266 : (gL o262 17).toInt = (gL o256 17).toInt := by rw [eo262]; rfl
                            have ko262_v : (gI o262 15).toInt = ((gI o256 15) + (1 : Int32)).toInt := by rw [eo262]; rfl
                            have hkpo262 : Kp [1, 8, 11, 13, 18, 19, 20, 21, 23, 26, 29, 34, 38, 43, 56, 57, 58, 59, 62] [2, 3, 4, 5, 7, 10, 12, 22, 24, 25, 27, 28, 42, 48, 50, 51, 55, 61] [(0, 1), (1, 2), (29, 36), (36, 64), (64, 71)] o_me o262 := hkpo256.trans (by rw [eo262]; exact Kp.sI (by decide))
                            exact ih8 o262 hIo262 hkpo262 ⟨by omega, by omega⟩ ⟨by omega, by omega⟩ ⟨by omega, by omega⟩ ⟨by omega, by omega⟩ (by omega) (by omega) (by omega) (by omega)
                          · have c254 := cv_nge (a := ((gI o_me_8 15) - (gI o_me_8 14)).toInt) (b := 10) rfl (by decide) c254
                            refine wp_gd (zin_of (m := 400) rfl (by omega) (by omega)) ?_
                            have rg267 := i32_rg (gA o_me_8 12 (gI o_me_8 15).toNatClampNeg)
                            have t268 : ((gA o_me_8 12 (gI o_me_8 15).toNatClampNeg).toInt64).toInt = (gA o_me_8 12 (gI o_me_8 15).toNatClampNeg).toInt := Int32.toInt_toInt64 _
                            obtain ⟨w269, ew269⟩ : ∃ z : Int64, z = (((gL o_me_8 17) * (32 : Int64)) + ((gA o_me_8 12 (gI o_me_8 15).toNatClampNeg).toInt64)) - (96 : Int64) := ⟨_, rfl⟩
                            have tw269 : w269.toInt = ((((gL o_me_8 17) * (32 : Int64)) + ((gA o_me_8 12 (gI o_me_8 15).toNatClampNeg).toInt64)) - (96 : Int64)).toInt := by rw [ew269]
                            rw [show bk_X9_next_227  (lp_X9_next_149   N8) ((((gL o_me_8 17) * (32 : Int64)) + ((gA o_me_8 12 (gI o_me_8 15).toNatClampNeg).toInt64)) - (96 : Int64)) o_me_8 = bk_X9_next_227  (lp_X9_next_149   N8) w269 o_me_8 from by rw [ew269]]
                            unfold bk_X9_next_227
                            refine wp_lt (fun o270 eo270 => ?_)
                            have hIo270 : IvX9 o270 := by rw [eo270]; exact hI_me_8
                            have ko270_k271 : (gA o270 12 (gI o_me_8 15).toNatClampNeg).toInt = (gA o_me_8 12 (gI o_me_8 15).toNatClampNeg).toInt := by rw [eo270]; rfl
                            have ko270_k272 : (gI o270 13).toInt = (gI o_me_8 13).toInt := by rw [eo270]; rfl
                            have ko270_k273 : (gI o270 14).toInt = (gI o_me_8 14).toInt := by rw [eo270]; rfl
                            have ko270_k274 : (gI o270 15).toInt = (gI o_me_8 15).toInt := by rw [eo270]; rfl
                            have ko270_k275 : (gI o270 16).toInt = (gI o_me_8 16).toInt := by rw [eo270]; rfl
                            have ko270_v : (gL o270 17).toInt = w269.toInt := by rw [eo270]; rfl
                            have hkpo270 : Kp [1, 8, 11, 13, 18, 19, 20, 21, 23, 26, 29, 34, 38, 43, 56, 57, 58, 59, 62] [2, 3, 4, 5, 7, 10, 12, 22, 24, 25, 27, 28, 42, 48, 50, 51, 55, 61] [(0, 1), (1, 2), (29, 36), (36, 64), (64, 71)] o_me o270 := hkp_me_8.trans (by rw [eo270]; exact Kp.sL)
                            have t276 : ((gI o270 15) + (1 : Int32)).toInt = (gI o270 15).toInt + 1 := i32_add rfl (by decide) (by omega) (by omega)
                            refine wp_lt (fun o277 eo277 => ?_)
                            have hIo277 : IvX9 o277 := by rw [eo277]; exact ipX9_15 hIo270 ⟨by omega, by omega⟩
                            have ko277_k278 : (gA o277 12 (gI o_me_8 15).toNatClampNeg).toInt = (gA o270 12 (gI o_me_8 15).toNatClampNeg).toInt := by rw [eo277]; rfl
                            have ko277_k279 : (gI o277 13).toInt = (gI o270 13).toInt := by rw [eo277]; rfl
                            have ko277_k280 : (gI o277 14).toInt = (gI o270 14).toInt := by rw [eo277]; rfl
                            have ko277_k281 : (gI o277 16).toInt = (gI o270 16).toInt := by rw [eo277]; rfl
                            have ko277_k282 : (gL o277 17).toInt = (gL o270 17).toInt := by rw [eo277]; rfl
                            have ko277_v : (gI o277 15).toInt = ((gI o270 15) + (1 : Int32)).toInt := by rw [eo277]; rfl
                            have hkpo277 : Kp [1, 8, 11, 13, 18, 19, 20, 21, 23, 26, 29, 34, 38, 43, 56, 57, 58, 59, 62] [2, 3, 4, 5, 7, 10, 12, 22, 24, 25, 27, 28, 42, 48, 50, 51, 55, 61] [(0, 1), (1, 2), (29, 36), (36, 64), (64, 71)] o_me o277 := hkpo270.trans (by rw [eo277]; exact Kp.sI (by decide))
                            exact ih8 o277 hIo277 hkpo277 ⟨by omega, by omega⟩ ⟨by omega, by omega⟩ ⟨by omega, by omega⟩ ⟨by omega, by omega⟩ (by omega) (by omega) (by omega) (by omega)
                    · have c224 := cv_ne (a := (gI o_me_8 16).toInt) (b := 1) rfl (by decide) c224
                      exfalso; omega
                exact lp8 zfu o206 hIo206 hkpo206 ⟨by omega, by omega⟩ ⟨by omega, by omega⟩ ⟨by omega, by omega⟩ ⟨by omega, by omega⟩ (by omega) (by omega) (by omega) (by show _ < 100000; omega)
  exact lp1 zfu o2 hIo2 hkpo2 ⟨by omega, by omega⟩ ⟨by omega, by omega⟩ ⟨by omega, by omega⟩ ⟨by omega, by omega⟩ (by omega) (by omega) (by omega) (by show _ < 100000; omega)

set_option maxHeartbeats 4000000 in
set_option maxRecDepth 100000 in
theorem s_X9_begin (o_me : Ob) (hI_me : IvX9 o_me)  : wp (f_X9_begin   o_me) (fun (y : Ob) => IvX9 y ∧ Kp [1, 8, 11, 13, 20, 21, 23, 26, 29, 34, 38, 43, 56, 57, 58, 59, 62] [2, 3, 4, 5, 7, 10, 12, 22, 24, 25, 27, 28, 42, 48, 50, 51, 55, 61] [(0, 1), (1, 2), (29, 36), (36, 64), (64, 71)] o_me y ∧ ((gI y 15).toInt ≤ (gI y 13).toInt + 0)) := by
  have li0 : (-1 : Int32).toInt = (-1) := by decide
  have li1 : (0 : Int32).toInt = 0 := by decide
  unfold f_X9_begin
  refine wp_lt (fun o1 eo1 => ?_)
  have hIo1 : IvX9 o1 := by rw [eo1]; exact ipX9_15 hI_me ⟨by decide, by decide⟩
  have ko1_v : (gI o1 15).toInt = 0 := by rw [eo1]; exact (show ((0 : Int32)).toInt = _ from by decide)
  have hkpo1 : Kp [1, 8, 11, 13, 20, 21, 23, 26, 29, 34, 38, 43, 56, 57, 58, 59, 62] [2, 3, 4, 5, 7, 10, 12, 22, 24, 25, 27, 28, 42, 48, 50, 51, 55, 61] [(0, 1), (1, 2), (29, 36), (36, 64), (64, 71)] o_me o1 := Kp.rf.trans (by rw [eo1]; exact Kp.sI (by decide))
  refine wp_lt (fun o2 eo2 => ?_)
  have hIo2 : IvX9 o2 := by rw [eo2]; exact ipX9_19 hIo1 ⟨by decide, by decide⟩
  have ko2_k3 : (gI o2 15).toInt = (gI o1 15).toInt := by rw [eo2]; rfl
  have ko2_v : (gI o2 19).toInt = 0 := by rw [eo2]; exact (show ((0 : Int32)).toInt = _ from by decide)
  have hkpo2 : Kp [1, 8, 11, 13, 20, 21, 23, 26, 29, 34, 38, 43, 56, 57, 58, 59, 62] [2, 3, 4, 5, 7, 10, 12, 22, 24, 25, 27, 28, 42, 48, 50, 51, 55, 61] [(0, 1), (1, 2), (29, 36), (36, 64), (64, 71)] o_me o2 := hkpo1.trans (by rw [eo2]; exact Kp.sI (by decide))
  refine wp_lt (fun o4 eo4 => ?_)
  have hIo4 : IvX9 o4 := by rw [eo4]; exact hIo2
  have ko4_k5 : (gI o4 15).toInt = (gI o2 15).toInt := by rw [eo4]; rfl
  have ko4_k6 : (gI o4 19).toInt = (gI o2 19).toInt := by rw [eo4]; rfl
  have ko4_v : (gI o4 18).toInt = (-1) := by rw [eo4]; exact (show ((-1 : Int32)).toInt = _ from by decide)
  have hkpo4 : Kp [1, 8, 11, 13, 20, 21, 23, 26, 29, 34, 38, 43, 56, 57, 58, 59, 62] [2, 3, 4, 5, 7, 10, 12, 22, 24, 25, 27, 28, 42, 48, 50, 51, 55, 61] [(0, 1), (1, 2), (29, 36), (36, 64), (64, 71)] o_me o4 := hkpo2.trans (by rw [eo4]; exact Kp.sI (by decide))
  have t8 := igX9_13 hIo4
  refine wp_bd (s_X9_next   o4  hIo4  (by omega)) (fun z7 hz7 => ?_)
  obtain ⟨hz7_0, hz7_1, hz7_2⟩ := hz7
  have hkpz7_me : Kp [1, 8, 11, 13, 20, 21, 23, 26, 29, 34, 38, 43, 56, 57, 58, 59, 62] [2, 3, 4, 5, 7, 10, 12, 22, 24, 25, 27, 28, 42, 48, 50, 51, 55, 61] [(0, 1), (1, 2), (29, 36), (36, 64), (64, 71)] o_me z7 := hkpo4.trans (hz7_1.mono (by decide) (by decide) (by decide))
  have kz7_k9 : (gI z7 13).toInt = (gI o4 13).toInt := congrArg Int32.toInt (hz7_1.1 13 (by decide))
  have kz7_k10 : (gI z7 18).toInt = (gI o4 18).toInt := congrArg Int32.toInt (hz7_1.1 18 (by decide))
  have kz7_k11 : (gI z7 19).toInt = (gI o4 19).toInt := congrArg Int32.toInt (hz7_1.1 19 (by decide))
  refine wp_some ?_
  have t12 := igX9_15 hz7_0
  exact (show IvX9 z7 ∧ Kp [1, 8, 11, 13, 20, 21, 23, 26, 29, 34, 38, 43, 56, 57, 58, 59, 62] [2, 3, 4, 5, 7, 10, 12, 22, 24, 25, 27, 28, 42, 48, 50, 51, 55, 61] [(0, 1), (1, 2), (29, 36), (36, 64), (64, 71)] o_me z7 ∧ ((gI z7 15).toInt ≤ (gI z7 13).toInt + 0) from ⟨hz7_0, hkpz7_me, (by omega)⟩)

set_option maxHeartbeats 4000000 in
set_option maxRecDepth 100000 in
theorem s_X9_beginText (o_me : Ob) (p0 : Int32) (hI_me : IvX9 o_me) (q0 : 0 ≤ p0.toInt ∧ p0.toInt ≤ 1) : wp (f_X9_beginText   o_me p0) (fun (y : Ob) => IvX9 y ∧ Kp [1, 8, 11, 13, 29, 34, 38, 43, 56, 57, 58, 59, 62] [2, 3, 4, 5, 7, 10, 12, 22, 24, 25, 27, 28, 42, 48, 50, 51, 55, 61] [(0, 1), (1, 2), (29, 36), (36, 64), (64, 71)] o_me y ∧ ((gI y 15).toInt ≤ (gI y 13).toInt + 0)) := by
  have li0 : (0 : Int32).toInt = 0 := by decide
  unfold f_X9_beginText
  refine wp_gd (zbo_of (by omega) (by omega)) ?_
  refine wp_lt (fun o1 eo1 => ?_)
  have hIo1 : IvX9 o1 := by rw [eo1]; exact ipX9_20 hI_me ⟨by omega, by omega⟩
  have ko1_v : (gI o1 20).toInt = p0.toInt := by rw [eo1]; rfl
  have hkpo1 : Kp [1, 8, 11, 13, 29, 34, 38, 43, 56, 57, 58, 59, 62] [2, 3, 4, 5, 7, 10, 12, 22, 24, 25, 27, 28, 42, 48, 50, 51, 55, 61] [(0, 1), (1, 2), (29, 36), (36, 64), (64, 71)] o_me o1 := Kp.rf.trans (by rw [eo1]; exact Kp.sI (by decide))
  refine wp_bd (s_X9_begin   o1  hIo1  ) (fun z2 hz2 => ?_)
  obtain ⟨hz2_0, hz2_1, hz2_2⟩ := hz2
  have hkpz2_me : Kp [1, 8, 11, 13, 29, 34, 38, 43, 56, 57, 58, 59, 62] [2, 3, 4, 5, 7, 10, 12, 22, 24, 25, 27, 28, 42, 48, 50, 51, 55, 61] [(0, 1), (1, 2), (29, 36), (36, 64), (64, 71)] o_me z2 := hkpo1.trans (hz2_1.mono (by decide) (by decide) (by decide))
  have kz2_k3 : (gI z2 20).toInt = (gI o1 20).toInt := congrArg Int32.toInt (hz2_1.1 20 (by decide))
  refine wp_lt (fun o4 eo4 => ?_)
  have hIo4 : IvX9 o4 := by rw [eo4]; exact ipX9_21 hz2_0 ⟨by decide, by decide⟩
  have ko4_k5 : (gI o4 13).toInt = (gI z2 13).toInt := by rw [eo4]; rfl
  have ko4_k6 : (gI o4 15).toInt = (gI z2 15).toInt := by rw [eo4]; rfl
  have ko4_k7 : (gI o4 20).toInt = (gI z2 20).toInt := by rw [eo4]; rfl
  have ko4_v : (gI o4 21).toInt = 0 := by rw [eo4]; exact (show ((0 : Int32)).toInt = _ from by decide)
  have hkpo4 : Kp [1, 8, 11, 13, 29, 34, 38, 43, 56, 57, 58, 59, 62] [2, 3, 4, 5, 7, 10, 12, 22, 24, 25, 27, 28, 42, 48, 50, 51, 55, 61] [(0, 1), (1, 2), (29, 36), (36, 64), (64, 71)] o_me o4 := hkpz2_me.trans (by rw [eo4]; exact Kp.sI (by decide))
  refine wp_lt (fun o8 eo8 => ?_)
  have hIo8 : IvX9 o8 := by rw [eo8]; exact ipX9_23 hIo4 ⟨by decide, by decide⟩
  have ko8_k9 : (gI o8 13).toInt = (gI o4 13).toInt := by rw [eo8]; rfl
  have ko8_k10 : (gI o8 15).toInt = (gI o4 15).toInt := by rw [eo8]; rfl
  have ko8_k11 : (gI o8 20).toInt = (gI o4 20).toInt := by rw [eo8]; rfl
  have ko8_k12 : (gI o8 21).toInt = (gI o4 21).toInt := by rw [eo8]; rfl
  have ko8_v : (gI o8 23).toInt = 0 := by rw [eo8]; exact (show ((0 : Int32)).toInt = _ from by decide)
  have hkpo8 : Kp [1, 8, 11, 13, 29, 34, 38, 43, 56, 57, 58, 59, 62] [2, 3, 4, 5, 7, 10, 12, 22, 24, 25, 27, 28, 42, 48, 50, 51, 55, 61] [(0, 1), (1, 2), (29, 36), (36, 64), (64, 71)] o_me o8 := hkpo4.trans (by rw [eo8]; exact Kp.sI (by decide))
  refine wp_lt (fun o13 eo13 => ?_)
  have hIo13 : IvX9 o13 := by rw [eo13]; exact ipX9_26 hIo8 ⟨by decide, by decide⟩
  have ko13_k14 : (gI o13 13).toInt = (gI o8 13).toInt := by rw [eo13]; rfl
  have ko13_k15 : (gI o13 15).toInt = (gI o8 15).toInt := by rw [eo13]; rfl
  have ko13_k16 : (gI o13 20).toInt = (gI o8 20).toInt := by rw [eo13]; rfl
  have ko13_k17 : (gI o13 21).toInt = (gI o8 21).toInt := by rw [eo13]; rfl
  have ko13_k18 : (gI o13 23).toInt = (gI o8 23).toInt := by rw [eo13]; rfl
  have ko13_v : (gI o13 26).toInt = 0 := by rw [eo13]; exact (show ((0 : Int32)).toInt = _ from by decide)
  have hkpo13 : Kp [1, 8, 11, 13, 29, 34, 38, 43, 56, 57, 58, 59, 62] [2, 3, 4, 5, 7, 10, 12, 22, 24, 25, 27, 28, 42, 48, 50, 51, 55, 61] [(0, 1), (1, 2), (29, 36), (36, 64), (64, 71)] o_me o13 := hkpo8.trans (by rw [eo13]; exact Kp.sI (by decide))
  refine wp_some ?_
  have t19 := igX9_15 hIo13
  have t20 := igX9_13 hIo13
  exact (show IvX9 o13 ∧ Kp [1, 8, 11, 13, 29, 34, 38, 43, 56, 57, 58, 59, 62] [2, 3, 4, 5, 7, 10, 12, 22, 24, 25, 27, 28, 42, 48, 50, 51, 55, 61] [(0, 1), (1, 2), (29, 36), (36, 64), (64, 71)] o_me o13 ∧ ((gI o13 15).toInt ≤ (gI o13 13).toInt + 0) from ⟨hIo13, hkpo13, (by omega)⟩)

set_option maxHeartbeats 4000000 in
set_option maxRecDepth 100000 in
theorem s_X9_isSign (o_me : Ob) (p0 : Int32) (hI_me : IvX9 o_me)  : wp (f_X9_isSign   o_me p0) (fun (y : Int32) => (0 ≤ y.toInt ∧ y.toInt ≤ 1)) := by
  have li0 : (0 : Int32).toInt = 0 := by decide
  have li1 : (1 : Int32).toInt = 1 := by decide
  have li2 : (3 : Int32).toInt = 3 := by decide
  unfold f_X9_isSign
  have t1 := igX9_16 hI_me
  refine wp_if (fun c2 => ?_) (fun c2 => ?_)
  · have c2 := cv_eq (a := (gI o_me 16).toInt) (b := 3) rfl (by decide) c2
    have rg3 := i32_rg p0
    have t4 : p0.toInt64.toInt = p0.toInt := Int32.toInt_toInt64 _
    refine wp_if (fun c5 => ?_) (fun c5 => ?_)
    · have c5 := cvl_eq (a := (gL o_me 17).toInt) (b := p0.toInt64.toInt) rfl rfl c5
      refine wp_some ?_
      exact (show (0 ≤ (1 : Int32).toInt ∧ (1 : Int32).toInt ≤ 1) from ⟨by decide, by decide⟩)
    · have c5 := cvl_ne (a := (gL o_me 17).toInt) (b := p0.toInt64.toInt) rfl rfl c5
      refine wp_some ?_
      exact (show (0 ≤ (0 : Int32).toInt ∧ (0 : Int32).toInt ≤ 1) from ⟨by decide, by decide⟩)
  · have c2 := cv_ne (a := (gI o_me 16).toInt) (b := 3) rfl (by decide) c2
    refine wp_some ?_
    exact (show (0 ≤ (0 : Int32).toInt ∧ (0 : Int32).toInt ≤ 1) from ⟨by decide, by decide⟩)

set_option maxHeartbeats 4000000 in
set_option maxRecDepth 100000 in
theorem s_X9_inner (o_me : Ob) (hI_me : IvX9 o_me)  : wp (f_X9_inner   o_me) (fun (y : Int32) => ((-1) ≤ y.toInt ∧ y.toInt ≤ 2147483647)) := by
  have li0 : (-1 : Int32).toInt = (-1) := by decide
  have li1 : (0 : Int32).toInt = 0 := by decide
  have li2 : (31 : Int32).toInt = 31 := by decide
  unfold f_X9_inner
  have lp1 : ∀ (N1 : Nat) (v1_1 : Int32) (v2_1 : Int32), ((-1) ≤ v1_1.toInt ∧ v1_1.toInt ≤ 2147483647) → (0 ≤ v2_1.toInt ∧ v2_1.toInt ≤ 400) → (400 - v2_1.toInt).toNat < N1 → wp (lp_X9_inner_4 o_me  N1 (v1_1, v2_1)) (fun (y : Int32) => ((-1) ≤ y.toInt ∧ y.toInt ≤ 2147483647)) := by
    intro N1
    induction N1 with
    | zero =>
      intro v1_1 v2_1 hh1 hh2 hN1
      exact absurd hN1 (Nat.not_lt_zero _)
    | succ N1 ihx =>
      have ih1 := ihx
      intro v1_1 v2_1 hh1 hh2 hN1
      show wp (lb_X9_inner_4 o_me  (lp_X9_inner_4 o_me  N1) v1_1 v2_1) (fun (y : Int32) => ((-1) ≤ y.toInt ∧ y.toInt ≤ 2147483647))
      unfold lb_X9_inner_4
      have t3 := igX9_29 hI_me
      refine wp_if (fun c4 => ?_) (fun c4 => ?_)
      · have c4 := cv_ge (a := v2_1.toInt) (b := (gI o_me 29).toInt) rfl rfl c4
        refine wp_some ?_
        have rg5 := i32_rg v1_1
        exact (show ((-1) ≤ v1_1.toInt ∧ v1_1.toInt ≤ 2147483647) from ⟨by omega, by omega⟩)
      · have c4 := cv_nge (a := v2_1.toInt) (b := (gI o_me 29).toInt) rfl rfl c4
        refine wp_gd (zin_of (m := 400) rfl (by omega) (by omega)) ?_
        refine wp_if (fun c6 => ?_) (fun c6 => ?_)
        · have c6 := cv_lt (a := (gA o_me 27 v2_1.toNatClampNeg).toInt) (b := 31) rfl (by decide) c6
          unfold bk_X9_inner_33
          refine wp_lt (fun x7 ex7 => ?_)
          have tx7 : x7.toInt = v2_1.toInt + 1 := by rw [ex7]; exact i32_add rfl (by decide) (by omega) (by omega)
          have rg8 := i32_rg v1_1
          exact ih1 v1_1 x7  ⟨by omega, by omega⟩ ⟨by omega, by omega⟩ (by omega)
        · have c6 := cv_nlt (a := (gA o_me 27 v2_1.toNatClampNeg).toInt) (b := 31) rfl (by decide) c6
          refine wp_gd (zin_of (m := 400) rfl (by omega) (by omega)) ?_
          obtain ⟨w9, ew9⟩ : ∃ z : Int32, z = gA o_me 27 v2_1.toNatClampNeg := ⟨_, rfl⟩
          have tw9 : w9.toInt = (gA o_me 27 v2_1.toNatClampNeg).toInt := by rw [ew9]
          rw [show bk_X9_inner_33 o_me (lp_X9_inner_4 o_me  N1) v2_1 (gA o_me 27 v2_1.toNatClampNeg) = bk_X9_inner_33 o_me (lp_X9_inner_4 o_me  N1) v2_1 w9 from by rw [ew9]]
          unfold bk_X9_inner_33
          refine wp_lt (fun x10 ex10 => ?_)
          have tx10 : x10.toInt = v2_1.toInt + 1 := by rw [ex10]; exact i32_add rfl (by decide) (by omega) (by omega)
          have rg11 := i32_rg w9
          exact ih1 w9 x10  ⟨by omega, by omega⟩ ⟨by omega, by omega⟩ (by omega)
  exact lp1 zfu (-1 : Int32) (0 : Int32)  ⟨by decide, by decide⟩ ⟨by decide, by decide⟩ (by show _ < 100000; omega)

set_option maxHeartbeats 4000000 in
set_option maxRecDepth 100000 in
theorem s_X9_isCompared (o_me : Ob) (hI_me : IvX9 o_me)  : wp (f_X9_isCompared   o_me) (fun (y : Int32) => (0 ≤ y.toInt ∧ y.toInt ≤ 1)) := by
  have li0 : (0 : Int32).toInt = 0 := by decide
  have li1 : (1 : Int32).toInt = 1 := by decide
  have li2 : (20 : Int64).toInt = 20 := by decide
  have li3 : (24 : Int64).toInt = 24 := by decide
  have li4 : (25 : Int64).toInt = 25 := by decide
  have li5 : (27 : Int64).toInt = 27 := by decide
  unfold f_X9_isCompared
  have t1 := igX9_29 hI_me
  have t2 : ((gI o_me 29) - (1 : Int32)).toInt = (gI o_me 29).toInt - 1 := i32_sub rfl (by decide) (by omega) (by omega)
  refine wp_lt (fun x3 ex3 => ?_)
  have tx3 : x3.toInt = ((gI o_me 29) - (1 : Int32)).toInt := by rw [ex3]
  have lp1 : ∀ (N1 : Nat) (v1_1 : Int32), ((-1) ≤ v1_1.toInt ∧ v1_1.toInt ≤ 399) → (v1_1.toInt ≤ (gI o_me 29).toInt + (-1)) → (v1_1.toInt ≤ x3.toInt + 0) → (v1_1.toInt - (-1)).toNat < N1 → wp (lp_X9_isCompared_7 o_me  N1 v1_1) (fun (y : Int32) => (0 ≤ y.toInt ∧ y.toInt ≤ 1)) := by
    intro N1
    induction N1 with
    | zero =>
      intro v1_1 hh4 hh5 hh6 hN1
      exact absurd hN1 (Nat.not_lt_zero _)
    | succ N1 ihx =>
      have ih1 := ihx
      intro v1_1 hh4 hh5 hh6 hN1
      show wp (lb_X9_isCompared_7 o_me  (lp_X9_isCompared_7 o_me  N1) v1_1) (fun (y : Int32) => (0 ≤ y.toInt ∧ y.toInt ≤ 1))
      unfold lb_X9_isCompared_7
      refine wp_if (fun c7 => ?_) (fun c7 => ?_)
      · have c7 := cv_lt (a := v1_1.toInt) (b := 0) rfl (by decide) c7
        unfold bk_X9_isCompared_36
        refine wp_if (fun c8 => ?_) (fun c8 => ?_)
        · have c8 := cv_lt (a := v1_1.toInt) (b := 0) rfl (by decide) c8
          refine wp_some ?_
          exact (show (0 ≤ (0 : Int32).toInt ∧ (0 : Int32).toInt ≤ 1) from ⟨by decide, by decide⟩)
        · have c8 := cv_nlt (a := v1_1.toInt) (b := 0) rfl (by decide) c8
          exfalso; omega
      · have c7 := cv_nlt (a := v1_1.toInt) (b := 0) rfl (by decide) c7
        refine wp_gd (zin_of (m := 400) rfl (by omega) (by omega)) ?_
        have rg9 := i32_rg (gA o_me 27 v1_1.toNatClampNeg)
        have t10 : ((gA o_me 27 v1_1.toNatClampNeg).toInt64).toInt = (gA o_me 27 v1_1.toNatClampNeg).toInt := Int32.toInt_toInt64 _
        refine wp_bd (s_X9_in   ((gA o_me 27 v1_1.toNatClampNeg).toInt64) (20 : Int64) (24 : Int64)    ) (fun z11 hz11 => ?_)
        obtain ⟨hz11_0, hz11_1⟩ := hz11
        refine wp_if (fun c12 => ?_) (fun c12 => ?_)
        · have c12 := cv_eq (a := z11.toInt) (b := 0) rfl (by decide) c12
          unfold bk_X9_isCompared_36
          refine wp_if (fun c13 => ?_) (fun c13 => ?_)
          · have c13 := cv_lt (a := v1_1.toInt) (b := 0) rfl (by decide) c13
            exfalso; omega
          · have c13 := cv_nlt (a := v1_1.toInt) (b := 0) rfl (by decide) c13
            refine wp_gd (zin_of (m := 400) rfl (by omega) (by omega)) ?_
            have t14 : ((gA o_me 27 v1_1.toNatClampNeg).toInt64).toInt = (gA o_me 27 v1_1.toNatClampNeg).toInt := Int32.toInt_toInt64 _
            refine wp_bd (s_X9_in   ((gA o_me 27 v1_1.toNatClampNeg).toInt64) (25 : Int64) (27 : Int64)    ) (fun z15 hz15 => ?_)
            obtain ⟨hz15_0, hz15_1⟩ := hz15
            refine wp_if (fun c16 => ?_) (fun c16 => ?_)
            · have c16 := cv_eq (a := z15.toInt) (b := 0) rfl (by decide) c16
              refine wp_some ?_
              exact (show (0 ≤ (0 : Int32).toInt ∧ (0 : Int32).toInt ≤ 1) from ⟨by decide, by decide⟩)
            · have c16z := c16
              have c16i := hz15_1 c16
              have c16 := cv_ne (a := z15.toInt) (b := 0) rfl (by decide) c16
              refine wp_some ?_
              exact (show (0 ≤ (1 : Int32).toInt ∧ (1 : Int32).toInt ≤ 1) from ⟨by decide, by decide⟩)
        · have c12z := c12
          have c12i := hz11_1 c12
          have c12 := cv_ne (a := z11.toInt) (b := 0) rfl (by decide) c12
          refine wp_lt (fun x17 ex17 => ?_)
          have tx17 : x17.toInt = v1_1.toInt + (-1) := by rw [ex17]; exact i32_add rfl (by decide) (by omega) (by omega)
          exact ih1 x17  ⟨by omega, by omega⟩ (by omega) (by omega) (by omega)
  exact lp1 zfu x3  ⟨by omega, by omega⟩ (by omega) (by omega) (by show _ < 100000; omega)

set_option maxHeartbeats 4000000 in
set_option maxRecDepth 100000 in
theorem s_X9_must (o_me : Ob) (p0 : Int32) (hI_me : IvX9 o_me) (q0 : 0 ≤ p0.toInt ∧ p0.toInt ≤ 1) (r0 : (gI o_me 15).toInt ≤ (gI o_me 13).toInt + 0) : wp (f_X9_must   o_me p0) (fun (y : Ob) => IvX9 y ∧ Kp [1, 8, 11, 13, 20, 21, 23, 26, 29, 34, 38, 43, 56, 57, 58, 59, 62] [2, 3, 4, 5, 7, 10, 12, 22, 24, 25, 27, 28, 42, 48, 50, 51, 55, 61] [(0, 1), (1, 2), (29, 36), (36, 64), (64, 71)] o_me y ∧ ((gI y 15).toInt ≤ (gI y 13).toInt + 0)) := by
  have li0 : (1 : Int32).toInt = 1 := by decide
  unfold f_X9_must
  have t1 := igX9_19 hI_me
  refine wp_if (fun c2 => ?_) (fun c2 => ?_)
  · have c2 := cv_eq (a := (gI o_me 19).toInt) (b := 0) rfl (by decide) c2
    refine wp_if (fun c3 => ?_) (fun c3 => ?_)
    · have c3 := cv_eq (a := p0.toInt) (b := 0) rfl (by decide) c3
      refine wp_lt (fun o4 eo4 => ?_)
      have hIo4 : IvX9 o4 := by rw [eo4]; exact ipX9_19 hI_me ⟨by decide, by decide⟩
      have ko4_k5 : (gI o4 13).toInt = (gI o_me 13).toInt := by rw [eo4]; rfl
      have ko4_k6 : (gI o4 15).toInt = (gI o_me 15).toInt := by rw [eo4]; rfl
      have ko4_v : (gI o4 19).toInt = 1 := by rw [eo4]; exact (show ((1 : Int32)).toInt = _ from by decide)
      have hkpo4 : Kp [1, 8, 11, 13, 20, 21, 23, 26, 29, 34, 38, 43, 56, 57, 58, 59, 62] [2, 3, 4, 5, 7, 10, 12, 22, 24, 25, 27, 28, 42, 48, 50, 51, 55, 61] [(0, 1), (1, 2), (29, 36), (36, 64), (64, 71)] o_me o4 := Kp.rf.trans (by rw [eo4]; exact Kp.sI (by decide))
      have t7 := igX9_14 hIo4
      refine wp_lt (fun o8 eo8 => ?_)
      have hIo8 : IvX9 o8 := by rw [eo8]; exact hIo4
      have ko8_k9 : (gI o8 13).toInt = (gI o4 13).toInt := by rw [eo8]; rfl
      have ko8_k10 : (gI o8 14).toInt = (gI o4 14).toInt := by rw [eo8]; rfl
      have ko8_k11 : (gI o8 15).toInt = (gI o4 15).toInt := by rw [eo8]; rfl
      have ko8_k12 : (gI o8 19).toInt = (gI o4 19).toInt := by rw [eo8]; rfl
      have ko8_v : (gI o8 18).toInt = (gI o4 14).toInt := by rw [eo8]; rfl
      have hkpo8 : Kp [1, 8, 11, 13, 20, 21, 23, 26, 29, 34, 38, 43, 56, 57, 58, 59, 62] [2, 3, 4, 5, 7, 10, 12, 22, 24, 25, 27, 28, 42, 48, 50, 51, 55, 61] [(0, 1), (1, 2), (29, 36), (36, 64), (64, 71)] o_me o8 := hkpo4.trans (by rw [eo8]; exact Kp.sI (by decide))
      unfold bk_X9_must_24
      refine wp_if (fun c13 => ?_) (fun c13 => ?_)
      · have c13 := cv_eq (a := (gI o8 19).toInt) (b := 0) rfl (by decide) c13
        exfalso; omega
      · have c13z := c13
        have c13 := cv_ne (a := (gI o8 19).toInt) (b := 0) rfl (by decide) c13
        refine wp_some ?_
        have t14 := igX9_15 hIo8
        have t15 := igX9_13 hIo8
        exact (show IvX9 o8 ∧ Kp [1, 8, 11, 13, 20, 21, 23, 26, 29, 34, 38, 43, 56, 57, 58, 59, 62] [2, 3, 4, 5, 7, 10, 12, 22, 24, 25, 27, 28, 42, 48, 50, 51, 55, 61] [(0, 1), (1, 2), (29, 36), (36, 64), (64, 71)] o_me o8 ∧ ((gI o8 15).toInt ≤ (gI o8 13).toInt + 0) from ⟨hIo8, hkpo8, (by omega)⟩)
    · have c3z := c3
      have c3 := cv_ne (a := p0.toInt) (b := 0) rfl (by decide) c3
      unfold bk_X9_must_24
      refine wp_if (fun c16 => ?_) (fun c16 => ?_)
      · have c16 := cv_eq (a := (gI o_me 19).toInt) (b := 0) rfl (by decide) c16
        have t18 := igX9_15 hI_me
        have t19 := igX9_13 hI_me
        refine wp_bd (s_X9_next   o_me  hI_me  (by omega)) (fun z17 hz17 => ?_)
        obtain ⟨hz17_0, hz17_1, hz17_2⟩ := hz17
        have hkpz17_me : Kp [1, 8, 11, 13, 20, 21, 23, 26, 29, 34, 38, 43, 56, 57, 58, 59, 62] [2, 3, 4, 5, 7, 10, 12, 22, 24, 25, 27, 28, 42, 48, 50, 51, 55, 61] [(0, 1), (1, 2), (29, 36), (36, 64), (64, 71)] o_me z17 := Kp.rf.trans (hz17_1.mono (by decide) (by decide) (by decide))
        have kz17_k20 : (gI z17 13).toInt = (gI o_me 13).toInt := congrArg Int32.toInt (hz17_1.1 13 (by decide))
        have kz17_k21 : (gI z17 19).toInt = (gI o_me 19).toInt := congrArg Int32.toInt (hz17_1.1 19 (by decide))
        refine wp_some ?_
        have t22 := igX9_15 hz17_0
        exact (show IvX9 z17 ∧ Kp [1, 8, 11, 13, 20, 21, 23, 26, 29, 34, 38, 43, 56, 57, 58, 59, 62] [2, 3, 4, 5, 7, 10, 12, 22, 24, 25, 27, 28, 42, 48, 50, 51, 55, 61] [(0, 1), (1, 2), (29, 36), (36, 64), (64, 71)] o_me z17 ∧ ((gI z17 15).toInt ≤ (gI z17 13).toInt + 0) from ⟨hz17_0, hkpz17_me, (by omega)⟩)
      · have c16z := c16
        have c16 := cv_ne (a := (gI o_me 19).toInt) (b := 0) rfl (by decide) c16
        exfalso; omega
  · have c2z := c2
    have c2 := cv_ne (a := (gI o_me 19).toInt) (b := 0) rfl (by decide) c2
    unfold bk_X9_must_24
    refine wp_if (fun c23 => ?_) (fun c23 => ?_)
    · have c23 := cv_eq (a := (gI o_me 19).toInt) (b := 0) rfl (by decide) c23
      exfalso; omega
    · have c23z := c23
      have c23 := cv_ne (a := (gI o_me 19).toInt) (b := 0) rfl (by decide) c23
      refine wp_some ?_
      have t24 := igX9_15 hI_me
      have t25 := igX9_13 hI_me
      exact (show IvX9 o_me ∧ Kp [1, 8, 11, 13, 20, 21, 23, 26, 29, 34, 38, 43, 56, 57, 58, 59, 62] [2, 3, 4, 5, 7, 10, 12, 22, 24, 25, 27, 28, 42, 48, 50, 51, 55, 61] [(0, 1), (1, 2), (29, 36), (36, 64), (64, 71)] o_me o_me ∧ ((gI o_me 15).toInt ≤ (gI o_me 13).toInt + 0) from ⟨hI_me, Kp.rf, (by omega)⟩)

set_option maxHeartbeats 4000000 in
set_option maxRecDepth 100000 in
theorem s_X9_binds (p0 : Int32)   : wp (f_X9_binds   p0) (fun (y : Int32) => (0 ≤ y.toInt ∧ y.toInt ≤ 6)) := by
  have li0 : (0 : Int32).toInt = 0 := by decide
  have li1 : (1 : Int32).toInt = 1 := by decide
  have li2 : (2 : Int32).toInt = 2 := by decide
  have li3 : (22 : Int32).toInt = 22 := by decide
  have li4 : (25 : Int32).toInt = 25 := by decide
  have li5 : (28 : Int32).toInt = 28 := by decide
  have li6 : (29 : Int32).toInt = 29 := by decide
  have li7 : (3 : Int32).toInt = 3 := by decide
  have li8 : (30 : Int32).toInt = 30 := by decide
  have li9 : (31 : Int32).toInt = 31 := by decide
  have li10 : (4 : Int32).toInt = 4 := by decide
  have li11 : (5 : Int32).toInt = 5 := by decide
  have li12 : (6 : Int32).toInt = 6 := by decide
  unfold f_X9_binds
  refine wp_if (fun c1 => ?_) (fun c1 => ?_)
  · have c1 := cv_lt (a := p0.toInt) (b := 31) rfl (by decide) c1
    refine wp_if (fun c2 => ?_) (fun c2 => ?_)
    · have c2 := cv_eq (a := p0.toInt) (b := 30) rfl (by decide) c2
      refine wp_some ?_
      exact (show (0 ≤ (1 : Int32).toInt ∧ (1 : Int32).toInt ≤ 6) from ⟨by decide, by decide⟩)
    · have c2 := cv_ne (a := p0.toInt) (b := 30) rfl (by decide) c2
      refine wp_if (fun c3 => ?_) (fun c3 => ?_)
      · have c3 := cv_eq (a := p0.toInt) (b := 29) rfl (by decide) c3
        refine wp_some ?_
        exact (show (0 ≤ (2 : Int32).toInt ∧ (2 : Int32).toInt ≤ 6) from ⟨by decide, by decide⟩)
      · have c3 := cv_ne (a := p0.toInt) (b := 29) rfl (by decide) c3
        refine wp_if (fun c4 => ?_) (fun c4 => ?_)
        · have c4 := cv_eq (a := p0.toInt) (b := 28) rfl (by decide) c4
          refine wp_some ?_
          exact (show (0 ≤ (3 : Int32).toInt ∧ (3 : Int32).toInt ≤ 6) from ⟨by decide, by decide⟩)
        · have c4 := cv_ne (a := p0.toInt) (b := 28) rfl (by decide) c4
          refine wp_if (fun c5 => ?_) (fun c5 => ?_)
          · have c5 := cv_lt (a := p0.toInt) (b := 25) rfl (by decide) c5
            refine wp_if (fun c6 => ?_) (fun c6 => ?_)
            · have c6 := cv_lt (a := p0.toInt) (b := 22) rfl (by decide) c6
              refine wp_some ?_
              exact (show (0 ≤ (5 : Int32).toInt ∧ (5 : Int32).toInt ≤ 6) from ⟨by decide, by decide⟩)
            · have c6 := cv_nlt (a := p0.toInt) (b := 22) rfl (by decide) c6
              refine wp_some ?_
              exact (show (0 ≤ (6 : Int32).toInt ∧ (6 : Int32).toInt ≤ 6) from ⟨by decide, by decide⟩)
          · have c5 := cv_nlt (a := p0.toInt) (b := 25) rfl (by decide) c5
            refine wp_some ?_
            exact (show (0 ≤ (4 : Int32).toInt ∧ (4 : Int32).toInt ≤ 6) from ⟨by decide, by decide⟩)
  · have c1 := cv_nlt (a := p0.toInt) (b := 31) rfl (by decide) c1
    refine wp_some ?_
    exact (show (0 ≤ (0 : Int32).toInt ∧ (0 : Int32).toInt ≤ 6) from ⟨by decide, by decide⟩)

set_option maxHeartbeats 4000000 in
set_option maxRecDepth 100000 in
theorem s_X9_isWord (o_me : Ob) (p0 : Int64) (hI_me : IvX9 o_me)  : wp (f_X9_isWord   o_me p0) (fun (y : Int32) => (0 ≤ y.toInt ∧ y.toInt ≤ 1)) := by
  have li0 : (0 : Int32).toInt = 0 := by decide
  have li1 : (1 : Int32).toInt = 1 := by decide
  unfold f_X9_isWord
  have t1 := igX9_16 hI_me
  refine wp_if (fun c2 => ?_) (fun c2 => ?_)
  · have c2 := cv_eq (a := (gI o_me 16).toInt) (b := 1) rfl (by decide) c2
    refine wp_if (fun c3 => ?_) (fun c3 => ?_)
    · have c3 := cvl_eq (a := (gL o_me 17).toInt) (b := p0.toInt) rfl rfl c3
      refine wp_some ?_
      exact (show (0 ≤ (1 : Int32).toInt ∧ (1 : Int32).toInt ≤ 1) from ⟨by decide, by decide⟩)
    · have c3 := cvl_ne (a := (gL o_me 17).toInt) (b := p0.toInt) rfl rfl c3
      refine wp_some ?_
      exact (show (0 ≤ (0 : Int32).toInt ∧ (0 : Int32).toInt ≤ 1) from ⟨by decide, by decide⟩)
  · have c2 := cv_ne (a := (gI o_me 16).toInt) (b := 1) rfl (by decide) c2
    refine wp_some ?_
    exact (show (0 ≤ (0 : Int32).toInt ∧ (0 : Int32).toInt ≤ 1) from ⟨by decide, by decide⟩)

set_option maxHeartbeats 4000000 in
set_option maxRecDepth 100000 in
theorem s_X9_blots (o_me : Ob) (hI_me : IvX9 o_me)  : wp (f_X9_blots   o_me) (fun (y : Int32 × Ob) => IvX9 y.2 ∧ Kp [1, 8, 11, 13, 14, 15, 16, 18, 19, 20, 21, 23, 26, 29, 34, 38, 43, 56, 57, 58, 59, 62] [2, 3, 4, 5, 7, 10, 12, 22, 24, 25, 27, 28, 42, 48, 50, 51, 55, 61] [(0, 1), (1, 2), (29, 36), (36, 64), (64, 71)] o_me y.2) := by
  have li0 : (0 : Int32).toInt = 0 := by decide
  unfold f_X9_blots
  refine wp_lt (fun o1 eo1 => ?_)
  have hIo1 : IvX9 o1 := by rw [eo1]; exact hI_me
  have ko1_v : (gI o1 0).toInt = 0 := by rw [eo1]; exact (show ((0 : Int32)).toInt = _ from by decide)
  have hkpo1 : Kp [1, 8, 11, 13, 14, 15, 16, 18, 19, 20, 21, 23, 26, 29, 34, 38, 43, 56, 57, 58, 59, 62] [2, 3, 4, 5, 7, 10, 12, 22, 24, 25, 27, 28, 42, 48, 50, 51, 55, 61] [(0, 1), (1, 2), (29, 36), (36, 64), (64, 71)] o_me o1 := Kp.rf.trans (by rw [eo1]; exact Kp.sI (by decide))
  refine wp_some ?_
  exact (show IvX9 o1 ∧ Kp [1, 8, 11, 13, 14, 15, 16, 18, 19, 20, 21, 23, 26, 29, 34, 38, 43, 56, 57, 58, 59, 62] [2, 3, 4, 5, 7, 10, 12, 22, 24, 25, 27, 28, 42, 48, 50, 51, 55, 61] [(0, 1), (1, 2), (29, 36), (36, 64), (64, 71)] o_me o1 from ⟨hIo1, hkpo1⟩)

set_option maxHeartbeats 4000000 in
set_option maxRecDepth 100000 in
theorem s_X9_thatCanBe (o_me : Ob) (hI_me : IvX9 o_me) (q0 : 0 ≤ (gI o_me 20).toInt ∧ (gI o_me 20).toInt ≤ 0) : wp (f_X9_thatCanBe   o_me) (fun (y : Int32 × Ob) => (0 ≤ y.1.toInt ∧ y.1.toInt ≤ 127) ∧ IvX9 y.2 ∧ Kp [1, 8, 11, 13, 14, 15, 16, 18, 19, 20, 21, 23, 26, 29, 43, 56, 57, 58, 59, 62] [2, 3, 4, 5, 7, 10, 12, 22, 24, 25, 27, 28, 42, 48, 50, 51, 55, 61] [(0, 1), (1, 2), (29, 36), (36, 64), (64, 71)] o_me y.2) := by
  have li0 : (0 : Int32).toInt = 0 := by decide
  have li1 : (1 : Int32).toInt = 1 := by decide
  have li2 : (2 : Int32).toInt = 2 := by decide
  have li3 : (71 : Int32).toInt = 71 := by decide
  unfold f_X9_thatCanBe
  have lp1 : ∀ (N1 : Nat) (v1_1 : Int32) (v2_1 : Int32) (o_me_1 : Ob), IvX9 o_me_1 → Kp [1, 8, 11, 13, 14, 15, 16, 18, 19, 20, 21, 23, 26, 29, 43, 56, 57, 58, 59, 62] [2, 3, 4, 5, 7, 10, 12, 22, 24, 25, 27, 28, 42, 48, 50, 51, 55, 61] [(0, 1), (1, 2), (29, 36), (36, 64), (64, 71)] o_me o_me_1 → (0 ≤ v1_1.toInt ∧ v1_1.toInt ≤ 127) → (0 ≤ v2_1.toInt ∧ v2_1.toInt ≤ 7) → (0 ≤ (gI o_me_1 20).toInt ∧ (gI o_me_1 20).toInt ≤ 0) → (7 - v2_1.toInt).toNat < N1 → wp (lp_X9_thatCanBe_4   N1 (v1_1, v2_1, o_me_1)) (fun (y : Int32 × Ob) => (0 ≤ y.1.toInt ∧ y.1.toInt ≤ 127) ∧ IvX9 y.2 ∧ Kp [1, 8, 11, 13, 14, 15, 16, 18, 19, 20, 21, 23, 26, 29, 43, 56, 57, 58, 59, 62] [2, 3, 4, 5, 7, 10, 12, 22, 24, 25, 27, 28, 42, 48, 50, 51, 55, 61] [(0, 1), (1, 2), (29, 36), (36, 64), (64, 71)] o_me y.2) := by
    intro N1
    induction N1 with
    | zero =>
      intro v1_1 v2_1 o_me_1 hI_me_1 hkp_me_1 hh2 hh3 hh4 hN1
      exact absurd hN1 (Nat.not_lt_zero _)
    | succ N1 ihx =>
      have ih1 := ihx
      intro v1_1 v2_1 o_me_1 hI_me_1 hkp_me_1 hh2 hh3 hh4 hN1
      show wp (lb_X9_thatCanBe_4   (lp_X9_thatCanBe_4   N1) v1_1 v2_1 o_me_1) (fun (y : Int32 × Ob) => (0 ≤ y.1.toInt ∧ y.1.toInt ≤ 127) ∧ IvX9 y.2 ∧ Kp [1, 8, 11, 13, 14, 15, 16, 18, 19, 20, 21, 23, 26, 29, 43, 56, 57, 58, 59, 62] [2, 3, 4, 5, 7, 10, 12, 22, 24, 25, 27, 28, 42, 48, 50, 51, 55, 61] [(0, 1), (1, 2), (29, 36), (36, 64), (64, 71)] o_me y.2)
      unfold lb_X9_thatCanBe_4
      have kc5 : (gA o_me_1 3 (0 : Int32).toNatClampNeg).toInt = (gA o_me 3 (0 : Int32).toNatClampNeg).toInt := congrArg Int32.toInt (hkp_me_1.2.2 (0, 1) (by decide) (0 : Int32).toNatClampNeg (by decide) (by decide))
      have t6 := iaX9_3_0 hI_me_1 (j := (0 : Int32)) (by decide) (by decide)
      refine wp_if (fun c7 => ?_) (fun c7 => ?_)
      · have c7 := cv_ge (a := v2_1.toInt) (b := (gA o_me_1 3 (0 : Int32).toNatClampNeg).toInt) rfl rfl c7
        refine wp_some ?_
        exact (show (0 ≤ v1_1.toInt ∧ v1_1.toInt ≤ 127) ∧ IvX9 o_me_1 ∧ Kp [1, 8, 11, 13, 14, 15, 16, 18, 19, 20, 21, 23, 26, 29, 43, 56, 57, 58, 59, 62] [2, 3, 4, 5, 7, 10, 12, 22, 24, 25, 27, 28, 42, 48, 50, 51, 55, 61] [(0, 1), (1, 2), (29, 36), (36, 64), (64, 71)] o_me o_me_1 from ⟨⟨by omega, by omega⟩, hI_me_1, hkp_me_1⟩)
      · have c7 := cv_nge (a := v2_1.toInt) (b := (gA o_me_1 3 (0 : Int32).toNatClampNeg).toInt) rfl rfl c7
        have lp2 : ∀ (N2 : Nat) (v1_2 : Int32) (v2_2 : Int32) (v3_2 : Int32) (v4_2 : Int32) (o_me_2 : Ob), IvX9 o_me_2 → Kp [1, 8, 11, 13, 14, 15, 16, 18, 19, 20, 21, 23, 26, 29, 43, 56, 57, 58, 59, 62] [2, 3, 4, 5, 7, 10, 12, 22, 24, 25, 27, 28, 42, 48, 50, 51, 55, 61] [(0, 1), (1, 2), (29, 36), (36, 64), (64, 71)] o_me o_me_2 → (0 ≤ v1_2.toInt ∧ v1_2.toInt ≤ 127) → (0 ≤ v2_2.toInt ∧ v2_2.toInt ≤ 6) → (0 ≤ v3_2.toInt ∧ v3_2.toInt ≤ 1) → (0 ≤ v4_2.toInt ∧ v4_2.toInt ≤ 6) → (0 ≤ (gI o_me_2 20).toInt ∧ (gI o_me_2 20).toInt ≤ 0) → (v1_2.toInt ≤ v1_1.toInt + 0) → (v1_1.toInt ≤ v1_2.toInt + 0) → (v2_2.toInt ≤ v2_1.toInt + 0) → (v2_1.toInt ≤ v2_2.toInt + 0) → (6 - v4_2.toInt).toNat < N2 → wp (lp_X9_thatCanBe_19  (lp_X9_thatCanBe_4   N1) N2 (v1_2, v2_2, v3_2, v4_2, o_me_2)) (fun (y : Int32 × Ob) => (0 ≤ y.1.toInt ∧ y.1.toInt ≤ 127) ∧ IvX9 y.2 ∧ Kp [1, 8, 11, 13, 14, 15, 16, 18, 19, 20, 21, 23, 26, 29, 43, 56, 57, 58, 59, 62] [2, 3, 4, 5, 7, 10, 12, 22, 24, 25, 27, 28, 42, 48, 50, 51, 55, 61] [(0, 1), (1, 2), (29, 36), (36, 64), (64, 71)] o_me y.2) := by
          intro N2
          induction N2 with
          | zero =>
            intro v1_2 v2_2 v3_2 v4_2 o_me_2 hI_me_2 hkp_me_2 hh9 hh10 hh11 hh12 hh13 hh14 hh15 hh16 hh17 hN2
            exact absurd hN2 (Nat.not_lt_zero _)
          | succ N2 ihx =>
            have ih2 := ihx
            intro v1_2 v2_2 v3_2 v4_2 o_me_2 hI_me_2 hkp_me_2 hh9 hh10 hh11 hh12 hh13 hh14 hh15 hh16 hh17 hN2
            show wp (lb_X9_thatCanBe_19  (lp_X9_thatCanBe_4   N1) (lp_X9_thatCanBe_19  (lp_X9_thatCanBe_4   N1) N2) v1_2 v2_2 v3_2 v4_2 o_me_2) (fun (y : Int32 × Ob) => (0 ≤ y.1.toInt ∧ y.1.toInt ≤ 127) ∧ IvX9 y.2 ∧ Kp [1, 8, 11, 13, 14, 15, 16, 18, 19, 20, 21, 23, 26, 29, 43, 56, 57, 58, 59, 62] [2, 3, 4, 5, 7, 10, 12, 22, 24, 25, 27, 28, 42, 48, 50, 51, 55, 61] [(0, 1), (1, 2), (29, 36), (36, 64), (64, 71)] o_me y.2)
            unfold lb_X9_thatCanBe_19
            have kc18 : (gA o_me_2 3 (1 : Int32).toNatClampNeg).toInt = (gA o_me 3 (1 : Int32).toNatClampNeg).toInt := congrArg Int32.toInt (hkp_me_2.2.2 (1, 2) (by decide) (1 : Int32).toNatClampNeg (by decide) (by decide))
            have t19 := iaX9_3_1 hI_me_2 (j := (1 : Int32)) (by decide) (by decide)
            refine wp_if (fun c20 => ?_) (fun c20 => ?_)
            · have c20 := cv_ge (a := v4_2.toInt) (b := (gA o_me_2 3 (1 : Int32).toNatClampNeg).toInt) rfl rfl c20
              unfold bk_X9_thatCanBe_80
              refine wp_if (fun c21 => ?_) (fun c21 => ?_)
              · have c21 := cv_eq (a := v3_2.toInt) (b := 0) rfl (by decide) c21
                obtain ⟨w22, ew22⟩ : ∃ z : Int32, z = (0 : Int32) := ⟨_, rfl⟩
                have tw22 : w22.toInt = 0 := by rw [ew22]; decide
                rw [show bk_X9_thatCanBe_92  (lp_X9_thatCanBe_4   N1) v2_2 (0 : Int32) v1_2 o_me_2 = bk_X9_thatCanBe_92  (lp_X9_thatCanBe_4   N1) v2_2 w22 v1_2 o_me_2 from by rw [ew22]]
                unfold bk_X9_thatCanBe_92
                have t23 := i32_or7 (x := v1_2) (y := w22) ⟨by omega, by omega⟩ ⟨by omega, by omega⟩
                refine wp_lt (fun x24 ex24 => ?_)
                have tx24 : x24.toInt = (v1_2 ||| w22).toInt := by rw [ex24]
                refine wp_lt (fun x25 ex25 => ?_)
                have tx25 : x25.toInt = v2_2.toInt + 1 := by rw [ex25]; exact i32_add rfl (by decide) (by omega) (by omega)
                exact ih1 x24 x25 o_me_2 hI_me_2 hkp_me_2 ⟨by omega, by omega⟩ ⟨by omega, by omega⟩ ⟨by omega, by omega⟩ (by omega)
              · have c21z := c21
                have c21 := cv_ne (a := v3_2.toInt) (b := 0) rfl (by decide) c21
                have t26 : 1 ≤ ((1 : Int32) <<< (v2_2 &&& 31)).toInt ∧ ((1 : Int32) <<< (v2_2 &&& 31)).toInt ≤ 64 := i32_shl6 (p := v2_2) (by omega) (by omega)
                obtain ⟨w27, ew27⟩ : ∃ z : Int32, z = (1 : Int32) <<< (v2_2 &&& 31) := ⟨_, rfl⟩
                have tw27 : w27.toInt = ((1 : Int32) <<< (v2_2 &&& 31)).toInt := by rw [ew27]
                rw [show bk_X9_thatCanBe_92  (lp_X9_thatCanBe_4   N1) v2_2 ((1 : Int32) <<< (v2_2 &&& 31)) v1_2 o_me_2 = bk_X9_thatCanBe_92  (lp_X9_thatCanBe_4   N1) v2_2 w27 v1_2 o_me_2 from by rw [ew27]]
                unfold bk_X9_thatCanBe_92
                have t28 := i32_or7 (x := v1_2) (y := w27) ⟨by omega, by omega⟩ ⟨by omega, by omega⟩
                refine wp_lt (fun x29 ex29 => ?_)
                have tx29 : x29.toInt = (v1_2 ||| w27).toInt := by rw [ex29]
                refine wp_lt (fun x30 ex30 => ?_)
                have tx30 : x30.toInt = v2_2.toInt + 1 := by rw [ex30]; exact i32_add rfl (by decide) (by omega) (by omega)
                exact ih1 x29 x30 o_me_2 hI_me_2 hkp_me_2 ⟨by omega, by omega⟩ ⟨by omega, by omega⟩ ⟨by omega, by omega⟩ (by omega)
            · have c20 := cv_nge (a := v4_2.toInt) (b := (gA o_me_2 3 (1 : Int32).toNatClampNeg).toInt) rfl rfl c20
              refine wp_if (fun c31 => ?_) (fun c31 => ?_)
              · have c31 := cv_eq (a := v3_2.toInt) (b := 0) rfl (by decide) c31
                unfold bk_X9_thatCanBe_80
                refine wp_if (fun c32 => ?_) (fun c32 => ?_)
                · have c32 := cv_eq (a := v3_2.toInt) (b := 0) rfl (by decide) c32
                  obtain ⟨w33, ew33⟩ : ∃ z : Int32, z = (0 : Int32) := ⟨_, rfl⟩
                  have tw33 : w33.toInt = 0 := by rw [ew33]; decide
                  rw [show bk_X9_thatCanBe_92  (lp_X9_thatCanBe_4   N1) v2_2 (0 : Int32) v1_2 o_me_2 = bk_X9_thatCanBe_92  (lp_X9_thatCanBe_4   N1) v2_2 w33 v1_2 o_me_2 from by rw [ew33]]
                  unfold bk_X9_thatCanBe_92
                  have t34 := i32_or7 (x := v1_2) (y := w33) ⟨by omega, by omega⟩ ⟨by omega, by omega⟩
                  refine wp_lt (fun x35 ex35 => ?_)
                  have tx35 : x35.toInt = (v1_2 ||| w33).toInt := by rw [ex35]
                  refine wp_lt (fun x36 ex36 => ?_)
                  have tx36 : x36.toInt = v2_2.toInt + 1 := by rw [ex36]; exact i32_add rfl (by decide) (by omega) (by omega)
                  exact ih1 x35 x36 o_me_2 hI_me_2 hkp_me_2 ⟨by omega, by omega⟩ ⟨by omega, by omega⟩ ⟨by omega, by omega⟩ (by omega)
                · have c32z := c32
                  have c32 := cv_ne (a := v3_2.toInt) (b := 0) rfl (by decide) c32
                  exfalso; omega
              · have c31z := c31
                have c31 := cv_ne (a := v3_2.toInt) (b := 0) rfl (by decide) c31
                have t37 : ((2 : Int32) * v4_2).toInt = 2 * v4_2.toInt := i32_mul (by decide) rfl (by omega) (by omega)
                have t38 : ((71 : Int32) + ((2 : Int32) * v4_2)).toInt = 71 + ((2 : Int32) * v4_2).toInt := i32_add (by decide) rfl (by omega) (by omega)
                refine wp_gd (zin_of (m := 5484) rfl (by omega) (by omega)) ?_
                have t39 := iaX9_3_8 hI_me_2 (j := (71 : Int32) + ((2 : Int32) * v4_2)) (by omega) (by omega)
                refine wp_bd (s_X9_turnsOf   o_me_2 v2_2 (gA o_me_2 3 ((71 : Int32) + ((2 : Int32) * v4_2)).toNatClampNeg)  hI_me_2  ⟨by omega, by omega⟩ ⟨by omega, by omega⟩ ⟨by omega, by omega⟩) (fun z40 hz40 => ?_)
                obtain ⟨hz40_0, hz40_1, hz40_2⟩ := hz40
                have hkpz40_me : Kp [1, 8, 11, 13, 14, 15, 16, 18, 19, 20, 21, 23, 26, 29, 43, 56, 57, 58, 59, 62] [2, 3, 4, 5, 7, 10, 12, 22, 24, 25, 27, 28, 42, 48, 50, 51, 55, 61] [(0, 1), (1, 2), (29, 36), (36, 64), (64, 71)] o_me z40.2 := hkp_me_2.trans (hz40_2.mono (by decide) (by decide) (by decide))
                have kz40_k41 : (gA z40.2 3 ((71 : Int32) + ((2 : Int32) * v4_2)).toNatClampNeg).toInt = (gA o_me_2 3 ((71 : Int32) + ((2 : Int32) * v4_2)).toNatClampNeg).toInt := congrArg (fun g => (g ((71 : Int32) + ((2 : Int32) * v4_2)).toNatClampNeg).toInt) (hz40_2.2.1 3 (by decide))
                have kz40_k42 : (gA z40.2 3 (1 : Int32).toNatClampNeg).toInt = (gA o_me_2 3 (1 : Int32).toNatClampNeg).toInt := congrArg (fun g => (g (1 : Int32).toNatClampNeg).toInt) (hz40_2.2.1 3 (by decide))
                have kz40_k43 : (gI z40.2 20).toInt = (gI o_me_2 20).toInt := congrArg Int32.toInt (hz40_2.1 20 (by decide))
                have t44 : (((71 : Int32) + ((2 : Int32) * v4_2)) + (1 : Int32)).toInt = ((71 : Int32) + ((2 : Int32) * v4_2)).toInt + 1 := i32_add rfl (by decide) (by omega) (by omega)
                refine wp_gd (zin_of (m := 5484) rfl (by omega) (by omega)) ?_
                have t45 := iaX9_3_8 hz40_1 (j := ((71 : Int32) + ((2 : Int32) * v4_2)) + (1 : Int32)) (by omega) (by omega)
                refine wp_if (fun c46 => ?_) (fun c46 => ?_)
                · have c46 := cv_eq (a := z40.1.toInt) (b := (gA z40.2 3 (((71 : Int32) + ((2 : Int32) * v4_2)) + (1 : Int32)).toNatClampNeg).toInt) rfl rfl c46
                  obtain ⟨w47, ew47⟩ : ∃ z : Int32, z = (1 : Int32) := ⟨_, rfl⟩
                  have tw47 : w47.toInt = 1 := by rw [ew47]; decide
                  rw [show bk_X9_thatCanBe_73  (lp_X9_thatCanBe_4   N1) (lp_X9_thatCanBe_19  (lp_X9_thatCanBe_4   N1) N2) v1_2 v2_2 v4_2 (1 : Int32) z40.2 = bk_X9_thatCanBe_73  (lp_X9_thatCanBe_4   N1) (lp_X9_thatCanBe_19  (lp_X9_thatCanBe_4   N1) N2) v1_2 v2_2 v4_2 w47 z40.2 from by rw [ew47]]
                  unfold bk_X9_thatCanBe_73
                  refine wp_lt (fun x48 ex48 => ?_)
                  have tx48 : x48.toInt = v4_2.toInt + 1 := by rw [ex48]; exact i32_add rfl (by decide) (by omega) (by omega)
                  exact ih2 v1_2 v2_2 w47 x48 z40.2 hz40_1 hkpz40_me ⟨by omega, by omega⟩ ⟨by omega, by omega⟩ ⟨by omega, by omega⟩ ⟨by omega, by omega⟩ ⟨by omega, by omega⟩ (by omega) (by omega) (by omega) (by omega) (by omega)
                · have c46 := cv_ne (a := z40.1.toInt) (b := (gA z40.2 3 (((71 : Int32) + ((2 : Int32) * v4_2)) + (1 : Int32)).toNatClampNeg).toInt) rfl rfl c46
                  obtain ⟨w49, ew49⟩ : ∃ z : Int32, z = (0 : Int32) := ⟨_, rfl⟩
                  have tw49 : w49.toInt = 0 := by rw [ew49]; decide
                  rw [show bk_X9_thatCanBe_73  (lp_X9_thatCanBe_4   N1) (lp_X9_thatCanBe_19  (lp_X9_thatCanBe_4   N1) N2) v1_2 v2_2 v4_2 (0 : Int32) z40.2 = bk_X9_thatCanBe_73  (lp_X9_thatCanBe_4   N1) (lp_X9_thatCanBe_19  (lp_X9_thatCanBe_4   N1) N2) v1_2 v2_2 v4_2 w49 z40.2 from by rw [ew49]]
                  unfold bk_X9_thatCanBe_73
                  refine wp_lt (fun x50 ex50 => ?_)
                  have tx50 : x50.toInt = v4_2.toInt + 1 := by rw [ex50]; exact i32_add rfl (by decide) (by omega) (by omega)
                  exact ih2 v1_2 v2_2 w49 x50 z40.2 hz40_1 hkpz40_me ⟨by omega, by omega⟩ ⟨by omega, by omega⟩ ⟨by omega, by omega⟩ ⟨by omega, by omega⟩ ⟨by omega, by omega⟩ (by omega) (by omega) (by omega) (by omega) (by omega)
        exact lp2 zfu v1_1 v2_1 (1 : Int32) (0 : Int32) o_me_1 hI_me_1 hkp_me_1 ⟨by omega, by omega⟩ ⟨by omega, by omega⟩ ⟨by decide, by decide⟩ ⟨by decide, by decide⟩ ⟨by omega, by omega⟩ (by omega) (by omega) (by omega) (by omega) (by show _ < 100000; omega)
  exact lp1 zfu (0 : Int32) (0 : Int32) o_me hI_me Kp.rf ⟨by decide, by decide⟩ ⟨by decide, by decide⟩ ⟨by omega, by omega⟩ (by show _ < 100000; omega)

set_option maxHeartbeats 4000000 in
set_option maxRecDepth 100000 in
theorem s_X9_canBe (o_me : Ob) (hI_me : IvX9 o_me) (q0 : 0 ≤ (gI o_me 20).toInt ∧ (gI o_me 20).toInt ≤ 0) : wp (f_X9_canBe   o_me) (fun (y : Int32 × Ob) => (0 ≤ y.1.toInt ∧ y.1.toInt ≤ 127) ∧ IvX9 y.2 ∧ Kp [1, 8, 11, 13, 14, 15, 16, 18, 19, 20, 21, 23, 26, 29, 43, 56, 57, 58, 59, 62] [2, 3, 4, 5, 7, 10, 12, 22, 24, 25, 27, 28, 42, 48, 50, 51, 55, 61] [(0, 1), (1, 2), (29, 36), (36, 64), (64, 71)] o_me y.2) := by
  have li0 : (0 : Int32).toInt = 0 := by decide
  unfold f_X9_canBe
  refine wp_lt (fun o1 eo1 => ?_)
  have hIo1 : IvX9 o1 := by rw [eo1]; exact hI_me
  have ko1_k2 : (gI o1 20).toInt = (gI o_me 20).toInt := by rw [eo1]; rfl
  have ko1_v : (gI o1 0).toInt = 0 := by rw [eo1]; exact (show ((0 : Int32)).toInt = _ from by decide)
  have hkpo1 : Kp [1, 8, 11, 13, 14, 15, 16, 18, 19, 20, 21, 23, 26, 29, 43, 56, 57, 58, 59, 62] [2, 3, 4, 5, 7, 10, 12, 22, 24, 25, 27, 28, 42, 48, 50, 51, 55, 61] [(0, 1), (1, 2), (29, 36), (36, 64), (64, 71)] o_me o1 := Kp.rf.trans (by rw [eo1]; exact Kp.sI (by decide))
  refine wp_bd (s_X9_thatCanBe   o1  hIo1  ⟨by omega, by omega⟩) (fun z3 hz3 => ?_)
  obtain ⟨hz3_0, hz3_1, hz3_2⟩ := hz3
  have hkpz3_me : Kp [1, 8, 11, 13, 14, 15, 16, 18, 19, 20, 21, 23, 26, 29, 43, 56, 57, 58, 59, 62] [2, 3, 4, 5, 7, 10, 12, 22, 24, 25, 27, 28, 42, 48, 50, 51, 55, 61] [(0, 1), (1, 2), (29, 36), (36, 64), (64, 71)] o_me z3.2 := hkpo1.trans (hz3_2.mono (by decide) (by decide) (by decide))
  have kz3_k4 : (gI z3.2 20).toInt = (gI o1 20).toInt := congrArg Int32.toInt (hz3_2.1 20 (by decide))
  refine wp_some ?_
  exact (show (0 ≤ z3.1.toInt ∧ z3.1.toInt ≤ 127) ∧ IvX9 z3.2 ∧ Kp [1, 8, 11, 13, 14, 15, 16, 18, 19, 20, 21, 23, 26, 29, 43, 56, 57, 58, 59, 62] [2, 3, 4, 5, 7, 10, 12, 22, 24, 25, 27, 28, 42, 48, 50, 51, 55, 61] [(0, 1), (1, 2), (29, 36), (36, 64), (64, 71)] o_me z3.2 from ⟨⟨by omega, by omega⟩, hz3_1, hkpz3_me⟩)

set_option maxHeartbeats 4000000 in
set_option maxRecDepth 100000 in
theorem s_X9_putBack (o_me : Ob) (p0 : Int32) (hI_me : IvX9 o_me) (q0 : 0 ≤ p0.toInt ∧ p0.toInt ≤ 17) : wp (f_X9_putBack   o_me p0) (fun (y : Ob) => IvX9 y ∧ Kp [1, 8, 11, 13, 14, 15, 16, 18, 19, 20, 21, 23, 26, 29, 34, 38, 43, 56, 57, 58, 59, 62] [2, 4, 5, 7, 10, 12, 22, 24, 25, 27, 28, 42, 48, 50, 51, 55, 61] [(0, 1), (1, 2), (29, 36), (36, 64), (64, 71)] o_me y) := by
  have li0 : (0 : Int32).toInt = 0 := by decide
  have li1 : (25 : Int32).toInt = 25 := by decide
  have li2 : (4 : Int32).toInt = 4 := by decide
  unfold f_X9_putBack
  have lp1 : ∀ (N1 : Nat) (v1_1 : Int32) (v2_1 : Int32) (o_me_1 : Ob), IvX9 o_me_1 → Kp [1, 8, 11, 13, 14, 15, 16, 18, 19, 20, 21, 23, 26, 29, 34, 38, 43, 56, 57, 58, 59, 62] [2, 4, 5, 7, 10, 12, 22, 24, 25, 27, 28, 42, 48, 50, 51, 55, 61] [(0, 1), (1, 2), (29, 36), (36, 64), (64, 71)] o_me o_me_1 → (0 ≤ v1_1.toInt ∧ v1_1.toInt ≤ 17) → (0 ≤ v2_1.toInt ∧ v2_1.toInt ≤ 25) → (v1_1.toInt ≤ p0.toInt + 0) → (p0.toInt ≤ v1_1.toInt + 0) → (25 - v2_1.toInt).toNat < N1 → wp (lp_X9_putBack_2   N1 (v1_1, v2_1, o_me_1)) (fun (y : Ob) => IvX9 y ∧ Kp [1, 8, 11, 13, 14, 15, 16, 18, 19, 20, 21, 23, 26, 29, 34, 38, 43, 56, 57, 58, 59, 62] [2, 4, 5, 7, 10, 12, 22, 24, 25, 27, 28, 42, 48, 50, 51, 55, 61] [(0, 1), (1, 2), (29, 36), (36, 64), (64, 71)] o_me y) := by
    intro N1
    induction N1 with
    | zero =>
      intro v1_1 v2_1 o_me_1 hI_me_1 hkp_me_1 hh1 hh2 hh3 hh4 hN1
      exact absurd hN1 (Nat.not_lt_zero _)
    | succ N1 ihx =>
      have ih1 := ihx
      intro v1_1 v2_1 o_me_1 hI_me_1 hkp_me_1 hh1 hh2 hh3 hh4 hN1
      show wp (lb_X9_putBack_2   (lp_X9_putBack_2   N1) v1_1 v2_1 o_me_1) (fun (y : Ob) => IvX9 y ∧ Kp [1, 8, 11, 13, 14, 15, 16, 18, 19, 20, 21, 23, 26, 29, 34, 38, 43, 56, 57, 58, 59, 62] [2, 4, 5, 7, 10, 12, 22, 24, 25, 27, 28, 42, 48, 50, 51, 55, 61] [(0, 1), (1, 2), (29, 36), (36, 64), (64, 71)] o_me y)
      unfold lb_X9_putBack_2
      refine wp_if (fun c5 => ?_) (fun c5 => ?_)
      · have c5 := cv_ge (a := v2_1.toInt) (b := 25) rfl (by decide) c5
        refine wp_some ?_
        exact (show IvX9 o_me_1 ∧ Kp [1, 8, 11, 13, 14, 15, 16, 18, 19, 20, 21, 23, 26, 29, 34, 38, 43, 56, 57, 58, 59, 62] [2, 4, 5, 7, 10, 12, 22, 24, 25, 27, 28, 42, 48, 50, 51, 55, 61] [(0, 1), (1, 2), (29, 36), (36, 64), (64, 71)] o_me o_me_1 from ⟨hI_me_1, hkp_me_1⟩)
      · have c5 := cv_nge (a := v2_1.toInt) (b := 25) rfl (by decide) c5
        have t6 : ((4 : Int32) + v2_1).toInt = 4 + v2_1.toInt := i32_add (by decide) rfl (by omega) (by omega)
        have t7 : ((25 : Int32) * v1_1).toInt = 25 * v1_1.toInt := i32_mul (by decide) rfl (by omega) (by omega)
        have t8 : (((25 : Int32) * v1_1) + v2_1).toInt = ((25 : Int32) * v1_1).toInt + v2_1.toInt := i32_add rfl rfl (by omega) (by omega)
        refine wp_gd (zin_of (m := 450) rfl (by omega) (by omega)) ?_
        refine wp_gd (zin_of (m := 5484) rfl (by omega) (by omega)) ?_
        refine wp_lt (fun o9 eo9 => ?_)
        have hIo9 : IvX9 o9 := by rw [eo9]; exact spX9_put hI_me_1 ⟨by omega, by omega⟩ ⟨by omega, by omega⟩
        have ko9_v : (gA o9 3 ((4 : Int32) + v2_1).toNatClampNeg).toInt = (gA o_me_1 6 (((25 : Int32) * v1_1) + v2_1).toNatClampNeg).toInt := by rw [eo9]; exact congrArg Int32.toInt (upd_eq (g := gA o_me_1 3) (i := ((4 : Int32) + v2_1)) (v := (gA o_me_1 6 (((25 : Int32) * v1_1) + v2_1).toNatClampNeg)))
        have hkpo9 : Kp [1, 8, 11, 13, 14, 15, 16, 18, 19, 20, 21, 23, 26, 29, 34, 38, 43, 56, 57, 58, 59, 62] [2, 4, 5, 7, 10, 12, 22, 24, 25, 27, 28, 42, 48, 50, 51, 55, 61] [(0, 1), (1, 2), (29, 36), (36, 64), (64, 71)] o_me o9 := hkp_me_1.trans (by rw [eo9]; exact kp_bw (a := 2) (b := 29) (by decide) (by decide) (by omega) (by omega))
        refine wp_lt (fun x10 ex10 => ?_)
        have tx10 : x10.toInt = v2_1.toInt + 1 := by rw [ex10]; exact i32_add rfl (by decide) (by omega) (by omega)
        exact ih1 v1_1 x10 o9 hIo9 hkpo9 ⟨by omega, by omega⟩ ⟨by omega, by omega⟩ (by omega) (by omega) (by omega)
  exact lp1 zfu p0 (0 : Int32) o_me hI_me Kp.rf ⟨by omega, by omega⟩ ⟨by decide, by decide⟩ (by omega) (by omega) (by show _ < 100000; omega)

set_option maxHeartbeats 4000000 in
set_option maxRecDepth 100000 in
theorem s_X9_draw (o_me : Ob) (p0 : Int32) (hI_me : IvX9 o_me) (q0 : 1 ≤ p0.toInt ∧ p0.toInt ≤ 7) : wp (f_X9_draw   o_me p0) (fun (y : Int32 × Ob) => (0 ≤ y.1.toInt ∧ y.1.toInt ≤ 6) ∧ IvX9 y.2 ∧ Kp [1, 8, 11, 13, 14, 15, 16, 18, 19, 20, 21, 23, 26, 29, 34, 38, 43, 56, 57, 58, 59, 62] [2, 3, 4, 5, 7, 10, 12, 22, 24, 25, 27, 28, 42, 48, 50, 51, 55, 61] [(0, 1), (1, 2), (29, 36), (36, 64), (64, 71)] o_me y.2 ∧ (y.1.toInt ≤ p0.toInt + (-1))) := by
  unfold f_X9_draw
  have hs := (h9last hI_me).2
  have m1 : ((gL o_me 60) * (1103 : Int64)).toInt = (gL o_me 60).toInt * 1103 := i64_mul rfl (by decide) (by omega) (by omega)
  have m2 : (((gL o_me 60) * (1103 : Int64)) + (12345 : Int64)).toInt = (gL o_me 60).toInt * 1103 + 12345 := i64_add m1 (by decide) (by omega) (by omega)
  have m3 := i64_rem (x := ((gL o_me 60) * (1103 : Int64)) + (12345 : Int64)) (y := 1000003) (m := 1000003) (by decide) (by decide) (by omega)
  refine wp_lt (fun o1 e1 => ?_)
  have hI1 : IvX9 o1 := by rw [e1]; exact ilX9_60 hI_me ⟨m3.1, by omega⟩
  have hK1 : Kp [1, 8, 11, 13, 14, 15, 16, 18, 19, 20, 21, 23, 26, 29, 34, 38, 43, 56, 57, 58, 59, 62] [2, 3, 4, 5, 7, 10, 12, 22, 24, 25, 27, 28, 42, 48, 50, 51, 55, 61] [(0, 1), (1, 2), (29, 36), (36, 64), (64, 71)] o_me o1 := by rw [e1]; exact Kp.sL
  have h1 := (h9last hI1).2
  have ep := Int32.toInt_toInt64 p0
  refine wp_gd (decide_eq_true (fun e9 => by have e8 := congrArg Int64.toInt e9; have e7 : (0 : Int64).toInt = 0 := (by decide); omega)) ?_
  have m4 := i64_rem (x := gL o1 60) (y := p0.toInt64) (m := p0.toInt) ep (by omega) h1.1
  have t := l2i_eq (x := (gL o1 60) - (gL o1 60) / p0.toInt64 * p0.toInt64) (by omega) (by omega)
  refine wp_some ?_
  dsimp only
  exact ⟨⟨by omega, by omega⟩, hI1, hK1, by omega⟩

set_option maxHeartbeats 4000000 in
set_option maxRecDepth 100000 in
theorem s_X9_centuries (o_me : Ob) (p0 : Int32) (p1 : Int32) (hI_me : IvX9 o_me) (q0 : 0 ≤ (gI o_me 20).toInt ∧ (gI o_me 20).toInt ≤ 0) : wp (f_X9_centuries   o_me p0 p1) (fun (y : Int32 × Ob) => ((-6) ≤ y.1.toInt ∧ y.1.toInt ≤ 2147483647) ∧ IvX9 y.2 ∧ Kp [8, 11, 13, 14, 15, 16, 18, 19, 20, 21, 23, 26, 29, 56, 57, 58, 59] [4, 5, 7, 10, 12, 22, 24, 25, 27, 28, 48, 50, 51, 55] [(0, 1), (1, 2), (29, 36), (36, 64), (64, 71)] o_me y.2) := by
  have li0 : (-1 : Int32).toInt = (-1) := by decide
  have li1 : (-3 : Int32).toInt = (-3) := by decide
  have li2 : (0 : Int32).toInt = 0 := by decide
  have li3 : (0 : Int64).toInt = 0 := by decide
  have li4 : (1 : Int32).toInt = 1 := by decide
  have li5 : (1 : Int64).toInt = 1 := by decide
  have li6 : (1000000 : Int64).toInt = 1000000 := by decide
  have li7 : (16 : Int32).toInt = 16 := by decide
  have li8 : (2 : Int32).toInt = 2 := by decide
  have li9 : (22 : Int32).toInt = 22 := by decide
  have li10 : (25 : Int32).toInt = 25 := by decide
  have li11 : (3 : Int32).toInt = 3 := by decide
  have li12 : (4 : Int32).toInt = 4 := by decide
  have li13 : (60 : Int64).toInt = 60 := by decide
  have li14 : (999 : Int32).toInt = 999 := by decide
  unfold f_X9_centuries
  refine wp_lt (fun o1 eo1 => ?_)
  have hIo1 : IvX9 o1 := by rw [eo1]; exact hI_me
  have ko1_k2 : (gI o1 20).toInt = (gI o_me 20).toInt := by rw [eo1]; rfl
  have ko1_v : (gI o1 0).toInt = 0 := by rw [eo1]; exact (show ((0 : Int32)).toInt = _ from by decide)
  have hkpo1 : Kp [8, 11, 13, 14, 15, 16, 18, 19, 20, 21, 23, 26, 29, 56, 57, 58, 59] [4, 5, 7, 10, 12, 22, 24, 25, 27, 28, 48, 50, 51, 55] [(0, 1), (1, 2), (29, 36), (36, 64), (64, 71)] o_me o1 := Kp.rf.trans (by rw [eo1]; exact Kp.sI (by decide))
  have rg3 := i32_rg p0
  have t4 : p0.toInt64.toInt = p0.toInt := Int32.toInt_toInt64 _
  refine wp_bd (s_X9_in   p0.toInt64 (0 : Int64) (1000000 : Int64)    ) (fun z5 hz5 => ?_)
  obtain ⟨hz5_0, hz5_1⟩ := hz5
  refine wp_if (fun c6 => ?_) (fun c6 => ?_)
  · have c6 := cv_eq (a := z5.toInt) (b := 0) rfl (by decide) c6
    unfold bk_X9_centuries_29
    refine wp_bd (s_X9_tell   o1 (-1 : Int32)  hIo1  ⟨by decide, by decide⟩) (fun z7 hz7 => ?_)
    obtain ⟨hz7_0, hz7_1, hz7_2⟩ := hz7
    have hkpz7_me : Kp [8, 11, 13, 14, 15, 16, 18, 19, 20, 21, 23, 26, 29, 56, 57, 58, 59] [4, 5, 7, 10, 12, 22, 24, 25, 27, 28, 48, 50, 51, 55] [(0, 1), (1, 2), (29, 36), (36, 64), (64, 71)] o_me z7.2 := hkpo1.trans (hz7_2.mono (by decide) (by decide) (by decide))
    have kz7_k8 : (gI z7.2 20).toInt = (gI o1 20).toInt := congrArg Int32.toInt (hz7_2.1 20 (by decide))
    refine wp_some ?_
    have rg9 := i32_rg z7.1
    exact (show ((-6) ≤ z7.1.toInt ∧ z7.1.toInt ≤ 2147483647) ∧ IvX9 z7.2 ∧ Kp [8, 11, 13, 14, 15, 16, 18, 19, 20, 21, 23, 26, 29, 56, 57, 58, 59] [4, 5, 7, 10, 12, 22, 24, 25, 27, 28, 48, 50, 51, 55] [(0, 1), (1, 2), (29, 36), (36, 64), (64, 71)] o_me z7.2 from ⟨⟨by omega, by omega⟩, hz7_1, hkpz7_me⟩)
  · have c6z := c6
    have c6i := hz5_1 c6
    have c6 := cv_ne (a := z5.toInt) (b := 0) rfl (by decide) c6
    have rg10 := i32_rg p1
    have t11 : p1.toInt64.toInt = p1.toInt := Int32.toInt_toInt64 _
    refine wp_bd (s_X9_in   p1.toInt64 (1 : Int64) (60 : Int64)    ) (fun z12 hz12 => ?_)
    obtain ⟨hz12_0, hz12_1⟩ := hz12
    refine wp_if (fun c13 => ?_) (fun c13 => ?_)
    · have c13 := cv_eq (a := z12.toInt) (b := 0) rfl (by decide) c13
      unfold bk_X9_centuries_29
      refine wp_bd (s_X9_tell   o1 (-1 : Int32)  hIo1  ⟨by decide, by decide⟩) (fun z14 hz14 => ?_)
      obtain ⟨hz14_0, hz14_1, hz14_2⟩ := hz14
      have hkpz14_me : Kp [8, 11, 13, 14, 15, 16, 18, 19, 20, 21, 23, 26, 29, 56, 57, 58, 59] [4, 5, 7, 10, 12, 22, 24, 25, 27, 28, 48, 50, 51, 55] [(0, 1), (1, 2), (29, 36), (36, 64), (64, 71)] o_me z14.2 := hkpo1.trans (hz14_2.mono (by decide) (by decide) (by decide))
      have kz14_k15 : (gI z14.2 20).toInt = (gI o1 20).toInt := congrArg Int32.toInt (hz14_2.1 20 (by decide))
      refine wp_some ?_
      have rg16 := i32_rg z14.1
      exact (show ((-6) ≤ z14.1.toInt ∧ z14.1.toInt ≤ 2147483647) ∧ IvX9 z14.2 ∧ Kp [8, 11, 13, 14, 15, 16, 18, 19, 20, 21, 23, 26, 29, 56, 57, 58, 59] [4, 5, 7, 10, 12, 22, 24, 25, 27, 28, 48, 50, 51, 55] [(0, 1), (1, 2), (29, 36), (36, 64), (64, 71)] o_me z14.2 from ⟨⟨by omega, by omega⟩, hz14_1, hkpz14_me⟩)
    · have c13z := c13
      have c13i := hz12_1 c13
      have c13 := cv_ne (a := z12.toInt) (b := 0) rfl (by decide) c13
      have kc17 : (gA o1 3 (0 : Int32).toNatClampNeg).toInt = (gA o_me 3 (0 : Int32).toNatClampNeg).toInt := congrArg Int32.toInt (hkpo1.2.2 (0, 1) (by decide) (0 : Int32).toNatClampNeg (by decide) (by decide))
      have t18 := iaX9_3_0 hIo1 (j := (0 : Int32)) (by decide) (by decide)
      refine wp_if (fun c19 => ?_) (fun c19 => ?_)
      · have c19 := cv_eq (a := (gA o1 3 (0 : Int32).toNatClampNeg).toInt) (b := 0) rfl (by decide) c19
        refine wp_bd (s_X9_tell   o1 (-3 : Int32)  hIo1  ⟨by decide, by decide⟩) (fun z20 hz20 => ?_)
        obtain ⟨hz20_0, hz20_1, hz20_2⟩ := hz20
        have hkpz20_me : Kp [8, 11, 13, 14, 15, 16, 18, 19, 20, 21, 23, 26, 29, 56, 57, 58, 59] [4, 5, 7, 10, 12, 22, 24, 25, 27, 28, 48, 50, 51, 55] [(0, 1), (1, 2), (29, 36), (36, 64), (64, 71)] o_me z20.2 := hkpo1.trans (hz20_2.mono (by decide) (by decide) (by decide))
        have kz20_k21 : (gA z20.2 3 (0 : Int32).toNatClampNeg).toInt = (gA o1 3 (0 : Int32).toNatClampNeg).toInt := congrArg (fun g => (g (0 : Int32).toNatClampNeg).toInt) (hz20_2.2.1 3 (by decide))
        have kz20_k22 : (gI z20.2 20).toInt = (gI o1 20).toInt := congrArg Int32.toInt (hz20_2.1 20 (by decide))
        refine wp_some ?_
        have rg23 := i32_rg z20.1
        exact (show ((-6) ≤ z20.1.toInt ∧ z20.1.toInt ≤ 2147483647) ∧ IvX9 z20.2 ∧ Kp [8, 11, 13, 14, 15, 16, 18, 19, 20, 21, 23, 26, 29, 56, 57, 58, 59] [4, 5, 7, 10, 12, 22, 24, 25, 27, 28, 48, 50, 51, 55] [(0, 1), (1, 2), (29, 36), (36, 64), (64, 71)] o_me z20.2 from ⟨⟨by omega, by omega⟩, hz20_1, hkpz20_me⟩)
      · have c19z := c19
        have c19 := cv_ne (a := (gA o1 3 (0 : Int32).toNatClampNeg).toInt) (b := 0) rfl (by decide) c19
        refine wp_bd (s_X9_keepAll   o1 (16 : Int32)  hIo1  ⟨by decide, by decide⟩) (fun z24 hz24 => ?_)
        obtain ⟨hz24_0, hz24_1⟩ := hz24
        have hkpz24_me : Kp [8, 11, 13, 14, 15, 16, 18, 19, 20, 21, 23, 26, 29, 56, 57, 58, 59] [4, 5, 7, 10, 12, 22, 24, 25, 27, 28, 48, 50, 51, 55] [(0, 1), (1, 2), (29, 36), (36, 64), (64, 71)] o_me z24 := hkpo1.trans (hz24_1.mono (by decide) (by decide) (by decide))
        have kz24_k25 : (gA z24 3 (0 : Int32).toNatClampNeg).toInt = (gA o1 3 (0 : Int32).toNatClampNeg).toInt := congrArg (fun g => (g (0 : Int32).toNatClampNeg).toInt) (hz24_1.2.1 3 (by decide))
        have kz24_k26 : (gI z24 20).toInt = (gI o1 20).toInt := congrArg Int32.toInt (hz24_1.1 20 (by decide))
        have t27 : p0.toInt64.toInt = p0.toInt := Int32.toInt_toInt64 _
        refine wp_lt (fun o28 eo28 => ?_)
        have hIo28 : IvX9 o28 := by rw [eo28]; exact ilX9_60 hz24_0 ⟨by omega, by omega⟩
        have ko28_k29 : (gA o28 3 (0 : Int32).toNatClampNeg).toInt = (gA z24 3 (0 : Int32).toNatClampNeg).toInt := by rw [eo28]; rfl
        have ko28_k30 : (gI o28 20).toInt = (gI z24 20).toInt := by rw [eo28]; rfl
        have ko28_v : (gL o28 60).toInt = p0.toInt64.toInt := by rw [eo28]; rfl
        have hkpo28 : Kp [8, 11, 13, 14, 15, 16, 18, 19, 20, 21, 23, 26, 29, 56, 57, 58, 59] [4, 5, 7, 10, 12, 22, 24, 25, 27, 28, 48, 50, 51, 55] [(0, 1), (1, 2), (29, 36), (36, 64), (64, 71)] o_me o28 := hkpz24_me.trans (by rw [eo28]; exact Kp.sL)
        have t31 := igX9_43 hIo28
        have lp1 : ∀ (N1 : Nat) (v2_1 : Int32) (v3_1 : Int32) (v4_1 : Int32) (o_me_1 : Ob), IvX9 o_me_1 → Kp [8, 11, 13, 14, 15, 16, 18, 19, 20, 21, 23, 26, 29, 56, 57, 58, 59] [4, 5, 7, 10, 12, 22, 24, 25, 27, 28, 48, 50, 51, 55] [(0, 1), (1, 2), (29, 36), (36, 64), (64, 71)] o_me o_me_1 → (1 ≤ v2_1.toInt ∧ v2_1.toInt ≤ 60) → (0 ≤ v3_1.toInt ∧ v3_1.toInt ≤ 60) → (0 ≤ v4_1.toInt ∧ v4_1.toInt ≤ 60) → (0 ≤ (gI o_me_1 20).toInt ∧ (gI o_me_1 20).toInt ≤ 0) → (0 ≤ (gI o_me_1 43).toInt ∧ (gI o_me_1 43).toInt ≤ 7) → (v3_1.toInt ≤ v2_1.toInt + 0) → (v3_1.toInt ≤ v4_1.toInt + 0) → (v4_1.toInt ≤ v2_1.toInt + 0) → (60 - v4_1.toInt).toNat < N1 → wp (lp_X9_centuries_68   N1 (v2_1, v3_1, v4_1, o_me_1)) (fun (y : Int32 × Ob) => ((-6) ≤ y.1.toInt ∧ y.1.toInt ≤ 2147483647) ∧ IvX9 y.2 ∧ Kp [8, 11, 13, 14, 15, 16, 18, 19, 20, 21, 23, 26, 29, 56, 57, 58, 59] [4, 5, 7, 10, 12, 22, 24, 25, 27, 28, 48, 50, 51, 55] [(0, 1), (1, 2), (29, 36), (36, 64), (64, 71)] o_me y.2) := by
          intro N1
          induction N1 with
          | zero =>
            intro v2_1 v3_1 v4_1 o_me_1 hI_me_1 hkp_me_1 hh34 hh35 hh36 hh37 hh38 hh39 hh40 hh41 hN1
            exact absurd hN1 (Nat.not_lt_zero _)
          | succ N1 ihx =>
            have ih1 := ihx
            intro v2_1 v3_1 v4_1 o_me_1 hI_me_1 hkp_me_1 hh34 hh35 hh36 hh37 hh38 hh39 hh40 hh41 hN1
            show wp (lb_X9_centuries_68   (lp_X9_centuries_68   N1) v2_1 v3_1 v4_1 o_me_1) (fun (y : Int32 × Ob) => ((-6) ≤ y.1.toInt ∧ y.1.toInt ≤ 2147483647) ∧ IvX9 y.2 ∧ Kp [8, 11, 13, 14, 15, 16, 18, 19, 20, 21, 23, 26, 29, 56, 57, 58, 59] [4, 5, 7, 10, 12, 22, 24, 25, 27, 28, 48, 50, 51, 55] [(0, 1), (1, 2), (29, 36), (36, 64), (64, 71)] o_me y.2)
            unfold lb_X9_centuries_68
            refine wp_if (fun c42 => ?_) (fun c42 => ?_)
            · have c42 := cv_ge (a := v4_1.toInt) (b := v2_1.toInt) rfl rfl c42
              unfold bk_X9_centuries_192
              have lp2 : ∀ (N2 : Nat) (v3_2 : Int32) (v4_2 : Int32) (o_me_2 : Ob), IvX9 o_me_2 → Kp [8, 11, 13, 14, 15, 16, 18, 19, 20, 21, 23, 26, 29, 56, 57, 58, 59] [4, 5, 7, 10, 12, 22, 24, 25, 27, 28, 48, 50, 51, 55] [(0, 1), (1, 2), (29, 36), (36, 64), (64, 71)] o_me o_me_2 → (0 ≤ v3_2.toInt ∧ v3_2.toInt ≤ 60) → (0 ≤ v4_2.toInt ∧ v4_2.toInt ≤ 25) → (0 ≤ (gI o_me_2 20).toInt ∧ (gI o_me_2 20).toInt ≤ 0) → (0 ≤ (gI o_me_2 43).toInt ∧ (gI o_me_2 43).toInt ≤ 7) → (v3_2.toInt ≤ v4_1.toInt + 0) → (v3_2.toInt ≤ v2_1.toInt + 0) → (v3_2.toInt ≤ v3_1.toInt + 0) → (v3_1.toInt ≤ v3_2.toInt + 0) → (25 - v4_2.toInt).toNat < N2 → wp (lp_X9_centuries_195   N2 (v3_2, v4_2, o_me_2)) (fun (y : Int32 × Ob) => ((-6) ≤ y.1.toInt ∧ y.1.toInt ≤ 2147483647) ∧ IvX9 y.2 ∧ Kp [8, 11, 13, 14, 15, 16, 18, 19, 20, 21, 23, 26, 29, 56, 57, 58, 59] [4, 5, 7, 10, 12, 22, 24, 25, 27, 28, 48, 50, 51, 55] [(0, 1), (1, 2), (29, 36), (36, 64), (64, 71)] o_me y.2) := by
                intro N2
                induction N2 with
                | zero =>
                  intro v3_2 v4_2 o_me_2 hI_me_2 hkp_me_2 hh45 hh46 hh47 hh48 hh49 hh50 hh51 hh52 hN2
                  exact absurd hN2 (Nat.not_lt_zero _)
                | succ N2 ihx =>
                  have ih2 := ihx
                  intro v3_2 v4_2 o_me_2 hI_me_2 hkp_me_2 hh45 hh46 hh47 hh48 hh49 hh50 hh51 hh52 hN2
                  show wp (lb_X9_centuries_195   (lp_X9_centuries_195   N2) v3_2 v4_2 o_me_2) (fun (y : Int32 × Ob) => ((-6) ≤ y.1.toInt ∧ y.1.toInt ≤ 2147483647) ∧ IvX9 y.2 ∧ Kp [8, 11, 13, 14, 15, 16, 18, 19, 20, 21, 23, 26, 29, 56, 57, 58, 59] [4, 5, 7, 10, 12, 22, 24, 25, 27, 28, 48, 50, 51, 55] [(0, 1), (1, 2), (29, 36), (36, 64), (64, 71)] o_me y.2)
                  unfold lb_X9_centuries_195
                  refine wp_if (fun c53 => ?_) (fun c53 => ?_)
                  · have c53 := cv_ge (a := v4_2.toInt) (b := 25) rfl (by decide) c53
                    have kc54 : (gA o_me_2 3 (0 : Int32).toNatClampNeg).toInt = (gA o_me 3 (0 : Int32).toNatClampNeg).toInt := congrArg Int32.toInt (hkp_me_2.2.2 (0, 1) (by decide) (0 : Int32).toNatClampNeg (by decide) (by decide))
                    have t55 := iaX9_3_0 hI_me_2 (j := (0 : Int32)) (by decide) (by decide)
                    refine wp_lt (fun o56 eo56 => ?_)
                    have hIo56 : IvX9 o56 := by rw [eo56]; exact ipX9_62 hI_me_2 ⟨by omega, by omega⟩
                    have ko56_k57 : (gA o56 3 (0 : Int32).toNatClampNeg).toInt = (gA o_me_2 3 (0 : Int32).toNatClampNeg).toInt := by rw [eo56]; rfl
                    have ko56_k58 : (gI o56 20).toInt = (gI o_me_2 20).toInt := by rw [eo56]; rfl
                    have ko56_k59 : (gI o56 43).toInt = (gI o_me_2 43).toInt := by rw [eo56]; rfl
                    have ko56_v : (gI o56 62).toInt = (gA o_me_2 3 (0 : Int32).toNatClampNeg).toInt := by rw [eo56]; rfl
                    have hkpo56 : Kp [8, 11, 13, 14, 15, 16, 18, 19, 20, 21, 23, 26, 29, 56, 57, 58, 59] [4, 5, 7, 10, 12, 22, 24, 25, 27, 28, 48, 50, 51, 55] [(0, 1), (1, 2), (29, 36), (36, 64), (64, 71)] o_me o56 := hkp_me_2.trans (by rw [eo56]; exact Kp.sI (by decide))
                    refine wp_bd (s_X9_putBack   o56 (16 : Int32)  hIo56  ⟨by decide, by decide⟩) (fun z60 hz60 => ?_)
                    obtain ⟨hz60_0, hz60_1⟩ := hz60
                    have hkpz60_me : Kp [8, 11, 13, 14, 15, 16, 18, 19, 20, 21, 23, 26, 29, 56, 57, 58, 59] [4, 5, 7, 10, 12, 22, 24, 25, 27, 28, 48, 50, 51, 55] [(0, 1), (1, 2), (29, 36), (36, 64), (64, 71)] o_me z60 := hkpo56.trans (hz60_1.mono (by decide) (by decide) (by decide))
                    have kz60_k61 : (gI z60 20).toInt = (gI o56 20).toInt := congrArg Int32.toInt (hz60_1.1 20 (by decide))
                    have kz60_k62 : (gI z60 43).toInt = (gI o56 43).toInt := congrArg Int32.toInt (hz60_1.1 43 (by decide))
                    have kz60_k63 : (gI z60 62).toInt = (gI o56 62).toInt := congrArg Int32.toInt (hz60_1.1 62 (by decide))
                    have rg65 := i32_rg v3_2
                    refine wp_bd (s_X9_tell   z60 v3_2  hz60_0  ⟨by omega, by omega⟩) (fun z64 hz64 => ?_)
                    obtain ⟨hz64_0, hz64_1, hz64_2⟩ := hz64
                    have hkpz64_me : Kp [8, 11, 13, 14, 15, 16, 18, 19, 20, 21, 23, 26, 29, 56, 57, 58, 59] [4, 5, 7, 10, 12, 22, 24, 25, 27, 28, 48, 50, 51, 55] [(0, 1), (1, 2), (29, 36), (36, 64), (64, 71)] o_me z64.2 := hkpz60_me.trans (hz64_2.mono (by decide) (by decide) (by decide))
                    have kz64_k66 : (gI z64.2 20).toInt = (gI z60 20).toInt := congrArg Int32.toInt (hz64_2.1 20 (by decide))
                    have kz64_k67 : (gI z64.2 43).toInt = (gI z60 43).toInt := congrArg Int32.toInt (hz64_2.1 43 (by decide))
                    have kz64_k68 : (gI z64.2 62).toInt = (gI z60 62).toInt := congrArg Int32.toInt (hz64_2.1 62 (by decide))
                    refine wp_some ?_
                    have rg69 := i32_rg z64.1
                    exact (show ((-6) ≤ z64.1.toInt ∧ z64.1.toInt ≤ 2147483647) ∧ IvX9 z64.2 ∧ Kp [8, 11, 13, 14, 15, 16, 18, 19, 20, 21, 23, 26, 29, 56, 57, 58, 59] [4, 5, 7, 10, 12, 22, 24, 25, 27, 28, 48, 50, 51, 55] [(0, 1), (1, 2), (29, 36), (36, 64), (64, 71)] o_me z64.2 from ⟨⟨by omega, by omega⟩, hz64_1, hkpz64_me⟩)
                  · have c53 := cv_nge (a := v4_2.toInt) (b := 25) rfl (by decide) c53
                    have t70 : ((4 : Int32) + v4_2).toInt = 4 + v4_2.toInt := i32_add (by decide) rfl (by omega) (by omega)
                    refine wp_gd (zin_of (m := 5484) rfl (by omega) (by omega)) ?_
                    refine wp_gd (zin_of (m := 25) rfl (by omega) (by omega)) ?_
                    refine wp_lt (fun o71 eo71 => ?_)
                    have hIo71 : IvX9 o71 := by rw [eo71]; exact hI_me_2
                    have ko71_k72 : (gI o71 20).toInt = (gI o_me_2 20).toInt := by rw [eo71]; rfl
                    have ko71_k73 : (gI o71 43).toInt = (gI o_me_2 43).toInt := by rw [eo71]; rfl
                    have ko71_v : (gA o71 61 v4_2.toNatClampNeg).toInt = (gA o_me_2 3 ((4 : Int32) + v4_2).toNatClampNeg).toInt := by rw [eo71]; exact congrArg Int32.toInt (upd_eq (g := gA o_me_2 61) (i := v4_2) (v := (gA o_me_2 3 ((4 : Int32) + v4_2).toNatClampNeg)))
                    have hkpo71 : Kp [8, 11, 13, 14, 15, 16, 18, 19, 20, 21, 23, 26, 29, 56, 57, 58, 59] [4, 5, 7, 10, 12, 22, 24, 25, 27, 28, 48, 50, 51, 55] [(0, 1), (1, 2), (29, 36), (36, 64), (64, 71)] o_me o71 := hkp_me_2.trans (by rw [eo71]; exact Kp.tA (by decide) (by decide))
                    refine wp_lt (fun x74 ex74 => ?_)
                    have tx74 : x74.toInt = v4_2.toInt + 1 := by rw [ex74]; exact i32_add rfl (by decide) (by omega) (by omega)
                    exact ih2 v3_2 x74 o71 hIo71 hkpo71 ⟨by omega, by omega⟩ ⟨by omega, by omega⟩ ⟨by omega, by omega⟩ ⟨by omega, by omega⟩ (by omega) (by omega) (by omega) (by omega) (by omega)
              exact lp2 zfu v3_1 (0 : Int32) o_me_1 hI_me_1 hkp_me_1 ⟨by omega, by omega⟩ ⟨by decide, by decide⟩ ⟨by omega, by omega⟩ ⟨by omega, by omega⟩ (by omega) (by omega) (by omega) (by omega) (by show _ < 100000; omega)
            · have c42 := cv_nge (a := v4_1.toInt) (b := v2_1.toInt) rfl rfl c42
              refine wp_if (fun c75 => ?_) (fun c75 => ?_)
              · have c75 := cv_ge (a := (gA o_me_1 3 (4 : Int32).toNatClampNeg).toInt) (b := 999) rfl (by decide) c75
                unfold bk_X9_centuries_192
                have lp3 : ∀ (N3 : Nat) (v3_3 : Int32) (v4_3 : Int32) (o_me_3 : Ob), IvX9 o_me_3 → Kp [8, 11, 13, 14, 15, 16, 18, 19, 20, 21, 23, 26, 29, 56, 57, 58, 59] [4, 5, 7, 10, 12, 22, 24, 25, 27, 28, 48, 50, 51, 55] [(0, 1), (1, 2), (29, 36), (36, 64), (64, 71)] o_me o_me_3 → (0 ≤ v3_3.toInt ∧ v3_3.toInt ≤ 59) → (0 ≤ v4_3.toInt ∧ v4_3.toInt ≤ 25) → (0 ≤ (gI o_me_3 20).toInt ∧ (gI o_me_3 20).toInt ≤ 0) → (0 ≤ (gI o_me_3 43).toInt ∧ (gI o_me_3 43).toInt ≤ 7) → (v3_3.toInt ≤ v4_1.toInt + 0) → (v3_3.toInt ≤ v2_1.toInt + (-1)) → (v3_3.toInt ≤ v3_1.toInt + 0) → (v3_1.toInt ≤ v3_3.toInt + 0) → (25 - v4_3.toInt).toNat < N3 → wp (lp_X9_centuries_195   N3 (v3_3, v4_3, o_me_3)) (fun (y : Int32 × Ob) => ((-6) ≤ y.1.toInt ∧ y.1.toInt ≤ 2147483647) ∧ IvX9 y.2 ∧ Kp [8, 11, 13, 14, 15, 16, 18, 19, 20, 21, 23, 26, 29, 56, 57, 58, 59] [4, 5, 7, 10, 12, 22, 24, 25, 27, 28, 48, 50, 51, 55] [(0, 1), (1, 2), (29, 36), (36, 64), (64, 71)] o_me y.2) := by
                  intro N3
                  induction N3 with
                  | zero =>
                    intro v3_3 v4_3 o_me_3 hI_me_3 hkp_me_3 hh78 hh79 hh80 hh81 hh82 hh83 hh84 hh85 hN3
                    exact absurd hN3 (Nat.not_lt_zero _)
                  | succ N3 ihx =>
                    have ih3 := ihx
                    intro v3_3 v4_3 o_me_3 hI_me_3 hkp_me_3 hh78 hh79 hh80 hh81 hh82 hh83 hh84 hh85 hN3
                    show wp (lb_X9_centuries_195   (lp_X9_centuries_195   N3) v3_3 v4_3 o_me_3) (fun (y : Int32 × Ob) => ((-6) ≤ y.1.toInt ∧ y.1.toInt ≤ 2147483647) ∧ IvX9 y.2 ∧ Kp [8, 11, 13, 14, 15, 16, 18, 19, 20, 21, 23, 26, 29, 56, 57, 58, 59] [4, 5, 7, 10, 12, 22, 24, 25, 27, 28, 48, 50, 51, 55] [(0, 1), (1, 2), (29, 36), (36, 64), (64, 71)] o_me y.2)
                    unfold lb_X9_centuries_195
                    refine wp_if (fun c86 => ?_) (fun c86 => ?_)
                    · have c86 := cv_ge (a := v4_3.toInt) (b := 25) rfl (by decide) c86
                      have kc87 : (gA o_me_3 3 (0 : Int32).toNatClampNeg).toInt = (gA o_me 3 (0 : Int32).toNatClampNeg).toInt := congrArg Int32.toInt (hkp_me_3.2.2 (0, 1) (by decide) (0 : Int32).toNatClampNeg (by decide) (by decide))
                      have t88 := iaX9_3_0 hI_me_3 (j := (0 : Int32)) (by decide) (by decide)
                      refine wp_lt (fun o89 eo89 => ?_)
                      have hIo89 : IvX9 o89 := by rw [eo89]; exact ipX9_62 hI_me_3 ⟨by omega, by omega⟩
                      have ko89_k90 : (gA o89 3 (0 : Int32).toNatClampNeg).toInt = (gA o_me_3 3 (0 : Int32).toNatClampNeg).toInt := by rw [eo89]; rfl
                      have ko89_k91 : (gI o89 20).toInt = (gI o_me_3 20).toInt := by rw [eo89]; rfl
                      have ko89_k92 : (gI o89 43).toInt = (gI o_me_3 43).toInt := by rw [eo89]; rfl
                      have ko89_v : (gI o89 62).toInt = (gA o_me_3 3 (0 : Int32).toNatClampNeg).toInt := by rw [eo89]; rfl
                      have hkpo89 : Kp [8, 11, 13, 14, 15, 16, 18, 19, 20, 21, 23, 26, 29, 56, 57, 58, 59] [4, 5, 7, 10, 12, 22, 24, 25, 27, 28, 48, 50, 51, 55] [(0, 1), (1, 2), (29, 36), (36, 64), (64, 71)] o_me o89 := hkp_me_3.trans (by rw [eo89]; exact Kp.sI (by decide))
                      refine wp_bd (s_X9_putBack   o89 (16 : Int32)  hIo89  ⟨by decide, by decide⟩) (fun z93 hz93 => ?_)
                      obtain ⟨hz93_0, hz93_1⟩ := hz93
                      have hkpz93_me : Kp [8, 11, 13, 14, 15, 16, 18, 19, 20, 21, 23, 26, 29, 56, 57, 58, 59] [4, 5, 7, 10, 12, 22, 24, 25, 27, 28, 48, 50, 51, 55] [(0, 1), (1, 2), (29, 36), (36, 64), (64, 71)] o_me z93 := hkpo89.trans (hz93_1.mono (by decide) (by decide) (by decide))
                      have kz93_k94 : (gI z93 20).toInt = (gI o89 20).toInt := congrArg Int32.toInt (hz93_1.1 20 (by decide))
                      have kz93_k95 : (gI z93 43).toInt = (gI o89 43).toInt := congrArg Int32.toInt (hz93_1.1 43 (by decide))
                      have kz93_k96 : (gI z93 62).toInt = (gI o89 62).toInt := congrArg Int32.toInt (hz93_1.1 62 (by decide))
                      have rg98 := i32_rg v3_3
                      refine wp_bd (s_X9_tell   z93 v3_3  hz93_0  ⟨by omega, by omega⟩) (fun z97 hz97 => ?_)
                      obtain ⟨hz97_0, hz97_1, hz97_2⟩ := hz97
                      have hkpz97_me : Kp [8, 11, 13, 14, 15, 16, 18, 19, 20, 21, 23, 26, 29, 56, 57, 58, 59] [4, 5, 7, 10, 12, 22, 24, 25, 27, 28, 48, 50, 51, 55] [(0, 1), (1, 2), (29, 36), (36, 64), (64, 71)] o_me z97.2 := hkpz93_me.trans (hz97_2.mono (by decide) (by decide) (by decide))
                      have kz97_k99 : (gI z97.2 20).toInt = (gI z93 20).toInt := congrArg Int32.toInt (hz97_2.1 20 (by decide))
                      have kz97_k100 : (gI z97.2 43).toInt = (gI z93 43).toInt := congrArg Int32.toInt (hz97_2.1 43 (by decide))
                      have kz97_k101 : (gI z97.2 62).toInt = (gI z93 62).toInt := congrArg Int32.toInt (hz97_2.1 62 (by decide))
                      refine wp_some ?_
                      have rg102 := i32_rg z97.1
                      exact (show ((-6) ≤ z97.1.toInt ∧ z97.1.toInt ≤ 2147483647) ∧ IvX9 z97.2 ∧ Kp [8, 11, 13, 14, 15, 16, 18, 19, 20, 21, 23, 26, 29, 56, 57, 58, 59] [4, 5, 7, 10, 12, 22, 24, 25, 27, 28, 48, 50, 51, 55] [(0, 1), (1, 2), (29, 36), (36, 64), (64, 71)] o_me z97.2 from ⟨⟨by omega, by omega⟩, hz97_1, hkpz97_me⟩)
                    · have c86 := cv_nge (a := v4_3.toInt) (b := 25) rfl (by decide) c86
                      have t103 : ((4 : Int32) + v4_3).toInt = 4 + v4_3.toInt := i32_add (by decide) rfl (by omega) (by omega)
                      refine wp_gd (zin_of (m := 5484) rfl (by omega) (by omega)) ?_
                      refine wp_gd (zin_of (m := 25) rfl (by omega) (by omega)) ?_
                      refine wp_lt (fun o104 eo104 => ?_)
                      have hIo104 : IvX9 o104 := by rw [eo104]; exact hI_me_3
                      have ko104_k105 : (gI o104 20).toInt = (gI o_me_3 20).toInt := by rw [eo104]; rfl
                      have ko104_k106 : (gI o104 43).toInt = (gI o_me_3 43).toInt := by rw [eo104]; rfl
                      have ko104_v : (gA o104 61 v4_3.toNatClampNeg).toInt = (gA o_me_3 3 ((4 : Int32) + v4_3).toNatClampNeg).toInt := by rw [eo104]; exact congrArg Int32.toInt (upd_eq (g := gA o_me_3 61) (i := v4_3) (v := (gA o_me_3 3 ((4 : Int32) + v4_3).toNatClampNeg)))
                      have hkpo104 : Kp [8, 11, 13, 14, 15, 16, 18, 19, 20, 21, 23, 26, 29, 56, 57, 58, 59] [4, 5, 7, 10, 12, 22, 24, 25, 27, 28, 48, 50, 51, 55] [(0, 1), (1, 2), (29, 36), (36, 64), (64, 71)] o_me o104 := hkp_me_3.trans (by rw [eo104]; exact Kp.tA (by decide) (by decide))
                      refine wp_lt (fun x107 ex107 => ?_)
                      have tx107 : x107.toInt = v4_3.toInt + 1 := by rw [ex107]; exact i32_add rfl (by decide) (by omega) (by omega)
                      exact ih3 v3_3 x107 o104 hIo104 hkpo104 ⟨by omega, by omega⟩ ⟨by omega, by omega⟩ ⟨by omega, by omega⟩ ⟨by omega, by omega⟩ (by omega) (by omega) (by omega) (by omega) (by omega)
                exact lp3 zfu v3_1 (0 : Int32) o_me_1 hI_me_1 hkp_me_1 ⟨by omega, by omega⟩ ⟨by decide, by decide⟩ ⟨by omega, by omega⟩ ⟨by omega, by omega⟩ (by omega) (by omega) (by omega) (by omega) (by show _ < 100000; omega)
              · have c75 := cv_nge (a := (gA o_me_1 3 (4 : Int32).toNatClampNeg).toInt) (b := 999) rfl (by decide) c75
                have kc108 : (gA o_me_1 3 (0 : Int32).toNatClampNeg).toInt = (gA o_me 3 (0 : Int32).toNatClampNeg).toInt := congrArg Int32.toInt (hkp_me_1.2.2 (0, 1) (by decide) (0 : Int32).toNatClampNeg (by decide) (by decide))
                have t109 := iaX9_3_0 hI_me_1 (j := (0 : Int32)) (by decide) (by decide)
                refine wp_bd (s_X9_draw   o_me_1 (gA o_me_1 3 (0 : Int32).toNatClampNeg)  hI_me_1  ⟨by omega, by omega⟩) (fun z110 hz110 => ?_)
                obtain ⟨hz110_0, hz110_1, hz110_2, hz110_3⟩ := hz110
                have hkpz110_me : Kp [8, 11, 13, 14, 15, 16, 18, 19, 20, 21, 23, 26, 29, 56, 57, 58, 59] [4, 5, 7, 10, 12, 22, 24, 25, 27, 28, 48, 50, 51, 55] [(0, 1), (1, 2), (29, 36), (36, 64), (64, 71)] o_me z110.2 := hkp_me_1.trans (hz110_2.mono (by decide) (by decide) (by decide))
                have kz110_k111 : (gA z110.2 3 (0 : Int32).toNatClampNeg).toInt = (gA o_me_1 3 (0 : Int32).toNatClampNeg).toInt := congrArg (fun g => (g (0 : Int32).toNatClampNeg).toInt) (hz110_2.2.1 3 (by decide))
                have kz110_k112 : (gA z110.2 3 (4 : Int32).toNatClampNeg).toInt = (gA o_me_1 3 (4 : Int32).toNatClampNeg).toInt := congrArg (fun g => (g (4 : Int32).toNatClampNeg).toInt) (hz110_2.2.1 3 (by decide))
                have kz110_k113 : (gI z110.2 20).toInt = (gI o_me_1 20).toInt := congrArg Int32.toInt (hz110_2.1 20 (by decide))
                have kz110_k114 : (gI z110.2 43).toInt = (gI o_me_1 43).toInt := congrArg Int32.toInt (hz110_2.1 43 (by decide))
                refine wp_bd (s_X9_draw   z110.2 (4 : Int32)  hz110_1  ⟨by decide, by decide⟩) (fun z115 hz115 => ?_)
                obtain ⟨hz115_0, hz115_1, hz115_2, hz115_3⟩ := hz115
                have hkpz115_me : Kp [8, 11, 13, 14, 15, 16, 18, 19, 20, 21, 23, 26, 29, 56, 57, 58, 59] [4, 5, 7, 10, 12, 22, 24, 25, 27, 28, 48, 50, 51, 55] [(0, 1), (1, 2), (29, 36), (36, 64), (64, 71)] o_me z115.2 := hkpz110_me.trans (hz115_2.mono (by decide) (by decide) (by decide))
                have kz115_k116 : (gA z115.2 3 (0 : Int32).toNatClampNeg).toInt = (gA z110.2 3 (0 : Int32).toNatClampNeg).toInt := congrArg (fun g => (g (0 : Int32).toNatClampNeg).toInt) (hz115_2.2.1 3 (by decide))
                have kz115_k117 : (gA z115.2 3 (4 : Int32).toNatClampNeg).toInt = (gA z110.2 3 (4 : Int32).toNatClampNeg).toInt := congrArg (fun g => (g (4 : Int32).toNatClampNeg).toInt) (hz115_2.2.1 3 (by decide))
                have kz115_k118 : (gI z115.2 20).toInt = (gI z110.2 20).toInt := congrArg Int32.toInt (hz115_2.1 20 (by decide))
                have kz115_k119 : (gI z115.2 43).toInt = (gI z110.2 43).toInt := congrArg Int32.toInt (hz115_2.1 43 (by decide))
                refine wp_bd (s_X9_draw   z115.2 (4 : Int32)  hz115_1  ⟨by decide, by decide⟩) (fun z120 hz120 => ?_)
                obtain ⟨hz120_0, hz120_1, hz120_2, hz120_3⟩ := hz120
                have hkpz120_me : Kp [8, 11, 13, 14, 15, 16, 18, 19, 20, 21, 23, 26, 29, 56, 57, 58, 59] [4, 5, 7, 10, 12, 22, 24, 25, 27, 28, 48, 50, 51, 55] [(0, 1), (1, 2), (29, 36), (36, 64), (64, 71)] o_me z120.2 := hkpz115_me.trans (hz120_2.mono (by decide) (by decide) (by decide))
                have kz120_k121 : (gA z120.2 3 (0 : Int32).toNatClampNeg).toInt = (gA z115.2 3 (0 : Int32).toNatClampNeg).toInt := congrArg (fun g => (g (0 : Int32).toNatClampNeg).toInt) (hz120_2.2.1 3 (by decide))
                have kz120_k122 : (gA z120.2 3 (4 : Int32).toNatClampNeg).toInt = (gA z115.2 3 (4 : Int32).toNatClampNeg).toInt := congrArg (fun g => (g (4 : Int32).toNatClampNeg).toInt) (hz120_2.2.1 3 (by decide))
                have kz120_k123 : (gI z120.2 20).toInt = (gI z115.2 20).toInt := congrArg Int32.toInt (hz120_2.1 20 (by decide))
                have kz120_k124 : (gI z120.2 43).toInt = (gI z115.2 43).toInt := congrArg Int32.toInt (hz120_2.1 43 (by decide))
                refine wp_if (fun c125 => ?_) (fun c125 => ?_)
                · have c125 := cv_ge (a := z120.1.toInt) (b := 2) rfl (by decide) c125
                  unfold bk_X9_centuries_140
                  refine wp_if (fun c126 => ?_) (fun c126 => ?_)
                  · have c126 := cv_eq (a := z120.1.toInt) (b := 2) rfl (by decide) c126
                    refine wp_bd (s_X9_layPlaces   z120.2 z115.1  hz120_1  ⟨by omega, by omega⟩ ⟨by omega, by omega⟩) (fun z127 hz127 => ?_)
                    obtain ⟨hz127_0, hz127_1⟩ := hz127
                    have hkpz127_me : Kp [8, 11, 13, 14, 15, 16, 18, 19, 20, 21, 23, 26, 29, 56, 57, 58, 59] [4, 5, 7, 10, 12, 22, 24, 25, 27, 28, 48, 50, 51, 55] [(0, 1), (1, 2), (29, 36), (36, 64), (64, 71)] o_me z127 := hkpz120_me.trans (hz127_1.mono (by decide) (by decide) (by decide))
                    have kz127_k128 : (gA z127 3 (0 : Int32).toNatClampNeg).toInt = (gA z120.2 3 (0 : Int32).toNatClampNeg).toInt := congrArg (fun g => (g (0 : Int32).toNatClampNeg).toInt) (hz127_1.2.1 3 (by decide))
                    have kz127_k129 : (gA z127 3 (4 : Int32).toNatClampNeg).toInt = (gA z120.2 3 (4 : Int32).toNatClampNeg).toInt := congrArg (fun g => (g (4 : Int32).toNatClampNeg).toInt) (hz127_1.2.1 3 (by decide))
                    have kz127_k130 : (gI z127 20).toInt = (gI z120.2 20).toInt := congrArg Int32.toInt (hz127_1.1 20 (by decide))
                    have t131 := igX9_43 hz127_0
                    refine wp_if (fun c132 => ?_) (fun c132 => ?_)
                    · have c132 := cv_le (a := (gI z127 43).toInt) (b := 0) rfl (by decide) c132
                      unfold bk_X9_centuries_169
                      refine wp_if (fun c133 => ?_) (fun c133 => ?_)
                      · have c133 := cv_eq (a := z120.1.toInt) (b := 3) rfl (by decide) c133
                        exfalso; omega
                      · have c133 := cv_ne (a := z120.1.toInt) (b := 3) rfl (by decide) c133
                        unfold bk_X9_centuries_181
                        refine wp_bd (s_X9_passIt   z127  hz127_0  ⟨by omega, by omega⟩) (fun z134 hz134 => ?_)
                        obtain ⟨hz134_0, hz134_1, hz134_2⟩ := hz134
                        have hkpz134_me : Kp [8, 11, 13, 14, 15, 16, 18, 19, 20, 21, 23, 26, 29, 56, 57, 58, 59] [4, 5, 7, 10, 12, 22, 24, 25, 27, 28, 48, 50, 51, 55] [(0, 1), (1, 2), (29, 36), (36, 64), (64, 71)] o_me z134.2 := hkpz127_me.trans (hz134_2.mono (by decide) (by decide) (by decide))
                        have kz134_k135 : (gI z134.2 20).toInt = (gI z127 20).toInt := congrArg Int32.toInt (hz134_2.1 20 (by decide))
                        have kz134_k136 : (gI z134.2 43).toInt = (gI z127 43).toInt := congrArg Int32.toInt (hz134_2.1 43 (by decide))
                        refine wp_lt (fun x137 ex137 => ?_)
                        have tx137 : x137.toInt = v4_1.toInt + 1 := by rw [ex137]; exact i32_add rfl (by decide) (by omega) (by omega)
                        exact ih1 v2_1 v3_1 x137 z134.2 hz134_1 hkpz134_me ⟨by omega, by omega⟩ ⟨by omega, by omega⟩ ⟨by omega, by omega⟩ ⟨by omega, by omega⟩ ⟨by omega, by omega⟩ (by omega) (by omega) (by omega) (by omega)
                    · have c132 := cv_nle (a := (gI z127 43).toInt) (b := 0) rfl (by decide) c132
                      refine wp_bd (s_X9_raceIt   z127 z115.1  hz127_0  ⟨by omega, by omega⟩ ⟨by omega, by omega⟩) (fun z138 hz138 => ?_)
                      obtain ⟨hz138_0, hz138_1, hz138_2⟩ := hz138
                      have hkpz138_me : Kp [8, 11, 13, 14, 15, 16, 18, 19, 20, 21, 23, 26, 29, 56, 57, 58, 59] [4, 5, 7, 10, 12, 22, 24, 25, 27, 28, 48, 50, 51, 55] [(0, 1), (1, 2), (29, 36), (36, 64), (64, 71)] o_me z138.2 := hkpz127_me.trans (hz138_2.mono (by decide) (by decide) (by decide))
                      have kz138_k139 : (gI z138.2 20).toInt = (gI z127 20).toInt := congrArg Int32.toInt (hz138_2.1 20 (by decide))
                      have kz138_k140 : (gI z138.2 43).toInt = (gI z127 43).toInt := congrArg Int32.toInt (hz138_2.1 43 (by decide))
                      refine wp_lt (fun x141 ex141 => ?_)
                      have tx141 : x141.toInt = v3_1.toInt + 1 := by rw [ex141]; exact i32_add rfl (by decide) (by omega) (by omega)
                      unfold bk_X9_centuries_169
                      refine wp_if (fun c142 => ?_) (fun c142 => ?_)
                      · have c142 := cv_eq (a := z120.1.toInt) (b := 3) rfl (by decide) c142
                        exfalso; omega
                      · have c142 := cv_ne (a := z120.1.toInt) (b := 3) rfl (by decide) c142
                        unfold bk_X9_centuries_181
                        refine wp_bd (s_X9_passIt   z138.2  hz138_1  ⟨by omega, by omega⟩) (fun z143 hz143 => ?_)
                        obtain ⟨hz143_0, hz143_1, hz143_2⟩ := hz143
                        have hkpz143_me : Kp [8, 11, 13, 14, 15, 16, 18, 19, 20, 21, 23, 26, 29, 56, 57, 58, 59] [4, 5, 7, 10, 12, 22, 24, 25, 27, 28, 48, 50, 51, 55] [(0, 1), (1, 2), (29, 36), (36, 64), (64, 71)] o_me z143.2 := hkpz138_me.trans (hz143_2.mono (by decide) (by decide) (by decide))
                        have kz143_k144 : (gI z143.2 20).toInt = (gI z138.2 20).toInt := congrArg Int32.toInt (hz143_2.1 20 (by decide))
                        have kz143_k145 : (gI z143.2 43).toInt = (gI z138.2 43).toInt := congrArg Int32.toInt (hz143_2.1 43 (by decide))
                        refine wp_lt (fun x146 ex146 => ?_)
                        have tx146 : x146.toInt = v4_1.toInt + 1 := by rw [ex146]; exact i32_add rfl (by decide) (by omega) (by omega)
                        exact ih1 v2_1 x141 x146 z143.2 hz143_1 hkpz143_me ⟨by omega, by omega⟩ ⟨by omega, by omega⟩ ⟨by omega, by omega⟩ ⟨by omega, by omega⟩ ⟨by omega, by omega⟩ (by omega) (by omega) (by omega) (by omega)
                  · have c126 := cv_ne (a := z120.1.toInt) (b := 2) rfl (by decide) c126
                    unfold bk_X9_centuries_169
                    refine wp_if (fun c147 => ?_) (fun c147 => ?_)
                    · have c147 := cv_eq (a := z120.1.toInt) (b := 3) rfl (by decide) c147
                      refine wp_bd (s_X9_takeIt   z120.2 z110.1  hz120_1  ⟨by omega, by omega⟩) (fun z148 hz148 => ?_)
                      obtain ⟨hz148_0, hz148_1⟩ := hz148
                      have hkpz148_me : Kp [8, 11, 13, 14, 15, 16, 18, 19, 20, 21, 23, 26, 29, 56, 57, 58, 59] [4, 5, 7, 10, 12, 22, 24, 25, 27, 28, 48, 50, 51, 55] [(0, 1), (1, 2), (29, 36), (36, 64), (64, 71)] o_me z148 := hkpz120_me.trans (hz148_1.mono (by decide) (by decide) (by decide))
                      have kz148_k149 : (gI z148 20).toInt = (gI z120.2 20).toInt := congrArg Int32.toInt (hz148_1.1 20 (by decide))
                      have kz148_k150 : (gI z148 43).toInt = (gI z120.2 43).toInt := congrArg Int32.toInt (hz148_1.1 43 (by decide))
                      unfold bk_X9_centuries_181
                      refine wp_bd (s_X9_passIt   z148  hz148_0  ⟨by omega, by omega⟩) (fun z151 hz151 => ?_)
                      obtain ⟨hz151_0, hz151_1, hz151_2⟩ := hz151
                      have hkpz151_me : Kp [8, 11, 13, 14, 15, 16, 18, 19, 20, 21, 23, 26, 29, 56, 57, 58, 59] [4, 5, 7, 10, 12, 22, 24, 25, 27, 28, 48, 50, 51, 55] [(0, 1), (1, 2), (29, 36), (36, 64), (64, 71)] o_me z151.2 := hkpz148_me.trans (hz151_2.mono (by decide) (by decide) (by decide))
                      have kz151_k152 : (gI z151.2 20).toInt = (gI z148 20).toInt := congrArg Int32.toInt (hz151_2.1 20 (by decide))
                      have kz151_k153 : (gI z151.2 43).toInt = (gI z148 43).toInt := congrArg Int32.toInt (hz151_2.1 43 (by decide))
                      refine wp_lt (fun x154 ex154 => ?_)
                      have tx154 : x154.toInt = v4_1.toInt + 1 := by rw [ex154]; exact i32_add rfl (by decide) (by omega) (by omega)
                      exact ih1 v2_1 v3_1 x154 z151.2 hz151_1 hkpz151_me ⟨by omega, by omega⟩ ⟨by omega, by omega⟩ ⟨by omega, by omega⟩ ⟨by omega, by omega⟩ ⟨by omega, by omega⟩ (by omega) (by omega) (by omega) (by omega)
                    · have c147 := cv_ne (a := z120.1.toInt) (b := 3) rfl (by decide) c147
                      exfalso; omega
                · have c125 := cv_nge (a := z120.1.toInt) (b := 2) rfl (by decide) c125
                  have t155 : ((22 : Int32) + z110.1).toInt = 22 + z110.1.toInt := i32_add (by decide) rfl (by omega) (by omega)
                  refine wp_gd (zin_of (m := 5484) rfl (by omega) (by omega)) ?_
                  have t156 := iaX9_3_6 hz120_1 (j := (22 : Int32) + z110.1) (by omega) (by omega)
                  have t157 : ((1 : Int32) - (gA z120.2 3 ((22 : Int32) + z110.1).toNatClampNeg)).toInt = 1 - (gA z120.2 3 ((22 : Int32) + z110.1).toNatClampNeg).toInt := i32_sub (by decide) rfl (by omega) (by omega)
                  refine wp_gd (zin_of (m := 5484) rfl (by omega) (by omega)) ?_
                  refine wp_lt (fun o158 eo158 => ?_)
                  have hIo158 : IvX9 o158 := by rw [eo158]; exact ibX9_3 hz120_1 (by omega) (by omega) (Or.inr (Or.inl (by first | omega | decide))) (Or.inr (Or.inl (by first | omega | decide))) (Or.inr (Or.inl (by first | omega | decide))) (Or.inr (Or.inl (by first | omega | decide))) (Or.inr (Or.inl (by first | omega | decide))) (Or.inr (Or.inl (by first | omega | decide))) (Or.inr (Or.inr ⟨by omega, by omega⟩)) (Or.inl (by first | omega | decide)) (Or.inl (by first | omega | decide))
                  have ko158_k159 : (gA o158 3 (0 : Int32).toNatClampNeg).toInt = (gA z120.2 3 (0 : Int32).toNatClampNeg).toInt := by rw [eo158]; exact congrArg Int32.toInt (upd_ne (g := gA z120.2 3) (i := ((22 : Int32) + z110.1)) (j := (0 : Int32)) (v := ((1 : Int32) - (gA z120.2 3 ((22 : Int32) + z110.1).toNatClampNeg))) (by omega) (by decide) (by omega))
                  have ko158_k160 : (gA o158 3 (4 : Int32).toNatClampNeg).toInt = (gA z120.2 3 (4 : Int32).toNatClampNeg).toInt := by rw [eo158]; exact congrArg Int32.toInt (upd_ne (g := gA z120.2 3) (i := ((22 : Int32) + z110.1)) (j := (4 : Int32)) (v := ((1 : Int32) - (gA z120.2 3 ((22 : Int32) + z110.1).toNatClampNeg))) (by omega) (by decide) (by omega))
                  have ko158_k161 : (gI o158 20).toInt = (gI z120.2 20).toInt := by rw [eo158]; rfl
                  have ko158_k162 : (gI o158 43).toInt = (gI z120.2 43).toInt := by rw [eo158]; rfl
                  have ko158_v : (gA o158 3 ((22 : Int32) + z110.1).toNatClampNeg).toInt = ((1 : Int32) - (gA z120.2 3 ((22 : Int32) + z110.1).toNatClampNeg)).toInt := by rw [eo158]; exact congrArg Int32.toInt (upd_eq (g := gA z120.2 3) (i := ((22 : Int32) + z110.1)) (v := ((1 : Int32) - (gA z120.2 3 ((22 : Int32) + z110.1).toNatClampNeg))))
                  have hkpo158 : Kp [8, 11, 13, 14, 15, 16, 18, 19, 20, 21, 23, 26, 29, 56, 57, 58, 59] [4, 5, 7, 10, 12, 22, 24, 25, 27, 28, 48, 50, 51, 55] [(0, 1), (1, 2), (29, 36), (36, 64), (64, 71)] o_me o158 := hkpz120_me.trans (by rw [eo158]; exact kp_bw (a := 2) (b := 29) (by decide) (by decide) (by omega) (by omega))
                  unfold bk_X9_centuries_140
                  refine wp_if (fun c163 => ?_) (fun c163 => ?_)
                  · have c163 := cv_eq (a := z120.1.toInt) (b := 2) rfl (by decide) c163
                    exfalso; omega
                  · have c163 := cv_ne (a := z120.1.toInt) (b := 2) rfl (by decide) c163
                    unfold bk_X9_centuries_169
                    refine wp_if (fun c164 => ?_) (fun c164 => ?_)
                    · have c164 := cv_eq (a := z120.1.toInt) (b := 3) rfl (by decide) c164
                      exfalso; omega
                    · have c164 := cv_ne (a := z120.1.toInt) (b := 3) rfl (by decide) c164
                      unfold bk_X9_centuries_181
                      refine wp_bd (s_X9_passIt   o158  hIo158  ⟨by omega, by omega⟩) (fun z165 hz165 => ?_)
                      obtain ⟨hz165_0, hz165_1, hz165_2⟩ := hz165
                      have hkpz165_me : Kp [8, 11, 13, 14, 15, 16, 18, 19, 20, 21, 23, 26, 29, 56, 57, 58, 59] [4, 5, 7, 10, 12, 22, 24, 25, 27, 28, 48, 50, 51, 55] [(0, 1), (1, 2), (29, 36), (36, 64), (64, 71)] o_me z165.2 := hkpo158.trans (hz165_2.mono (by decide) (by decide) (by decide))
                      have kz165_k166 : (gI z165.2 20).toInt = (gI o158 20).toInt := congrArg Int32.toInt (hz165_2.1 20 (by decide))
                      have kz165_k167 : (gI z165.2 43).toInt = (gI o158 43).toInt := congrArg Int32.toInt (hz165_2.1 43 (by decide))
                      refine wp_lt (fun x168 ex168 => ?_)
                      have tx168 : x168.toInt = v4_1.toInt + 1 := by rw [ex168]; exact i32_add rfl (by decide) (by omega) (by omega)
                      exact ih1 v2_1 v3_1 x168 z165.2 hz165_1 hkpz165_me ⟨by omega, by omega⟩ ⟨by omega, by omega⟩ ⟨by omega, by omega⟩ ⟨by omega, by omega⟩ ⟨by omega, by omega⟩ (by omega) (by omega) (by omega) (by omega)
        exact lp1 zfu p1 (0 : Int32) (0 : Int32) o28 hIo28 hkpo28 ⟨by omega, by omega⟩ ⟨by decide, by decide⟩ ⟨by decide, by decide⟩ ⟨by omega, by omega⟩ ⟨by omega, by omega⟩ (by omega) (by omega) (by omega) (by show _ < 100000; omega)

set_option maxHeartbeats 4000000 in
set_option maxRecDepth 100000 in
theorem s_X9_change (o_me : Ob) (p0 : Int32) (p1 : Int32) (hI_me : IvX9 o_me) (q0 : 36 ≤ p0.toInt ∧ p0.toInt ≤ 63) : wp (f_X9_change   o_me p0 p1) (fun (y : Int32 × Ob) => IvX9 y.2 ∧ Kp [8, 11, 13, 14, 15, 16, 18, 19, 20, 21, 23, 26, 29, 34, 38, 43, 56, 57, 58, 59, 62] [2, 4, 5, 7, 10, 12, 22, 24, 25, 27, 28, 42, 48, 50, 51, 55, 61] [(0, 1), (1, 2), (29, 36), (64, 71)] o_me y.2) := by
  have li0 : (0 : Int32).toInt = 0 := by decide
  unfold f_X9_change
  refine wp_gd (zin_of (m := 5484) rfl (by omega) (by omega)) ?_
  refine wp_lt (fun x1 ex1 => ?_)
  have tx1 : x1.toInt = (gA o_me 3 p0.toNatClampNeg).toInt := by rw [ex1]
  refine wp_gd (zin_of (m := 5484) rfl (by omega) (by omega)) ?_
  refine wp_lt (fun o2 eo2 => ?_)
  have hIo2 : IvX9 o2 := by rw [eo2]; exact ibX9_3 hI_me (by omega) (by omega) (Or.inr (Or.inl (by first | omega | decide))) (Or.inr (Or.inl (by first | omega | decide))) (Or.inr (Or.inl (by first | omega | decide))) (Or.inr (Or.inl (by first | omega | decide))) (Or.inr (Or.inl (by first | omega | decide))) (Or.inr (Or.inl (by first | omega | decide))) (Or.inr (Or.inl (by first | omega | decide))) (Or.inr (Or.inl (by first | omega | decide))) (Or.inl (by first | omega | decide))
  have ko2_v : (gA o2 3 p0.toNatClampNeg).toInt = p1.toInt := by rw [eo2]; exact congrArg Int32.toInt (upd_eq (g := gA o_me 3) (i := p0) (v := p1))
  have hkpo2 : Kp [8, 11, 13, 14, 15, 16, 18, 19, 20, 21, 23, 26, 29, 34, 38, 43, 56, 57, 58, 59, 62] [2, 4, 5, 7, 10, 12, 22, 24, 25, 27, 28, 42, 48, 50, 51, 55, 61] [(0, 1), (1, 2), (29, 36), (64, 71)] o_me o2 := Kp.rf.trans (by rw [eo2]; exact kp_bw (a := 36) (b := 64) (by decide) (by decide) (by omega) (by omega))
  refine wp_lt (fun o3 eo3 => ?_)
  have hIo3 : IvX9 o3 := by rw [eo3]; exact hIo2
  have ko3_k4 : (gA o3 3 p0.toNatClampNeg).toInt = (gA o2 3 p0.toNatClampNeg).toInt := by rw [eo3]; rfl
  have ko3_v : (gI o3 1).toInt = 0 := by rw [eo3]; exact (show ((0 : Int32)).toInt = _ from by decide)
  have hkpo3 : Kp [8, 11, 13, 14, 15, 16, 18, 19, 20, 21, 23, 26, 29, 34, 38, 43, 56, 57, 58, 59, 62] [2, 4, 5, 7, 10, 12, 22, 24, 25, 27, 28, 42, 48, 50, 51, 55, 61] [(0, 1), (1, 2), (29, 36), (64, 71)] o_me o3 := hkpo2.trans (by rw [eo3]; exact Kp.sI (by decide))
  refine wp_some ?_
  exact (show IvX9 o3 ∧ Kp [8, 11, 13, 14, 15, 16, 18, 19, 20, 21, 23, 26, 29, 34, 38, 43, 56, 57, 58, 59, 62] [2, 4, 5, 7, 10, 12, 22, 24, 25, 27, 28, 42, 48, 50, 51, 55, 61] [(0, 1), (1, 2), (29, 36), (64, 71)] o_me o3 from ⟨hIo3, hkpo3⟩)

set_option maxHeartbeats 4000000 in
set_option maxRecDepth 100000 in
theorem s_X9_circles (o_me : Ob) (hI_me : IvX9 o_me)  : wp (f_X9_circles   o_me) (fun (y : Int32 × Ob) => IvX9 y.2 ∧ Kp [1, 8, 11, 13, 14, 15, 16, 18, 19, 20, 21, 23, 26, 29, 34, 38, 43, 56, 57, 58, 59, 62] [2, 3, 4, 5, 7, 10, 12, 22, 24, 25, 27, 28, 42, 48, 50, 51, 55, 61] [(0, 1), (1, 2), (29, 36), (36, 64), (64, 71)] o_me y.2) := by
  have li0 : (0 : Int32).toInt = 0 := by decide
  have li1 : (1 : Int32).toInt = 1 := by decide
  have li2 : (64 : Int32).toInt = 64 := by decide
  unfold f_X9_circles
  refine wp_lt (fun o1 eo1 => ?_)
  have hIo1 : IvX9 o1 := by rw [eo1]; exact hI_me
  have ko1_v : (gI o1 0).toInt = 0 := by rw [eo1]; exact (show ((0 : Int32)).toInt = _ from by decide)
  have hkpo1 : Kp [1, 8, 11, 13, 14, 15, 16, 18, 19, 20, 21, 23, 26, 29, 34, 38, 43, 56, 57, 58, 59, 62] [2, 3, 4, 5, 7, 10, 12, 22, 24, 25, 27, 28, 42, 48, 50, 51, 55, 61] [(0, 1), (1, 2), (29, 36), (36, 64), (64, 71)] o_me o1 := Kp.rf.trans (by rw [eo1]; exact Kp.sI (by decide))
  have lp1 : ∀ (N1 : Nat) (v1_1 : Int32) (v2_1 : Int32) (o_me_1 : Ob), IvX9 o_me_1 → Kp [1, 8, 11, 13, 14, 15, 16, 18, 19, 20, 21, 23, 26, 29, 34, 38, 43, 56, 57, 58, 59, 62] [2, 3, 4, 5, 7, 10, 12, 22, 24, 25, 27, 28, 42, 48, 50, 51, 55, 61] [(0, 1), (1, 2), (29, 36), (36, 64), (64, 71)] o_me o_me_1 → (0 ≤ v2_1.toInt ∧ v2_1.toInt ≤ 7) → (7 - v2_1.toInt).toNat < N1 → wp (lp_X9_circles_9   N1 (v1_1, v2_1, o_me_1)) (fun (y : Int32 × Ob) => IvX9 y.2 ∧ Kp [1, 8, 11, 13, 14, 15, 16, 18, 19, 20, 21, 23, 26, 29, 34, 38, 43, 56, 57, 58, 59, 62] [2, 3, 4, 5, 7, 10, 12, 22, 24, 25, 27, 28, 42, 48, 50, 51, 55, 61] [(0, 1), (1, 2), (29, 36), (36, 64), (64, 71)] o_me y.2) := by
    intro N1
    induction N1 with
    | zero =>
      intro v1_1 v2_1 o_me_1 hI_me_1 hkp_me_1 hh2 hN1
      exact absurd hN1 (Nat.not_lt_zero _)
    | succ N1 ihx =>
      have ih1 := ihx
      intro v1_1 v2_1 o_me_1 hI_me_1 hkp_me_1 hh2 hN1
      show wp (lb_X9_circles_9   (lp_X9_circles_9   N1) v1_1 v2_1 o_me_1) (fun (y : Int32 × Ob) => IvX9 y.2 ∧ Kp [1, 8, 11, 13, 14, 15, 16, 18, 19, 20, 21, 23, 26, 29, 34, 38, 43, 56, 57, 58, 59, 62] [2, 3, 4, 5, 7, 10, 12, 22, 24, 25, 27, 28, 42, 48, 50, 51, 55, 61] [(0, 1), (1, 2), (29, 36), (36, 64), (64, 71)] o_me y.2)
      unfold lb_X9_circles_9
      have kc3 : (gA o_me_1 3 (0 : Int32).toNatClampNeg).toInt = (gA o_me 3 (0 : Int32).toNatClampNeg).toInt := congrArg Int32.toInt (hkp_me_1.2.2 (0, 1) (by decide) (0 : Int32).toNatClampNeg (by decide) (by decide))
      have t4 := iaX9_3_0 hI_me_1 (j := (0 : Int32)) (by decide) (by decide)
      refine wp_if (fun c5 => ?_) (fun c5 => ?_)
      · have c5 := cv_ge (a := v2_1.toInt) (b := (gA o_me_1 3 (0 : Int32).toNatClampNeg).toInt) rfl rfl c5
        refine wp_some ?_
        exact (show IvX9 o_me_1 ∧ Kp [1, 8, 11, 13, 14, 15, 16, 18, 19, 20, 21, 23, 26, 29, 34, 38, 43, 56, 57, 58, 59, 62] [2, 3, 4, 5, 7, 10, 12, 22, 24, 25, 27, 28, 42, 48, 50, 51, 55, 61] [(0, 1), (1, 2), (29, 36), (36, 64), (64, 71)] o_me o_me_1 from ⟨hI_me_1, hkp_me_1⟩)
      · have c5 := cv_nge (a := v2_1.toInt) (b := (gA o_me_1 3 (0 : Int32).toNatClampNeg).toInt) rfl rfl c5
        have t6 : (v2_1 + (1 : Int32)).toInt = v2_1.toInt + 1 := i32_add rfl (by decide) (by omega) (by omega)
        refine wp_lt (fun x7 ex7 => ?_)
        have tx7 : x7.toInt = (v2_1 + (1 : Int32)).toInt := by rw [ex7]
        have lp2 : ∀ (N2 : Nat) (v1_2 : Int32) (v2_2 : Int32) (v3_2 : Int32) (o_me_2 : Ob), IvX9 o_me_2 → Kp [1, 8, 11, 13, 14, 15, 16, 18, 19, 20, 21, 23, 26, 29, 34, 38, 43, 56, 57, 58, 59, 62] [2, 3, 4, 5, 7, 10, 12, 22, 24, 25, 27, 28, 42, 48, 50, 51, 55, 61] [(0, 1), (1, 2), (29, 36), (36, 64), (64, 71)] o_me o_me_2 → (0 ≤ v2_2.toInt ∧ v2_2.toInt ≤ 6) → (1 ≤ v3_2.toInt ∧ v3_2.toInt ≤ 7) → (v2_2.toInt ≤ v3_2.toInt + (-1)) → (v2_2.toInt ≤ x7.toInt + (-1)) → (x7.toInt ≤ v2_2.toInt + 1) → (v2_2.toInt ≤ v2_1.toInt + 0) → (v2_1.toInt ≤ v2_2.toInt + 0) → (x7.toInt ≤ v3_2.toInt + 0) → (v2_1.toInt ≤ v3_2.toInt + (-1)) → (7 - v3_2.toInt).toNat < N2 → wp (lp_X9_circles_23  (lp_X9_circles_9   N1) N2 (v1_2, v2_2, v3_2, o_me_2)) (fun (y : Int32 × Ob) => IvX9 y.2 ∧ Kp [1, 8, 11, 13, 14, 15, 16, 18, 19, 20, 21, 23, 26, 29, 34, 38, 43, 56, 57, 58, 59, 62] [2, 3, 4, 5, 7, 10, 12, 22, 24, 25, 27, 28, 42, 48, 50, 51, 55, 61] [(0, 1), (1, 2), (29, 36), (36, 64), (64, 71)] o_me y.2) := by
          intro N2
          induction N2 with
          | zero =>
            intro v1_2 v2_2 v3_2 o_me_2 hI_me_2 hkp_me_2 hh8 hh9 hh10 hh11 hh12 hh13 hh14 hh15 hh16 hN2
            exact absurd hN2 (Nat.not_lt_zero _)
          | succ N2 ihx =>
            have ih2 := ihx
            intro v1_2 v2_2 v3_2 o_me_2 hI_me_2 hkp_me_2 hh8 hh9 hh10 hh11 hh12 hh13 hh14 hh15 hh16 hN2
            show wp (lb_X9_circles_23  (lp_X9_circles_9   N1) (lp_X9_circles_23  (lp_X9_circles_9   N1) N2) v1_2 v2_2 v3_2 o_me_2) (fun (y : Int32 × Ob) => IvX9 y.2 ∧ Kp [1, 8, 11, 13, 14, 15, 16, 18, 19, 20, 21, 23, 26, 29, 34, 38, 43, 56, 57, 58, 59, 62] [2, 3, 4, 5, 7, 10, 12, 22, 24, 25, 27, 28, 42, 48, 50, 51, 55, 61] [(0, 1), (1, 2), (29, 36), (36, 64), (64, 71)] o_me y.2)
            unfold lb_X9_circles_23
            have kc17 : (gA o_me_2 3 (0 : Int32).toNatClampNeg).toInt = (gA o_me 3 (0 : Int32).toNatClampNeg).toInt := congrArg Int32.toInt (hkp_me_2.2.2 (0, 1) (by decide) (0 : Int32).toNatClampNeg (by decide) (by decide))
            have t18 := iaX9_3_0 hI_me_2 (j := (0 : Int32)) (by decide) (by decide)
            refine wp_if (fun c19 => ?_) (fun c19 => ?_)
            · have c19 := cv_ge (a := v3_2.toInt) (b := (gA o_me_2 3 (0 : Int32).toNatClampNeg).toInt) rfl rfl c19
              refine wp_lt (fun x20 ex20 => ?_)
              have tx20 : x20.toInt = v2_2.toInt + 1 := by rw [ex20]; exact i32_add rfl (by decide) (by omega) (by omega)
              exact ih1 v1_2 x20 o_me_2 hI_me_2 hkp_me_2 ⟨by omega, by omega⟩ (by omega)
            · have c19 := cv_nge (a := v3_2.toInt) (b := (gA o_me_2 3 (0 : Int32).toNatClampNeg).toInt) rfl rfl c19
              have t21 : (v2_2 + (1 : Int32)).toInt = v2_2.toInt + 1 := i32_add rfl (by decide) (by omega) (by omega)
              refine wp_lt (fun x22 ex22 => ?_)
              have tx22 : x22.toInt = (v2_2 + (1 : Int32)).toInt := by rw [ex22]
              have lp3 : ∀ (N3 : Nat) (v1_3 : Int32) (v2_3 : Int32) (v3_3 : Int32) (v4_3 : Int32) (o_me_3 : Ob), IvX9 o_me_3 → Kp [1, 8, 11, 13, 14, 15, 16, 18, 19, 20, 21, 23, 26, 29, 34, 38, 43, 56, 57, 58, 59, 62] [2, 3, 4, 5, 7, 10, 12, 22, 24, 25, 27, 28, 42, 48, 50, 51, 55, 61] [(0, 1), (1, 2), (29, 36), (36, 64), (64, 71)] o_me o_me_3 → (0 ≤ v2_3.toInt ∧ v2_3.toInt ≤ 5) → (1 ≤ v3_3.toInt ∧ v3_3.toInt ≤ 6) → (1 ≤ v4_3.toInt ∧ v4_3.toInt ≤ 7) → (v2_3.toInt ≤ v3_3.toInt + (-1)) → (v2_3.toInt ≤ v4_3.toInt + (-1)) → (v2_3.toInt ≤ v3_2.toInt + (-1)) → (v2_3.toInt ≤ x7.toInt + (-1)) → (x7.toInt ≤ v2_3.toInt + 1) → (v2_3.toInt ≤ v2_2.toInt + 0) → (v2_2.toInt ≤ v2_3.toInt + 0) → (v2_3.toInt ≤ v2_1.toInt + 0) → (v2_1.toInt ≤ v2_3.toInt + 0) → (v2_3.toInt ≤ x22.toInt + (-1)) → (x22.toInt ≤ v2_3.toInt + 1) → (v3_3.toInt ≤ v3_2.toInt + 0) → (v3_2.toInt ≤ v3_3.toInt + 0) → (x7.toInt ≤ v3_3.toInt + 0) → (v2_2.toInt ≤ v3_3.toInt + (-1)) → (v2_1.toInt ≤ v3_3.toInt + (-1)) → (x22.toInt ≤ v3_3.toInt + 0) → (x7.toInt ≤ v4_3.toInt + 0) → (v2_2.toInt ≤ v4_3.toInt + (-1)) → (v2_1.toInt ≤ v4_3.toInt + (-1)) → (x22.toInt ≤ v4_3.toInt + 0) → (7 - v4_3.toInt).toNat < N3 → wp (lp_X9_circles_38  (lp_X9_circles_9   N1) (lp_X9_circles_23  (lp_X9_circles_9   N1) N2) N3 (v1_3, v2_3, v3_3, v4_3, o_me_3)) (fun (y : Int32 × Ob) => IvX9 y.2 ∧ Kp [1, 8, 11, 13, 14, 15, 16, 18, 19, 20, 21, 23, 26, 29, 34, 38, 43, 56, 57, 58, 59, 62] [2, 3, 4, 5, 7, 10, 12, 22, 24, 25, 27, 28, 42, 48, 50, 51, 55, 61] [(0, 1), (1, 2), (29, 36), (36, 64), (64, 71)] o_me y.2) := by
                intro N3
                induction N3 with
                | zero =>
                  intro v1_3 v2_3 v3_3 v4_3 o_me_3 hI_me_3 hkp_me_3 hh23 hh24 hh25 hh26 hh27 hh28 hh29 hh30 hh31 hh32 hh33 hh34 hh35 hh36 hh37 hh38 hh39 hh40 hh41 hh42 hh43 hh44 hh45 hh46 hN3
                  exact absurd hN3 (Nat.not_lt_zero _)
                | succ N3 ihx =>
                  have ih3 := ihx
                  intro v1_3 v2_3 v3_3 v4_3 o_me_3 hI_me_3 hkp_me_3 hh23 hh24 hh25 hh26 hh27 hh28 hh29 hh30 hh31 hh32 hh33 hh34 hh35 hh36 hh37 hh38 hh39 hh40 hh41 hh42 hh43 hh44 hh45 hh46 hN3
                  show wp (lb_X9_circles_38  (lp_X9_circles_9   N1) (lp_X9_circles_23  (lp_X9_circles_9   N1) N2) (lp_X9_circles_38  (lp_X9_circles_9   N1) (lp_X9_circles_23  (lp_X9_circles_9   N1) N2) N3) v1_3 v2_3 v3_3 v4_3 o_me_3) (fun (y : Int32 × Ob) => IvX9 y.2 ∧ Kp [1, 8, 11, 13, 14, 15, 16, 18, 19, 20, 21, 23, 26, 29, 34, 38, 43, 56, 57, 58, 59, 62] [2, 3, 4, 5, 7, 10, 12, 22, 24, 25, 27, 28, 42, 48, 50, 51, 55, 61] [(0, 1), (1, 2), (29, 36), (36, 64), (64, 71)] o_me y.2)
                  unfold lb_X9_circles_38
                  have kc47 : (gA o_me_3 3 (0 : Int32).toNatClampNeg).toInt = (gA o_me 3 (0 : Int32).toNatClampNeg).toInt := congrArg Int32.toInt (hkp_me_3.2.2 (0, 1) (by decide) (0 : Int32).toNatClampNeg (by decide) (by decide))
                  have t48 := iaX9_3_0 hI_me_3 (j := (0 : Int32)) (by decide) (by decide)
                  refine wp_if (fun c49 => ?_) (fun c49 => ?_)
                  · have c49 := cv_ge (a := v4_3.toInt) (b := (gA o_me_3 3 (0 : Int32).toNatClampNeg).toInt) rfl rfl c49
                    refine wp_lt (fun x50 ex50 => ?_)
                    have tx50 : x50.toInt = v3_3.toInt + 1 := by rw [ex50]; exact i32_add rfl (by decide) (by omega) (by omega)
                    exact ih2 v1_3 v2_3 x50 o_me_3 hI_me_3 hkp_me_3 ⟨by omega, by omega⟩ ⟨by omega, by omega⟩ (by omega) (by omega) (by omega) (by omega) (by omega) (by omega) (by omega) (by omega)
                  · have c49 := cv_nge (a := v4_3.toInt) (b := (gA o_me_3 3 (0 : Int32).toNatClampNeg).toInt) rfl rfl c49
                    refine wp_if (fun c51 => ?_) (fun c51 => ?_)
                    · have c51 := cv_eq (a := v3_3.toInt) (b := v4_3.toInt) rfl rfl c51
                      unfold bk_X9_circles_110
                      obtain ⟨w52, ew52⟩ : ∃ z : Int32, z = (0 : Int32) := ⟨_, rfl⟩
                      have tw52 : w52.toInt = 0 := by rw [ew52]; decide
                      rw [show bk_X9_circles_111  (lp_X9_circles_9   N1) (lp_X9_circles_23  (lp_X9_circles_9   N1) N2) (lp_X9_circles_38  (lp_X9_circles_9   N1) (lp_X9_circles_23  (lp_X9_circles_9   N1) N2) N3) v2_3 v3_3 v4_3 (0 : Int32) v1_3 o_me_3 = bk_X9_circles_111  (lp_X9_circles_9   N1) (lp_X9_circles_23  (lp_X9_circles_9   N1) N2) (lp_X9_circles_38  (lp_X9_circles_9   N1) (lp_X9_circles_23  (lp_X9_circles_9   N1) N2) N3) v2_3 v3_3 v4_3 w52 v1_3 o_me_3 from by rw [ew52]]
                      unfold bk_X9_circles_111
                      have rg54 := i32_rg v1_3
                      have t53 : (v1_3 + w52).toInt = v1_3.toInt + w52.toInt := i32_add rfl rfl (by omega) (by omega)
                      refine wp_lt (fun x55 ex55 => ?_)
                      have tx55 : x55.toInt = (v1_3 + w52).toInt := by rw [ex55]
                      refine wp_lt (fun x56 ex56 => ?_)
                      have tx56 : x56.toInt = v4_3.toInt + 1 := by rw [ex56]; exact i32_add rfl (by decide) (by omega) (by omega)
                      exact ih3 x55 v2_3 v3_3 x56 o_me_3 hI_me_3 hkp_me_3 ⟨by omega, by omega⟩ ⟨by omega, by omega⟩ ⟨by omega, by omega⟩ (by omega) (by omega) (by omega) (by omega) (by omega) (by omega) (by omega) (by omega) (by omega) (by omega) (by omega) (by omega) (by omega) (by omega) (by omega) (by omega) (by omega) (by omega) (by omega) (by omega) (by omega) (by omega)
                    · have c51 := cv_ne (a := v3_3.toInt) (b := v4_3.toInt) rfl rfl c51
                      have t57 : ((64 : Int32) + v2_3).toInt = 64 + v2_3.toInt := i32_add (by decide) rfl (by omega) (by omega)
                      refine wp_gd (zin_of (m := 5484) rfl (by omega) (by omega)) ?_
                      refine wp_bd (s_X9_is   (gA o_me_3 3 ((64 : Int32) + v2_3).toNatClampNeg) v3_3    ) (fun z58 hz58 => ?_)
                      have hz58_0 := hz58
                      refine wp_if (fun c59 => ?_) (fun c59 => ?_)
                      · have c59 := cv_eq (a := z58.toInt) (b := 0) rfl (by decide) c59
                        unfold bk_X9_circles_110
                        obtain ⟨w60, ew60⟩ : ∃ z : Int32, z = (0 : Int32) := ⟨_, rfl⟩
                        have tw60 : w60.toInt = 0 := by rw [ew60]; decide
                        rw [show bk_X9_circles_111  (lp_X9_circles_9   N1) (lp_X9_circles_23  (lp_X9_circles_9   N1) N2) (lp_X9_circles_38  (lp_X9_circles_9   N1) (lp_X9_circles_23  (lp_X9_circles_9   N1) N2) N3) v2_3 v3_3 v4_3 (0 : Int32) v1_3 o_me_3 = bk_X9_circles_111  (lp_X9_circles_9   N1) (lp_X9_circles_23  (lp_X9_circles_9   N1) N2) (lp_X9_circles_38  (lp_X9_circles_9   N1) (lp_X9_circles_23  (lp_X9_circles_9   N1) N2) N3) v2_3 v3_3 v4_3 w60 v1_3 o_me_3 from by rw [ew60]]
                        unfold bk_X9_circles_111
                        have rg62 := i32_rg v1_3
                        have t61 : (v1_3 + w60).toInt = v1_3.toInt + w60.toInt := i32_add rfl rfl (by omega) (by omega)
                        refine wp_lt (fun x63 ex63 => ?_)
                        have tx63 : x63.toInt = (v1_3 + w60).toInt := by rw [ex63]
                        refine wp_lt (fun x64 ex64 => ?_)
                        have tx64 : x64.toInt = v4_3.toInt + 1 := by rw [ex64]; exact i32_add rfl (by decide) (by omega) (by omega)
                        exact ih3 x63 v2_3 v3_3 x64 o_me_3 hI_me_3 hkp_me_3 ⟨by omega, by omega⟩ ⟨by omega, by omega⟩ ⟨by omega, by omega⟩ (by omega) (by omega) (by omega) (by omega) (by omega) (by omega) (by omega) (by omega) (by omega) (by omega) (by omega) (by omega) (by omega) (by omega) (by omega) (by omega) (by omega) (by omega) (by omega) (by omega) (by omega) (by omega)
                      · have c59z := c59
                        have c59 := cv_ne (a := z58.toInt) (b := 0) rfl (by decide) c59
                        have t65 : ((64 : Int32) + v3_3).toInt = 64 + v3_3.toInt := i32_add (by decide) rfl (by omega) (by omega)
                        refine wp_gd (zin_of (m := 5484) rfl (by omega) (by omega)) ?_
                        refine wp_bd (s_X9_is   (gA o_me_3 3 ((64 : Int32) + v3_3).toNatClampNeg) v4_3    ) (fun z66 hz66 => ?_)
                        have hz66_0 := hz66
                        refine wp_if (fun c67 => ?_) (fun c67 => ?_)
                        · have c67 := cv_eq (a := z66.toInt) (b := 0) rfl (by decide) c67
                          unfold bk_X9_circles_110
                          obtain ⟨w68, ew68⟩ : ∃ z : Int32, z = (0 : Int32) := ⟨_, rfl⟩
                          have tw68 : w68.toInt = 0 := by rw [ew68]; decide
                          rw [show bk_X9_circles_111  (lp_X9_circles_9   N1) (lp_X9_circles_23  (lp_X9_circles_9   N1) N2) (lp_X9_circles_38  (lp_X9_circles_9   N1) (lp_X9_circles_23  (lp_X9_circles_9   N1) N2) N3) v2_3 v3_3 v4_3 (0 : Int32) v1_3 o_me_3 = bk_X9_circles_111  (lp_X9_circles_9   N1) (lp_X9_circles_23  (lp_X9_circles_9   N1) N2) (lp_X9_circles_38  (lp_X9_circles_9   N1) (lp_X9_circles_23  (lp_X9_circles_9   N1) N2) N3) v2_3 v3_3 v4_3 w68 v1_3 o_me_3 from by rw [ew68]]
                          unfold bk_X9_circles_111
                          have rg70 := i32_rg v1_3
                          have t69 : (v1_3 + w68).toInt = v1_3.toInt + w68.toInt := i32_add rfl rfl (by omega) (by omega)
                          refine wp_lt (fun x71 ex71 => ?_)
                          have tx71 : x71.toInt = (v1_3 + w68).toInt := by rw [ex71]
                          refine wp_lt (fun x72 ex72 => ?_)
                          have tx72 : x72.toInt = v4_3.toInt + 1 := by rw [ex72]; exact i32_add rfl (by decide) (by omega) (by omega)
                          exact ih3 x71 v2_3 v3_3 x72 o_me_3 hI_me_3 hkp_me_3 ⟨by omega, by omega⟩ ⟨by omega, by omega⟩ ⟨by omega, by omega⟩ (by omega) (by omega) (by omega) (by omega) (by omega) (by omega) (by omega) (by omega) (by omega) (by omega) (by omega) (by omega) (by omega) (by omega) (by omega) (by omega) (by omega) (by omega) (by omega) (by omega) (by omega) (by omega)
                        · have c67z := c67
                          have c67 := cv_ne (a := z66.toInt) (b := 0) rfl (by decide) c67
                          have t73 : ((64 : Int32) + v4_3).toInt = 64 + v4_3.toInt := i32_add (by decide) rfl (by omega) (by omega)
                          refine wp_gd (zin_of (m := 5484) rfl (by omega) (by omega)) ?_
                          refine wp_bd (s_X9_is   (gA o_me_3 3 ((64 : Int32) + v4_3).toNatClampNeg) v2_3    ) (fun z74 hz74 => ?_)
                          have hz74_0 := hz74
                          refine wp_if (fun c75 => ?_) (fun c75 => ?_)
                          · have c75 := cv_eq (a := z74.toInt) (b := 0) rfl (by decide) c75
                            unfold bk_X9_circles_110
                            obtain ⟨w76, ew76⟩ : ∃ z : Int32, z = (0 : Int32) := ⟨_, rfl⟩
                            have tw76 : w76.toInt = 0 := by rw [ew76]; decide
                            rw [show bk_X9_circles_111  (lp_X9_circles_9   N1) (lp_X9_circles_23  (lp_X9_circles_9   N1) N2) (lp_X9_circles_38  (lp_X9_circles_9   N1) (lp_X9_circles_23  (lp_X9_circles_9   N1) N2) N3) v2_3 v3_3 v4_3 (0 : Int32) v1_3 o_me_3 = bk_X9_circles_111  (lp_X9_circles_9   N1) (lp_X9_circles_23  (lp_X9_circles_9   N1) N2) (lp_X9_circles_38  (lp_X9_circles_9   N1) (lp_X9_circles_23  (lp_X9_circles_9   N1) N2) N3) v2_3 v3_3 v4_3 w76 v1_3 o_me_3 from by rw [ew76]]
                            unfold bk_X9_circles_111
                            have rg78 := i32_rg v1_3
                            have t77 : (v1_3 + w76).toInt = v1_3.toInt + w76.toInt := i32_add rfl rfl (by omega) (by omega)
                            refine wp_lt (fun x79 ex79 => ?_)
                            have tx79 : x79.toInt = (v1_3 + w76).toInt := by rw [ex79]
                            refine wp_lt (fun x80 ex80 => ?_)
                            have tx80 : x80.toInt = v4_3.toInt + 1 := by rw [ex80]; exact i32_add rfl (by decide) (by omega) (by omega)
                            exact ih3 x79 v2_3 v3_3 x80 o_me_3 hI_me_3 hkp_me_3 ⟨by omega, by omega⟩ ⟨by omega, by omega⟩ ⟨by omega, by omega⟩ (by omega) (by omega) (by omega) (by omega) (by omega) (by omega) (by omega) (by omega) (by omega) (by omega) (by omega) (by omega) (by omega) (by omega) (by omega) (by omega) (by omega) (by omega) (by omega) (by omega) (by omega) (by omega)
                          · have c75z := c75
                            have c75 := cv_ne (a := z74.toInt) (b := 0) rfl (by decide) c75
                            obtain ⟨w81, ew81⟩ : ∃ z : Int32, z = (1 : Int32) := ⟨_, rfl⟩
                            have tw81 : w81.toInt = 1 := by rw [ew81]; decide
                            rw [show bk_X9_circles_111  (lp_X9_circles_9   N1) (lp_X9_circles_23  (lp_X9_circles_9   N1) N2) (lp_X9_circles_38  (lp_X9_circles_9   N1) (lp_X9_circles_23  (lp_X9_circles_9   N1) N2) N3) v2_3 v3_3 v4_3 (1 : Int32) v1_3 o_me_3 = bk_X9_circles_111  (lp_X9_circles_9   N1) (lp_X9_circles_23  (lp_X9_circles_9   N1) N2) (lp_X9_circles_38  (lp_X9_circles_9   N1) (lp_X9_circles_23  (lp_X9_circles_9   N1) N2) N3) v2_3 v3_3 v4_3 w81 v1_3 o_me_3 from by rw [ew81]]
                            unfold bk_X9_circles_111
                            refine wp_lt (fun x82 ex82 => ?_)
                            have tx82 : x82.toInt = (v1_3 + w81).toInt := by rw [ex82]
                            refine wp_lt (fun x83 ex83 => ?_)
                            have tx83 : x83.toInt = v4_3.toInt + 1 := by rw [ex83]; exact i32_add rfl (by decide) (by omega) (by omega)
                            exact ih3 x82 v2_3 v3_3 x83 o_me_3 hI_me_3 hkp_me_3 ⟨by omega, by omega⟩ ⟨by omega, by omega⟩ ⟨by omega, by omega⟩ (by omega) (by omega) (by omega) (by omega) (by omega) (by omega) (by omega) (by omega) (by omega) (by omega) (by omega) (by omega) (by omega) (by omega) (by omega) (by omega) (by omega) (by omega) (by omega) (by omega) (by omega) (by omega)
              exact lp3 zfu v1_2 v2_2 v3_2 x22 o_me_2 hI_me_2 hkp_me_2 ⟨by omega, by omega⟩ ⟨by omega, by omega⟩ ⟨by omega, by omega⟩ (by omega) (by omega) (by omega) (by omega) (by omega) (by omega) (by omega) (by omega) (by omega) (by omega) (by omega) (by omega) (by omega) (by omega) (by omega) (by omega) (by omega) (by omega) (by omega) (by omega) (by omega) (by show _ < 100000; omega)
        exact lp2 zfu v1_1 v2_1 x7 o_me_1 hI_me_1 hkp_me_1 ⟨by omega, by omega⟩ ⟨by omega, by omega⟩ (by omega) (by omega) (by omega) (by omega) (by omega) (by omega) (by omega) (by show _ < 100000; omega)
  exact lp1 zfu (0 : Int32) (0 : Int32) o1 hIo1 hkpo1 ⟨by decide, by decide⟩ (by show _ < 100000; omega)

