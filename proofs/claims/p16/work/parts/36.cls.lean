def f_X8_few (o_me : Ob) (o_me_isles : Ob) (o_me_study : Ob) (p0 : Int32) (p1 : Int32) : Option (Int64 × Ob) :=
  if p0 < (1 : Int32) then
  (some ((-1 : Int64), o_me_study))
  else
  (if (20 : Int32) < p0 then
  (some ((-1 : Int64), o_me_study))
  else
  (if p1 < (0 : Int32) then
  (some ((-1 : Int64), o_me_study))
  else
  (if p1 ≤ (99 : Int32) then
  ((f_X7_chanceOfFewer o_me_study o_me_isles p0 p1).bind fun z1 =>
  some (z1.1, z1.2))
  else
  (some ((-1 : Int64), o_me_study)))))
set_option maxHeartbeats 4000000 in
set_option maxRecDepth 100000 in
theorem m_X8_few (l : Launch) (dC : Nat → ClassId) (dI : Nat → Nat → Nat) (sz : Nat) (h_me : Nat) (h_me_reader : Nat) (h_me_machine : Nat) (h_me_isles : Nat) (h_me_court : Nat) (h_me_study : Nat) (h_me_paper : Nat) (h_me_paperCourt : Nat) (h_me_past : Nat) (h_me_pastAhead : Nat) (h_me_movingAhead : Nat) (h_me_isles_now : Nat) (q_me : Nat → Nat) (k_me : Nat → ClassId) (q_me_isles : Nat → Nat) (k_me_isles : Nat → ClassId) (q_me_study : Nat → Nat) (k_me_study : Nat → ClassId) (o_me : Ob) (o_me_isles : Ob) (o_me_study : Ob) (p0 : Int32) (p1 : Int32) (y : Int64 × Ob) (h : f_X8_few o_me o_me_isles o_me_study p0 p1 = some y) : CL l yX8_few cX8_few 3 (some .long) ({ frames := 2, cells := 0, slots := 0, locals := 51 } : Room) dC dI sz [.ref h_me, .int p0, .int p1] [wX8 h_me h_me_reader h_me_machine h_me_isles h_me_court h_me_study h_me_paper h_me_paperCourt h_me_past h_me_pastAhead h_me_movingAhead q_me k_me o_me, wX2 h_me_isles h_me_isles_now q_me_isles k_me_isles o_me_isles, wX7 h_me_study h_me_court h_me_isles q_me_study k_me_study o_me_study] [tX8 k_me, tX2 k_me_isles, tX7 k_me_study] y.1 [wX8 h_me h_me_reader h_me_machine h_me_isles h_me_court h_me_study h_me_paper h_me_paperCourt h_me_past h_me_pastAhead h_me_movingAhead q_me k_me o_me, wX2 h_me_isles h_me_isles_now q_me_isles k_me_isles o_me_isles, wX7 h_me_study h_me_court h_me_isles q_me_study k_me_study y.2] := by
  refine CC_of (by decide) (Nat.le_of_ble_eq_true rfl) ?_
  intro p e s m below meth c A ls hx hb hml hr hlk hnm hown hts hX hK hP hD hA hl
  have hl : lv_has ls 3 [(0, .ref h_me), (1, .int p0), (2, .int p1)] := hl
  have hown : s.vm.findClass RX8 = some m.cls := hown
  have hw : Wd dC dI A s.heap [wX8 h_me h_me_reader h_me_machine h_me_isles h_me_court h_me_study h_me_paper h_me_paperCourt h_me_past h_me_pastAhead h_me_movingAhead q_me k_me o_me, wX2 h_me_isles h_me_isles_now q_me_isles k_me_isles o_me_isles, wX7 h_me_study h_me_court h_me_isles q_me_study k_me_study o_me_study] s.heap [] := ⟨hP, hD, va_S.rf⟩
  generalize hQz : (MQ below (QL dC dI (fun r (_ : Unit) => r = y.1) (fun _ => Jn [wX8 h_me h_me_reader h_me_machine h_me_isles h_me_court h_me_study h_me_paper h_me_paperCourt h_me_past h_me_pastAhead h_me_movingAhead q_me k_me o_me, wX2 h_me_isles h_me_isles_now q_me_isles k_me_isles o_me_isles, wX7 h_me_study h_me_court h_me_isles q_me_study k_me_study y.2]) (fun _ => Jt [tX8 k_me, tX2 k_me_isles, tX7 k_me_study]) A) ([.ref h_me, .int p0, .int p1] : List Value).toArray s 0 0 A) = Qz
  clear hP hD hnm
  unfold f_X8_few at h
  refine lv_iload_n hx hb dX8_few_0 rfl (lv_at hl 1 rfl) ?_
  refine lv_iconst (v := 1) hx hb dX8_few_1 (by decide) ?_
  refine lv_icmp_lt (tgt := 21) hx hb dX8_few_2 (by decide) (fun c => ?_) (fun c => ?_)
  · have h := z_t h c
    refine lv_ldc2 (v := (-1)) hx hb hown (hts _ kw1078) dX8_few_21 ?_
    have hy := Option.some.inj h
    rw [← hQz, ← hy]
    exact xr_l (v := (-1 : Int64)) hx hb hr hlk hK hw dX8_few_24
  · have h := z_f h c
    refine lv_iload_n hx hb dX8_few_5 rfl (lv_at hl 1 rfl) ?_
    refine lv_bipush (v := 20) hx hb dX8_few_6 (by decide) ?_
    refine lv_icmp_gt (tgt := 21) hx hb dX8_few_8 (by decide) (fun c => ?_) (fun c => ?_)
    · have h := z_t h c
      refine lv_ldc2 (v := (-1)) hx hb hown (hts _ kw1078) dX8_few_21 ?_
      have hy := Option.some.inj h
      rw [← hQz, ← hy]
      exact xr_l (v := (-1 : Int64)) hx hb hr hlk hK hw dX8_few_24
    · have h := z_f h c
      refine lv_iload_n hx hb dX8_few_11 rfl (lv_at hl 2 rfl) ?_
      refine lv_if_lt (tgt := 21) hx hb dX8_few_12 (by decide) (fun c => ?_) (fun c => ?_)
      · have h := z_t h c
        refine lv_ldc2 (v := (-1)) hx hb hown (hts _ kw1078) dX8_few_21 ?_
        have hy := Option.some.inj h
        rw [← hQz, ← hy]
        exact xr_l (v := (-1 : Int64)) hx hb hr hlk hK hw dX8_few_24
      · have h := z_f h c
        refine lv_iload_n hx hb dX8_few_15 rfl (lv_at hl 2 rfl) ?_
        refine lv_bipush (v := 99) hx hb dX8_few_16 (by decide) ?_
        refine lv_icmp_le (tgt := 25) hx hb dX8_few_18 (by decide) (fun c => ?_) (fun c => ?_)
        · have h := z_t h c
          refine lv_aload_n hx hb dX8_few_25 rfl (lv_at hl 0 rfl) ?_
          refine fgX8_4 hx hb hts hown hK hw 0 rfl kw446 dX8_few_26 ?_
          refine lv_iload_n hx hb dX8_few_29 rfl (lv_at hl 1 rfl) ?_
          refine lv_iload_n hx hb dX8_few_30 rfl (lv_at hl 2 rfl) ?_
          obtain ⟨z1, ez1, h⟩ := z_bd h
          refine xj_l (xrV (As := [.int p0, .int p1]) (rest := []) ⟨hx, hb, hml, hown, hts⟩ (m_X7_chanceOfFewer l dC dI _ h_me_study h_me_court h_me_isles h_me_isles_now q_me_study k_me_study q_me_isles k_me_isles o_me_study o_me_isles p0 p1 z1 ez1) kw1099 kw1096 kw1097 kw1098 kw118 hd_X7_chanceOfFewer ⟨rfl, rfl⟩ rfl rfl ⟨rfl, rfl⟩ hX hK hw [2, 1] (by decide) rfl rfl rfl rfl rfl hl.1 rfl rfl dX8_few_31) hw hA [2, 1] (by decide) rfl rfl (fun H locs hw => ?_)
          have hw : Wd dC dI A s.heap [wX8 h_me h_me_reader h_me_machine h_me_isles h_me_court h_me_study h_me_paper h_me_paperCourt h_me_past h_me_pastAhead h_me_movingAhead q_me k_me o_me, wX2 h_me_isles h_me_isles_now q_me_isles k_me_isles o_me_isles, wX7 h_me_study h_me_court h_me_isles q_me_study k_me_study z1.2] H locs := hw
          have hy := Option.some.inj h
          rw [← hQz, ← hy]
          exact xr_l (v := z1.1) hx hb hr hlk hK hw dX8_few_34
        · have h := z_f h c
          refine lv_ldc2 (v := (-1)) hx hb hown (hts _ kw1078) dX8_few_21 ?_
          have hy := Option.some.inj h
          rw [← hQz, ← hy]
          exact xr_l (v := (-1 : Int64)) hx hb hr hlk hK hw dX8_few_24

def bk_X8_force_23   (v1 : Int32) (o_me : Ob) (o_me_isles : Ob) : Option (Int32 × Ob × Ob) :=
  zlt (gI o_me_isles 10) fun x1 =>
  zlt (sI o_me_isles 10 v1) fun o2 =>
  (f_X8_grant o_me x1).bind fun z3 =>
  some (z3.1, z3.2, o2)
def f_X8_force (o_me : Ob) (o_me_isles : Ob) (p0 : Int32) : Option (Int32 × Ob × Ob) :=
  if p0 = (-1 : Int32) then
  (bk_X8_force_23   p0 o_me o_me_isles)
  else
  ((f_X2_isLaw o_me_isles p0).bind fun z4 =>
  if z4 = (0 : Int32) then
  ((f_X8_refuse o_me (-2 : Int32)).bind fun z5 =>
  some (z5.1, z5.2, o_me_isles))
  else
  (bk_X8_force_23   p0 o_me o_me_isles))
set_option maxHeartbeats 4000000 in
set_option maxRecDepth 100000 in
theorem m_X8_force (l : Launch) (dC : Nat → ClassId) (dI : Nat → Nat → Nat) (sz : Nat) (h_me : Nat) (h_me_reader : Nat) (h_me_machine : Nat) (h_me_isles : Nat) (h_me_court : Nat) (h_me_study : Nat) (h_me_paper : Nat) (h_me_paperCourt : Nat) (h_me_past : Nat) (h_me_pastAhead : Nat) (h_me_movingAhead : Nat) (h_me_isles_now : Nat) (q_me : Nat → Nat) (k_me : Nat → ClassId) (q_me_isles : Nat → Nat) (k_me_isles : Nat → ClassId) (o_me : Ob) (o_me_isles : Ob) (p0 : Int32) (y : Int32 × Ob × Ob) (h : f_X8_force o_me o_me_isles p0 = some y) : CI l yX8_force cX8_force 3 (some .int) ({ frames := 1, cells := 0, slots := 0, locals := 21 } : Room) dC dI sz [.ref h_me, .int p0] [wX8 h_me h_me_reader h_me_machine h_me_isles h_me_court h_me_study h_me_paper h_me_paperCourt h_me_past h_me_pastAhead h_me_movingAhead q_me k_me o_me, wX2 h_me_isles h_me_isles_now q_me_isles k_me_isles o_me_isles] [tX8 k_me, tX2 k_me_isles] y.1 [wX8 h_me h_me_reader h_me_machine h_me_isles h_me_court h_me_study h_me_paper h_me_paperCourt h_me_past h_me_pastAhead h_me_movingAhead q_me k_me y.2.1, wX2 h_me_isles h_me_isles_now q_me_isles k_me_isles y.2.2] := by
  refine CC_of (by decide) (Nat.le_of_ble_eq_true rfl) ?_
  intro p e s m below meth c A ls hx hb hml hr hlk hnm hown hts hX hK hP hD hA hl
  have hl : lv_has ls 3 [(0, .ref h_me), (1, .int p0)] := hl
  have hown : s.vm.findClass RX8 = some m.cls := hown
  have hw : Wd dC dI A s.heap [wX8 h_me h_me_reader h_me_machine h_me_isles h_me_court h_me_study h_me_paper h_me_paperCourt h_me_past h_me_pastAhead h_me_movingAhead q_me k_me o_me, wX2 h_me_isles h_me_isles_now q_me_isles k_me_isles o_me_isles] s.heap [] := ⟨hP, hD, va_S.rf⟩
  generalize hQz : (MQ below (QI dC dI (fun r (_ : Unit) => r = y.1) (fun _ => Jn [wX8 h_me h_me_reader h_me_machine h_me_isles h_me_court h_me_study h_me_paper h_me_paperCourt h_me_past h_me_pastAhead h_me_movingAhead q_me k_me y.2.1, wX2 h_me_isles h_me_isles_now q_me_isles k_me_isles y.2.2]) (fun _ => Jt [tX8 k_me, tX2 k_me_isles]) A) ([.ref h_me, .int p0] : List Value).toArray s 0 0 A) = Qz
  clear hP hD hnm
  have bk_23_0 : ∀ (v1 : Int32) (o_me : Ob) (o_me_isles : Ob) (H : Heap) (locs : List Loc) (ls : Array Slot), bk_X8_force_23   v1 o_me o_me_isles = some y → Wd dC dI A s.heap [wX8 h_me h_me_reader h_me_machine h_me_isles h_me_court h_me_study h_me_paper h_me_paperCourt h_me_past h_me_pastAhead h_me_movingAhead q_me k_me o_me, wX2 h_me_isles h_me_isles_now q_me_isles k_me_isles o_me_isles] H locs → lv_has ls 3 [(0, .ref h_me), (1, .int v1)] → W p l e ({ frames := 1, cells := 0, slots := 0, locals := 21 } : Room) s m ([.ref h_me, .int p0] : List Value).toArray below meth c H locs 0 0 Qz (F0 m 23 ls []) := by
    intro v1 o_me o_me_isles H locs ls h hw hl
    unfold bk_X8_force_23 at h
    refine lv_aload_n hx hb dX8_force_23 rfl (lv_at hl 0 rfl) ?_
    refine fgX8_2 hx hb hts hown hK hw 0 rfl kw444 dX8_force_24 ?_
    refine fgX2_10 hx hb hts hown hK hw 1 rfl kw325 dX8_force_27 ?_
    obtain ⟨x1, ex1, h⟩ := z_lt h
    refine lv_fi (v := x1) ex1.symm ?_
    refine lv_istore_n (lv' := [(2, .int x1), (0, .ref h_me), (1, .int v1)]) hx hb dX8_force_30 rfl hl (by decide) rfl (fun ls hl => ?_)
    refine lv_aload_n hx hb dX8_force_31 rfl (lv_at hl 1 rfl) ?_
    refine fgX8_2 hx hb hts hown hK hw 0 rfl kw444 dX8_force_32 ?_
    refine lv_iload_n hx hb dX8_force_35 rfl (lv_at hl 2 rfl) ?_
    refine fpX2_10 hx hb hts hown hK hw 1 rfl kw325 dX8_force_36 (fun H locs hw => ?_)
    obtain ⟨o2, eo2, h⟩ := z_lt h
    have hw : Wd dC dI A s.heap [wX8 h_me h_me_reader h_me_machine h_me_isles h_me_court h_me_study h_me_paper h_me_paperCourt h_me_past h_me_pastAhead h_me_movingAhead q_me k_me o_me, wX2 h_me_isles h_me_isles_now q_me_isles k_me_isles o2] H locs := by rw [eo2]; exact hw
    refine lv_aload_n hx hb dX8_force_39 rfl (lv_at hl 1 rfl) ?_
    refine lv_iload_n hx hb dX8_force_40 rfl (lv_at hl 0 rfl) ?_
    obtain ⟨z3, ez3, h⟩ := z_bd h
    refine xj_i (xrV (As := [.int x1]) (rest := []) ⟨hx, hb, hml, hown, hts⟩ (m_X8_grant l dC dI _ h_me h_me_reader h_me_machine h_me_isles h_me_court h_me_study h_me_paper h_me_paperCourt h_me_past h_me_pastAhead h_me_movingAhead q_me k_me o_me x1 z3 ez3) kw520 kw517 kw519 kw1 kw110 hd_X8_grant ⟨rfl, rfl⟩ rfl rfl ⟨rfl, rfl⟩ hX hK hw [0] (by decide) rfl rfl rfl rfl rfl hl.1 rfl rfl dX8_force_41) hw hA [0] (by decide) rfl rfl (fun H locs hw => ?_)
    have hw : Wd dC dI A s.heap [wX8 h_me h_me_reader h_me_machine h_me_isles h_me_court h_me_study h_me_paper h_me_paperCourt h_me_past h_me_pastAhead h_me_movingAhead q_me k_me z3.2, wX2 h_me_isles h_me_isles_now q_me_isles k_me_isles o2] H locs := hw
    have hy := Option.some.inj h
    rw [← hQz, ← hy]
    exact xr_i (v := z3.1) hx hb hr rfl hlk hK hw dX8_force_44
  unfold f_X8_force at h
  refine lv_iload_n hx hb dX8_force_0 rfl (lv_at hl 1 rfl) ?_
  refine lv_iconst (v := (-1)) hx hb dX8_force_1 (by decide) ?_
  refine lv_icmp_eq (tgt := 23) hx hb dX8_force_2 (by decide) (fun c => ?_) (fun c => ?_)
  · have h := z_t h c
    exact bk_23_0  p0 o_me o_me_isles _ _ _ h hw (lv_sub hl [0, 1] rfl)
  · have h := z_f h c
    refine lv_aload_n hx hb dX8_force_5 rfl (lv_at hl 0 rfl) ?_
    refine fgX8_2 hx hb hts hown hK hw 0 rfl kw444 dX8_force_6 ?_
    refine lv_iload_n hx hb dX8_force_9 rfl (lv_at hl 1 rfl) ?_
    obtain ⟨z4, ez4, h⟩ := z_bd h
    refine xj_i (xrV (As := [.int p0]) (rest := []) ⟨hx, hb, hml, hown, hts⟩ (m_X2_isLaw l dC dI _ h_me_isles h_me_isles_now q_me_isles k_me_isles o_me_isles p0 z4 ez4) kw539 kw910 kw537 kw538 kw115 hd_X2_isLaw ⟨rfl, rfl⟩ rfl rfl ⟨rfl, rfl⟩ hX hK hw [1] (by decide) rfl rfl rfl rfl rfl hl.1 rfl rfl dX8_force_10) hw hA [1] (by decide) rfl rfl (fun H locs hw => ?_)
    have hw : Wd dC dI A s.heap [wX8 h_me h_me_reader h_me_machine h_me_isles h_me_court h_me_study h_me_paper h_me_paperCourt h_me_past h_me_pastAhead h_me_movingAhead q_me k_me o_me, wX2 h_me_isles h_me_isles_now q_me_isles k_me_isles o_me_isles] H locs := hw
    refine lv_if_ne (tgt := 23) hx hb dX8_force_13 (by decide) (fun c => ?_) (fun c => ?_)
    · have h := z_f h c
      exact bk_23_0  p0 o_me o_me_isles _ _ _ h hw (lv_sub hl [0, 1] rfl)
    · have h := z_t h c
      refine lv_aload_n hx hb dX8_force_16 rfl (lv_at hl 0 rfl) ?_
      refine lv_bipush (v := (-2)) hx hb dX8_force_17 (by decide) ?_
      obtain ⟨z5, ez5, h⟩ := z_bd h
      refine xj_i (xrV (As := [.int (-2 : Int32)]) (rest := []) ⟨hx, hb, hml, hown, hts⟩ (m_X8_refuse l dC dI _ h_me h_me_reader h_me_machine h_me_isles h_me_court h_me_study h_me_paper h_me_paperCourt h_me_past h_me_pastAhead h_me_movingAhead q_me k_me o_me (-2 : Int32) z5 ez5) kw508 kw505 kw507 kw0 kw110 hd_X8_refuse ⟨rfl, rfl⟩ rfl rfl ⟨rfl, rfl⟩ hX hK hw [0] (by decide) rfl rfl rfl rfl rfl hl.1 rfl rfl dX8_force_19) hw hA [0] (by decide) rfl rfl (fun H locs hw => ?_)
      have hw : Wd dC dI A s.heap [wX8 h_me h_me_reader h_me_machine h_me_isles h_me_court h_me_study h_me_paper h_me_paperCourt h_me_past h_me_pastAhead h_me_movingAhead q_me k_me z5.2, wX2 h_me_isles h_me_isles_now q_me_isles k_me_isles o_me_isles] H locs := hw
      have hy := Option.some.inj h
      rw [← hQz, ← hy]
      exact xr_i (v := z5.1) hx hb hr rfl hlk hK hw dX8_force_22

def f_X8_forget (o_me : Ob) (o_me_isles : Ob) : Option (Int32 × Ob) :=
  zlt (gI o_me_isles 8) fun x1 =>
  zlt (sI o_me_isles 8 (0 : Int32)) fun o2 =>
  some (x1, o2)
set_option maxHeartbeats 4000000 in
set_option maxRecDepth 100000 in
theorem m_X8_forget (l : Launch) (dC : Nat → ClassId) (dI : Nat → Nat → Nat) (sz : Nat) (h_me : Nat) (h_me_reader : Nat) (h_me_machine : Nat) (h_me_isles : Nat) (h_me_court : Nat) (h_me_study : Nat) (h_me_paper : Nat) (h_me_paperCourt : Nat) (h_me_past : Nat) (h_me_pastAhead : Nat) (h_me_movingAhead : Nat) (h_me_isles_now : Nat) (q_me : Nat → Nat) (k_me : Nat → ClassId) (q_me_isles : Nat → Nat) (k_me_isles : Nat → ClassId) (o_me : Ob) (o_me_isles : Ob) (y : Int32 × Ob) (h : f_X8_forget o_me o_me_isles = some y) : CI l yX8_forget cX8_forget 2 (some .int) ({ frames := 0, cells := 0, slots := 0, locals := 0 } : Room) dC dI sz [.ref h_me] [wX8 h_me h_me_reader h_me_machine h_me_isles h_me_court h_me_study h_me_paper h_me_paperCourt h_me_past h_me_pastAhead h_me_movingAhead q_me k_me o_me, wX2 h_me_isles h_me_isles_now q_me_isles k_me_isles o_me_isles] [tX8 k_me, tX2 k_me_isles] y.1 [wX8 h_me h_me_reader h_me_machine h_me_isles h_me_court h_me_study h_me_paper h_me_paperCourt h_me_past h_me_pastAhead h_me_movingAhead q_me k_me o_me, wX2 h_me_isles h_me_isles_now q_me_isles k_me_isles y.2] := by
  refine CC_of (by decide) (Nat.le_of_ble_eq_true rfl) ?_
  intro p e s m below meth c A ls hx hb hml hr hlk hnm hown hts hX hK hP hD hA hl
  have hl : lv_has ls 2 [(0, .ref h_me)] := hl
  have hown : s.vm.findClass RX8 = some m.cls := hown
  have hw : Wd dC dI A s.heap [wX8 h_me h_me_reader h_me_machine h_me_isles h_me_court h_me_study h_me_paper h_me_paperCourt h_me_past h_me_pastAhead h_me_movingAhead q_me k_me o_me, wX2 h_me_isles h_me_isles_now q_me_isles k_me_isles o_me_isles] s.heap [] := ⟨hP, hD, va_S.rf⟩
  generalize hQz : (MQ below (QI dC dI (fun r (_ : Unit) => r = y.1) (fun _ => Jn [wX8 h_me h_me_reader h_me_machine h_me_isles h_me_court h_me_study h_me_paper h_me_paperCourt h_me_past h_me_pastAhead h_me_movingAhead q_me k_me o_me, wX2 h_me_isles h_me_isles_now q_me_isles k_me_isles y.2]) (fun _ => Jt [tX8 k_me, tX2 k_me_isles]) A) ([.ref h_me] : List Value).toArray s 0 0 A) = Qz
  clear hP hD hnm
  unfold f_X8_forget at h
  refine lv_aload_n hx hb dX8_forget_0 rfl (lv_at hl 0 rfl) ?_
  refine fgX8_2 hx hb hts hown hK hw 0 rfl kw444 dX8_forget_1 ?_
  refine fgX2_8 hx hb hts hown hK hw 1 rfl kw321 dX8_forget_4 ?_
  obtain ⟨x1, ex1, h⟩ := z_lt h
  refine lv_fi (v := x1) ex1.symm ?_
  refine lv_istore_n (lv' := [(1, .int x1), (0, .ref h_me)]) hx hb dX8_forget_7 rfl hl (by decide) rfl (fun ls hl => ?_)
  refine lv_aload_n hx hb dX8_forget_8 rfl (lv_at hl 1 rfl) ?_
  refine fgX8_2 hx hb hts hown hK hw 0 rfl kw444 dX8_forget_9 ?_
  refine lv_iconst (v := 0) hx hb dX8_forget_12 (by decide) ?_
  refine fpX2_8 hx hb hts hown hK hw 1 rfl kw321 dX8_forget_13 (fun H locs hw => ?_)
  obtain ⟨o2, eo2, h⟩ := z_lt h
  have hw : Wd dC dI A s.heap [wX8 h_me h_me_reader h_me_machine h_me_isles h_me_court h_me_study h_me_paper h_me_paperCourt h_me_past h_me_pastAhead h_me_movingAhead q_me k_me o_me, wX2 h_me_isles h_me_isles_now q_me_isles k_me_isles o2] H locs := by rw [eo2]; exact hw
  refine lv_iload_n hx hb dX8_forget_16 rfl (lv_at hl 0 rfl) ?_
  have hy := Option.some.inj h
  rw [← hQz, ← hy]
  exact xr_i (v := x1) hx hb hr rfl hlk hK hw dX8_forget_17

def bk_X7_awaitChildren_49 (o_me_court_isles : Ob) (rec_13_0 : Int32 × Int32 × Int32 × Ob → Option (Int32 × Ob)) (v1 : Int32) (v3 : Int32) (v4 : Int32) (o_me : Ob) : Option (Int32 × Ob) :=
  zlt (v4 + (-1 : Int32)) fun x3 =>
  rec_13_0 (v1, v3, x3, o_me)
def lb_X7_awaitChildren_13 (o_me_court_isles : Ob)  (rec_13_0 : Int32 × Int32 × Int32 × Ob → Option (Int32 × Ob)) (v1 : Int32) (v3 : Int32) (v4 : Int32) (o_me : Ob) : Option (Int32 × Ob) :=
  if v4 < (0 : Int32) then
  (some (v3, o_me))
  else
  (zgd (zin v4 7) <|
  if (gA o_me_court_isles 1 v4.toNatClampNeg) = v1 then
  (if (7 : Int32) ≤ v3 then
  (bk_X7_awaitChildren_49 o_me_court_isles rec_13_0 v1 v3 v4 o_me)
  else
  (zgd (zin v3 7) <|
  zlt (tA o_me 3 v3.toNatClampNeg v4) fun o5 =>
  zlt (v3 + (1 : Int32)) fun x6 =>
  bk_X7_awaitChildren_49 o_me_court_isles rec_13_0 v1 x6 v4 o5))
  else
  (bk_X7_awaitChildren_49 o_me_court_isles rec_13_0 v1 v3 v4 o_me))
def lp_X7_awaitChildren_13 (o_me_court_isles : Ob)  : Nat → (Int32 × Int32 × Int32 × Ob) → Option (Int32 × Ob) := zit (fun rec a => lb_X7_awaitChildren_13 o_me_court_isles  rec a.1 a.2.1 a.2.2.1 a.2.2.2)
def f_X7_awaitChildren (o_me : Ob) (o_me_court_isles : Ob) (p0 : Int32) (p1 : Int32) : Option (Int32 × Ob) :=
  zlt ((gI o_me_court_isles 7) - (1 : Int32)) fun x1 =>
  lp_X7_awaitChildren_13 o_me_court_isles  zfu (p0, p1, x1, o_me)
set_option maxHeartbeats 4000000 in
set_option maxRecDepth 100000 in
theorem m_X7_awaitChildren (l : Launch) (dC : Nat → ClassId) (dI : Nat → Nat → Nat) (sz : Nat) (h_me : Nat) (h_me_court : Nat) (h_me_court_isles : Nat) (h_me_court_isles_now : Nat) (q_me : Nat → Nat) (k_me : Nat → ClassId) (q_me_court_isles : Nat → Nat) (k_me_court_isles : Nat → ClassId) (o_me : Ob) (o_me_court_isles : Ob) (p0 : Int32) (p1 : Int32) (y : Int32 × Ob) (h : f_X7_awaitChildren o_me o_me_court_isles p0 p1 = some y) : CI l yX7_awaitChildren cX7_awaitChildren 5 (some .int) ({ frames := 0, cells := 0, slots := 0, locals := 0 } : Room) dC dI sz [.ref h_me, .int p0, .int p1] [wX7 h_me h_me_court h_me_court_isles q_me k_me o_me, wX2 h_me_court_isles h_me_court_isles_now q_me_court_isles k_me_court_isles o_me_court_isles] [tX7 k_me, tX2 k_me_court_isles] y.1 [wX7 h_me h_me_court h_me_court_isles q_me k_me y.2, wX2 h_me_court_isles h_me_court_isles_now q_me_court_isles k_me_court_isles o_me_court_isles] := by
  refine CC_of (by decide) (Nat.le_of_ble_eq_true rfl) ?_
  intro p e s m below meth c A ls hx hb hml hr hlk hnm hown hts hX hK hP hD hA hl
  have hl : lv_has ls 5 [(0, .ref h_me), (1, .int p0), (2, .int p1)] := hl
  have hown : s.vm.findClass RX7 = some m.cls := hown
  have hw : Wd dC dI A s.heap [wX7 h_me h_me_court h_me_court_isles q_me k_me o_me, wX2 h_me_court_isles h_me_court_isles_now q_me_court_isles k_me_court_isles o_me_court_isles] s.heap [] := ⟨hP, hD, va_S.rf⟩
  generalize hQz : (MQ below (QI dC dI (fun r (_ : Unit) => r = y.1) (fun _ => Jn [wX7 h_me h_me_court h_me_court_isles q_me k_me y.2, wX2 h_me_court_isles h_me_court_isles_now q_me_court_isles k_me_court_isles o_me_court_isles]) (fun _ => Jt [tX7 k_me, tX2 k_me_court_isles]) A) ([.ref h_me, .int p0, .int p1] : List Value).toArray s 0 0 A) = Qz
  clear hP hD hnm
  have bk_49_1 : ∀ (rec_13_0 : Int32 × Int32 × Int32 × Ob → Option (Int32 × Ob)) (hrec_13_0 : ∀ (v1 : Int32) (v3 : Int32) (v4 : Int32) (o_me : Ob) (H : Heap) (locs : List Loc) (ls : Array Slot), rec_13_0 (v1, v3, v4, o_me) = some y → Wd dC dI A s.heap [wX7 h_me h_me_court h_me_court_isles q_me k_me o_me, wX2 h_me_court_isles h_me_court_isles_now q_me_court_isles k_me_court_isles o_me_court_isles] H locs → lv_has ls 5 [(0, .ref h_me), (1, .int v1), (3, .int v3), (4, .int v4)] → W p l e ({ frames := 0, cells := 0, slots := 0, locals := 0 } : Room) s m ([.ref h_me, .int p0, .int p1] : List Value).toArray below meth c H locs 0 0 Qz (F0 m 13 ls [])), ∀ (v1 : Int32) (v3 : Int32) (v4 : Int32) (o_me : Ob) (H : Heap) (locs : List Loc) (ls : Array Slot), bk_X7_awaitChildren_49 o_me_court_isles rec_13_0 v1 v3 v4 o_me = some y → Wd dC dI A s.heap [wX7 h_me h_me_court h_me_court_isles q_me k_me o_me, wX2 h_me_court_isles h_me_court_isles_now q_me_court_isles k_me_court_isles o_me_court_isles] H locs → lv_has ls 5 [(0, .ref h_me), (1, .int v1), (3, .int v3), (4, .int v4)] → W p l e ({ frames := 0, cells := 0, slots := 0, locals := 0 } : Room) s m ([.ref h_me, .int p0, .int p1] : List Value).toArray below meth c H locs 0 0 Qz (F0 m 49 ls []) := by
    intro rec_13_0 hrec_13_0
    intro v1 v3 v4 o_me H locs ls h hw hl
    unfold bk_X7_awaitChildren_49 at h
    obtain ⟨x3, ex3, h⟩ := z_lt h
    refine lv_iinc (v := x3) (lv' := [(4, .int x3), (0, .ref h_me), (1, .int v1), (3, .int v3)]) hx hb dX7_awaitChildren_49 hl (k := 3) rfl ((congrArg (v4 + ·) (show Int32.ofInt (-1) = (-1 : Int32) from by decide)).trans ex3.symm) (by decide) rfl (fun ls hl => ?_)
    refine lv_goto (tgt := 13) hx hb dX7_awaitChildren_52 (by decide) ?_
    exact hrec_13_0 v1 v3 x3 o_me _ _ _ h hw (lv_sub hl [1, 2, 3, 0] rfl)
  have lp_13_0 : ∀ (N : Nat), ∀ (v1 : Int32) (v3 : Int32) (v4 : Int32) (o_me : Ob) (H : Heap) (locs : List Loc) (ls : Array Slot), lp_X7_awaitChildren_13 o_me_court_isles  N (v1, v3, v4, o_me) = some y → Wd dC dI A s.heap [wX7 h_me h_me_court h_me_court_isles q_me k_me o_me, wX2 h_me_court_isles h_me_court_isles_now q_me_court_isles k_me_court_isles o_me_court_isles] H locs → lv_has ls 5 [(0, .ref h_me), (1, .int v1), (3, .int v3), (4, .int v4)] → W p l e ({ frames := 0, cells := 0, slots := 0, locals := 0 } : Room) s m ([.ref h_me, .int p0, .int p1] : List Value).toArray below meth c H locs 0 0 Qz (F0 m 13 ls []) := by
    intro N
    induction N with
    | zero =>
      intro v1 v3 v4 o_me H locs ls h hw hl
      exact absurd (show (none : Option (Int32 × Ob)) = some y from h) (by simp)
    | succ N ih =>
      intro v1 v3 v4 o_me H locs ls h hw hl
      have h : lb_X7_awaitChildren_13 o_me_court_isles  (lp_X7_awaitChildren_13 o_me_court_isles  N) v1 v3 v4 o_me = some y := h
      unfold lb_X7_awaitChildren_13 at h
      refine lv_iload hx hb dX7_awaitChildren_13 (lv_at hl 3 rfl) ?_
      refine lv_if_lt (tgt := 55) hx hb dX7_awaitChildren_15 (by decide) (fun c => ?_) (fun c => ?_)
      · have h := z_t h c
        refine lv_iload_n hx hb dX7_awaitChildren_55 rfl (lv_at hl 2 rfl) ?_
        have hy := Option.some.inj h
        rw [← hQz, ← hy]
        exact xr_i (v := v3) hx hb hr rfl hlk hK hw dX7_awaitChildren_56
      · have h := z_f h c
        refine lv_aload_n hx hb dX7_awaitChildren_18 rfl (lv_at hl 0 rfl) ?_
        refine fgX7_1 hx hb hts hown hK hw 0 rfl kw387 dX7_awaitChildren_19 ?_
        refine fgX2_1 hx hb hts hown hK hw 1 rfl kw302 dX7_awaitChildren_22 ?_
        refine lv_iload hx hb dX7_awaitChildren_25 (lv_at hl 3 rfl) ?_
        obtain ⟨g2, h⟩ := z_gd h
        refine faX2_1 hx hb hK hw 1 rfl rfl g2 dX7_awaitChildren_27 ?_
        refine lv_iload_n hx hb dX7_awaitChildren_28 rfl (lv_at hl 1 rfl) ?_
        refine lv_icmp_ne (tgt := 49) hx hb dX7_awaitChildren_29 (by decide) (fun c => ?_) (fun c => ?_)
        · have h := z_f h c
          exact bk_49_1 (lp_X7_awaitChildren_13 o_me_court_isles  N) ih v1 v3 v4 o_me _ _ _ h hw (lv_sub hl [0, 1, 2, 3] rfl)
        · have h := z_t h c
          refine lv_iload_n hx hb dX7_awaitChildren_32 rfl (lv_at hl 2 rfl) ?_
          refine lv_bipush (v := 7) hx hb dX7_awaitChildren_33 (by decide) ?_
          refine lv_icmp_ge (tgt := 49) hx hb dX7_awaitChildren_35 (by decide) (fun c => ?_) (fun c => ?_)
          · have h := z_t h c
            exact bk_49_1 (lp_X7_awaitChildren_13 o_me_court_isles  N) ih v1 v3 v4 o_me _ _ _ h hw (lv_sub hl [0, 1, 2, 3] rfl)
          · have h := z_f h c
            refine lv_aload_n hx hb dX7_awaitChildren_38 rfl (lv_at hl 0 rfl) ?_
            refine fgX7_3 hx hb hts hown hK hw 0 rfl kw390 dX7_awaitChildren_39 ?_
            refine lv_iload_n hx hb dX7_awaitChildren_42 rfl (lv_at hl 2 rfl) ?_
            refine lv_iload hx hb dX7_awaitChildren_43 (lv_at hl 3 rfl) ?_
            obtain ⟨g4, h⟩ := z_gd h
            refine fbX7_3 hx hb hK hw 0 rfl rfl g4 dX7_awaitChildren_45 (fun H locs hw => ?_)
            obtain ⟨o5, eo5, h⟩ := z_lt h
            have hw : Wd dC dI A s.heap [wX7 h_me h_me_court h_me_court_isles q_me k_me o5, wX2 h_me_court_isles h_me_court_isles_now q_me_court_isles k_me_court_isles o_me_court_isles] H locs := by rw [eo5]; exact hw
            obtain ⟨x6, ex6, h⟩ := z_lt h
            refine lv_iinc (v := x6) (lv' := [(3, .int x6), (0, .ref h_me), (1, .int v1), (4, .int v4)]) hx hb dX7_awaitChildren_46 hl (k := 2) rfl ((congrArg (v3 + ·) (show Int32.ofInt 1 = (1 : Int32) from by decide)).trans ex6.symm) (by decide) rfl (fun ls hl => ?_)
            exact bk_49_1 (lp_X7_awaitChildren_13 o_me_court_isles  N) ih v1 x6 v4 o5 _ _ _ h hw (lv_sub hl [1, 2, 0, 3] rfl)
  unfold f_X7_awaitChildren at h
  refine lv_iload_n hx hb dX7_awaitChildren_0 rfl (lv_at hl 2 rfl) ?_
  refine lv_istore_n (lv' := [(3, .int p1), (0, .ref h_me), (1, .int p0), (2, .int p1)]) hx hb dX7_awaitChildren_1 rfl hl (by decide) rfl (fun ls hl => ?_)
  refine lv_aload_n hx hb dX7_awaitChildren_2 rfl (lv_at hl 1 rfl) ?_
  refine fgX7_1 hx hb hts hown hK hw 0 rfl kw387 dX7_awaitChildren_3 ?_
  refine fgX2_7 hx hb hts hown hK hw 1 rfl kw316 dX7_awaitChildren_6 ?_
  refine lv_iconst (v := 1) hx hb dX7_awaitChildren_9 (by decide) ?_
  refine lv_isub hx hb dX7_awaitChildren_10 ?_
  obtain ⟨x1, ex1, h⟩ := z_lt h
  refine lv_fi (v := x1) ex1.symm ?_
  refine lv_istore (lv' := [(4, .int x1), (3, .int p1), (0, .ref h_me), (1, .int p0), (2, .int p1)]) hx hb dX7_awaitChildren_11 hl (by decide) rfl (fun ls hl => ?_)
  exact lp_13_0  zfu p0 p1 x1 o_me _ _ _ h hw (lv_sub hl [2, 3, 1, 0] rfl)

def bk_X7_elders_33 (o_me : Ob) (o_me_court_isles : Ob) (rec_4_0 : Int32 × Int32 × Int32 → Option (Int32)) (v1 : Int32) (v2 : Int32) (v3 : Int32) : Option (Int32) :=
  zlt (v3 + (1 : Int32)) fun x3 =>
  rec_4_0 (v1, v2, x3)
def lb_X7_elders_4 (o_me : Ob) (o_me_court_isles : Ob)  (rec_4_0 : Int32 × Int32 × Int32 → Option (Int32)) (v1 : Int32) (v2 : Int32) (v3 : Int32) : Option (Int32) :=
  if v1 ≤ v3 then
  (some v2)
  else
  (zgd (zin v3 7) <|
  zgd (zin v1 7) <|
  if (gA o_me_court_isles 1 v3.toNatClampNeg) = (gA o_me_court_isles 1 v1.toNatClampNeg) then
  (zlt (v2 + (1 : Int32)) fun x4 =>
  bk_X7_elders_33 o_me o_me_court_isles rec_4_0 v1 x4 v3)
  else
  (bk_X7_elders_33 o_me o_me_court_isles rec_4_0 v1 v2 v3))
def lp_X7_elders_4 (o_me : Ob) (o_me_court_isles : Ob)  : Nat → (Int32 × Int32 × Int32) → Option (Int32) := zit (fun rec a => lb_X7_elders_4 o_me o_me_court_isles  rec a.1 a.2.1 a.2.2)
def f_X7_elders (o_me : Ob) (o_me_court_isles : Ob) (p0 : Int32) : Option (Int32) :=
  lp_X7_elders_4 o_me o_me_court_isles  zfu (p0, (0 : Int32), (0 : Int32))
set_option maxHeartbeats 4000000 in
set_option maxRecDepth 100000 in
theorem m_X7_elders (l : Launch) (dC : Nat → ClassId) (dI : Nat → Nat → Nat) (sz : Nat) (h_me : Nat) (h_me_court : Nat) (h_me_court_isles : Nat) (h_me_court_isles_now : Nat) (q_me : Nat → Nat) (k_me : Nat → ClassId) (q_me_court_isles : Nat → Nat) (k_me_court_isles : Nat → ClassId) (o_me : Ob) (o_me_court_isles : Ob) (p0 : Int32) (y : Int32) (h : f_X7_elders o_me o_me_court_isles p0 = some y) : CI l yX7_elders cX7_elders 4 (some .int) ({ frames := 0, cells := 0, slots := 0, locals := 0 } : Room) dC dI sz [.ref h_me, .int p0] [wX7 h_me h_me_court h_me_court_isles q_me k_me o_me, wX2 h_me_court_isles h_me_court_isles_now q_me_court_isles k_me_court_isles o_me_court_isles] [tX7 k_me, tX2 k_me_court_isles] y [wX7 h_me h_me_court h_me_court_isles q_me k_me o_me, wX2 h_me_court_isles h_me_court_isles_now q_me_court_isles k_me_court_isles o_me_court_isles] := by
  refine CC_of (by decide) (Nat.le_of_ble_eq_true rfl) ?_
  intro p e s m below meth c A ls hx hb hml hr hlk hnm hown hts hX hK hP hD hA hl
  have hl : lv_has ls 4 [(0, .ref h_me), (1, .int p0)] := hl
  have hown : s.vm.findClass RX7 = some m.cls := hown
  have hw : Wd dC dI A s.heap [wX7 h_me h_me_court h_me_court_isles q_me k_me o_me, wX2 h_me_court_isles h_me_court_isles_now q_me_court_isles k_me_court_isles o_me_court_isles] s.heap [] := ⟨hP, hD, va_S.rf⟩
  generalize hQz : (MQ below (QI dC dI (fun r (_ : Unit) => r = y) (fun _ => Jn [wX7 h_me h_me_court h_me_court_isles q_me k_me o_me, wX2 h_me_court_isles h_me_court_isles_now q_me_court_isles k_me_court_isles o_me_court_isles]) (fun _ => Jt [tX7 k_me, tX2 k_me_court_isles]) A) ([.ref h_me, .int p0] : List Value).toArray s 0 0 A) = Qz
  clear hP hD hnm
  have bk_33_1 : ∀ (rec_4_0 : Int32 × Int32 × Int32 → Option (Int32)) (hrec_4_0 : ∀ (v1 : Int32) (v2 : Int32) (v3 : Int32) (H : Heap) (locs : List Loc) (ls : Array Slot), rec_4_0 (v1, v2, v3) = some y → Wd dC dI A s.heap [wX7 h_me h_me_court h_me_court_isles q_me k_me o_me, wX2 h_me_court_isles h_me_court_isles_now q_me_court_isles k_me_court_isles o_me_court_isles] H locs → lv_has ls 4 [(0, .ref h_me), (1, .int v1), (2, .int v2), (3, .int v3)] → W p l e ({ frames := 0, cells := 0, slots := 0, locals := 0 } : Room) s m ([.ref h_me, .int p0] : List Value).toArray below meth c H locs 0 0 Qz (F0 m 4 ls [])), ∀ (v1 : Int32) (v2 : Int32) (v3 : Int32) (H : Heap) (locs : List Loc) (ls : Array Slot), bk_X7_elders_33 o_me o_me_court_isles rec_4_0 v1 v2 v3 = some y → Wd dC dI A s.heap [wX7 h_me h_me_court h_me_court_isles q_me k_me o_me, wX2 h_me_court_isles h_me_court_isles_now q_me_court_isles k_me_court_isles o_me_court_isles] H locs → lv_has ls 4 [(0, .ref h_me), (1, .int v1), (2, .int v2), (3, .int v3)] → W p l e ({ frames := 0, cells := 0, slots := 0, locals := 0 } : Room) s m ([.ref h_me, .int p0] : List Value).toArray below meth c H locs 0 0 Qz (F0 m 33 ls []) := by
    intro rec_4_0 hrec_4_0
    intro v1 v2 v3 H locs ls h hw hl
    unfold bk_X7_elders_33 at h
    obtain ⟨x3, ex3, h⟩ := z_lt h
    refine lv_iinc (v := x3) (lv' := [(3, .int x3), (0, .ref h_me), (1, .int v1), (2, .int v2)]) hx hb dX7_elders_33 hl (k := 3) rfl ((congrArg (v3 + ·) (show Int32.ofInt 1 = (1 : Int32) from by decide)).trans ex3.symm) (by decide) rfl (fun ls hl => ?_)
    refine lv_goto (tgt := 4) hx hb dX7_elders_36 (by decide) ?_
    exact hrec_4_0 v1 v2 x3 _ _ _ h hw (lv_sub hl [1, 2, 3, 0] rfl)
  have lp_4_0 : ∀ (N : Nat), ∀ (v1 : Int32) (v2 : Int32) (v3 : Int32) (H : Heap) (locs : List Loc) (ls : Array Slot), lp_X7_elders_4 o_me o_me_court_isles  N (v1, v2, v3) = some y → Wd dC dI A s.heap [wX7 h_me h_me_court h_me_court_isles q_me k_me o_me, wX2 h_me_court_isles h_me_court_isles_now q_me_court_isles k_me_court_isles o_me_court_isles] H locs → lv_has ls 4 [(0, .ref h_me), (1, .int v1), (2, .int v2), (3, .int v3)] → W p l e ({ frames := 0, cells := 0, slots := 0, locals := 0 } : Room) s m ([.ref h_me, .int p0] : List Value).toArray below meth c H locs 0 0 Qz (F0 m 4 ls []) := by
    intro N
    induction N with
    | zero =>
      intro v1 v2 v3 H locs ls h hw hl
      exact absurd (show (none : Option (Int32)) = some y from h) (by simp)
    | succ N ih =>
      intro v1 v2 v3 H locs ls h hw hl
      have h : lb_X7_elders_4 o_me o_me_court_isles  (lp_X7_elders_4 o_me o_me_court_isles  N) v1 v2 v3 = some y := h
      unfold lb_X7_elders_4 at h
      refine lv_iload_n hx hb dX7_elders_4 rfl (lv_at hl 3 rfl) ?_
      refine lv_iload_n hx hb dX7_elders_5 rfl (lv_at hl 1 rfl) ?_
      refine lv_icmp_ge (tgt := 39) hx hb dX7_elders_6 (by decide) (fun c => ?_) (fun c => ?_)
      · have h := z_t h c
        refine lv_iload_n hx hb dX7_elders_39 rfl (lv_at hl 2 rfl) ?_
        have hy := Option.some.inj h
        rw [← hQz, ← hy]
        exact xr_i (v := v2) hx hb hr rfl hlk hK hw dX7_elders_40
      · have h := z_f h c
        refine lv_aload_n hx hb dX7_elders_9 rfl (lv_at hl 0 rfl) ?_
        refine fgX7_1 hx hb hts hown hK hw 0 rfl kw387 dX7_elders_10 ?_
        refine fgX2_1 hx hb hts hown hK hw 1 rfl kw302 dX7_elders_13 ?_
        refine lv_iload_n hx hb dX7_elders_16 rfl (lv_at hl 3 rfl) ?_
        obtain ⟨g1, h⟩ := z_gd h
        refine faX2_1 hx hb hK hw 1 rfl rfl g1 dX7_elders_17 ?_
        refine lv_aload_n hx hb dX7_elders_18 rfl (lv_at hl 0 rfl) ?_
        refine fgX7_1 hx hb hts hown hK hw 0 rfl kw387 dX7_elders_19 ?_
        refine fgX2_1 hx hb hts hown hK hw 1 rfl kw302 dX7_elders_22 ?_
        refine lv_iload_n hx hb dX7_elders_25 rfl (lv_at hl 1 rfl) ?_
        obtain ⟨g2, h⟩ := z_gd h
        refine faX2_1 hx hb hK hw 1 rfl rfl g2 dX7_elders_26 ?_
        refine lv_icmp_ne (tgt := 33) hx hb dX7_elders_27 (by decide) (fun c => ?_) (fun c => ?_)
        · have h := z_f h c
          exact bk_33_1 (lp_X7_elders_4 o_me o_me_court_isles  N) ih v1 v2 v3 _ _ _ h hw (lv_sub hl [0, 1, 2, 3] rfl)
        · have h := z_t h c
          obtain ⟨x4, ex4, h⟩ := z_lt h
          refine lv_iinc (v := x4) (lv' := [(2, .int x4), (0, .ref h_me), (1, .int v1), (3, .int v3)]) hx hb dX7_elders_30 hl (k := 2) rfl ((congrArg (v2 + ·) (show Int32.ofInt 1 = (1 : Int32) from by decide)).trans ex4.symm) (by decide) rfl (fun ls hl => ?_)
          exact bk_33_1 (lp_X7_elders_4 o_me o_me_court_isles  N) ih v1 x4 v3 _ _ _ h hw (lv_sub hl [1, 2, 0, 3] rfl)
  unfold f_X7_elders at h
  refine lv_iconst (v := 0) hx hb dX7_elders_0 (by decide) ?_
  refine lv_istore_n (lv' := [(2, .int (0 : Int32)), (0, .ref h_me), (1, .int p0)]) hx hb dX7_elders_1 rfl hl (by decide) rfl (fun ls hl => ?_)
  refine lv_iconst (v := 0) hx hb dX7_elders_2 (by decide) ?_
  refine lv_istore_n (lv' := [(3, .int (0 : Int32)), (2, .int (0 : Int32)), (0, .ref h_me), (1, .int p0)]) hx hb dX7_elders_3 rfl hl (by decide) rfl (fun ls hl => ?_)
  exact lp_4_0  zfu p0 (0 : Int32) (0 : Int32) _ _ _ h hw (lv_sub hl [2, 3, 1, 0] rfl)

def bk_X7_lineOfHeirs_58 (o_me_court_isles : Ob) (rec_11_0 : Int32 × Int32 × Int32 × Ob → Option (Int32 × Ob)) (v1 : Int32) (v2 : Int32) (v3 : Int32) (v4 : Int32) (o_me : Ob) : Option (Int32 × Ob) :=
  (f_X7_awaitChildren o_me o_me_court_isles v4 v2).bind fun z6 =>
  zlt (v3 + (1 : Int32)) fun x7 =>
  rec_11_0 (v1, z6.1, x7, z6.2)
def lb_X7_lineOfHeirs_11 (o_me_court_isles : Ob)  (rec_11_0 : Int32 × Int32 × Int32 × Ob → Option (Int32 × Ob)) (v1 : Int32) (v2 : Int32) (v3 : Int32) (o_me : Ob) : Option (Int32 × Ob) :=
  if (gI o_me_court_isles 7) ≤ v3 then
  (some (v1, o_me))
  else
  (if v2 ≤ (0 : Int32) then
  (some (v1, o_me))
  else
  (zlt (v2 + (-1 : Int32)) fun x2 =>
  zgd (zin x2 7) <|
  zlt (gA o_me 3 x2.toNatClampNeg) fun x4 =>
  (f_X7_elders o_me o_me_court_isles x4).bind fun z5 =>
  if z5 = (1 : Int32) then
  (bk_X7_lineOfHeirs_58 o_me_court_isles rec_11_0 v1 x2 v3 x4 o_me)
  else
  (zgd (zin v1 7) <|
  zlt (tA o_me 2 v1.toNatClampNeg x4) fun o9 =>
  zlt (v1 + (1 : Int32)) fun x10 =>
  bk_X7_lineOfHeirs_58 o_me_court_isles rec_11_0 x10 x2 v3 x4 o9)))
def lp_X7_lineOfHeirs_11 (o_me_court_isles : Ob)  : Nat → (Int32 × Int32 × Int32 × Ob) → Option (Int32 × Ob) := zit (fun rec a => lb_X7_lineOfHeirs_11 o_me_court_isles  rec a.1 a.2.1 a.2.2.1 a.2.2.2)
def f_X7_lineOfHeirs (o_me : Ob) (o_me_court_isles : Ob) : Option (Int32 × Ob) :=
  (f_X7_awaitChildren o_me o_me_court_isles (-1 : Int32) (0 : Int32)).bind fun z1 =>
  lp_X7_lineOfHeirs_11 o_me_court_isles  zfu ((0 : Int32), z1.1, (0 : Int32), z1.2)
set_option maxHeartbeats 4000000 in
set_option maxRecDepth 100000 in
theorem m_X7_lineOfHeirs (l : Launch) (dC : Nat → ClassId) (dI : Nat → Nat → Nat) (sz : Nat) (h_me : Nat) (h_me_court : Nat) (h_me_court_isles : Nat) (h_me_court_isles_now : Nat) (q_me : Nat → Nat) (k_me : Nat → ClassId) (q_me_court_isles : Nat → Nat) (k_me_court_isles : Nat → ClassId) (o_me : Ob) (o_me_court_isles : Ob) (y : Int32 × Ob) (h : f_X7_lineOfHeirs o_me o_me_court_isles = some y) : CI l yX7_lineOfHeirs cX7_lineOfHeirs 5 (some .int) ({ frames := 1, cells := 0, slots := 0, locals := 24 } : Room) dC dI sz [.ref h_me] [wX7 h_me h_me_court h_me_court_isles q_me k_me o_me, wX2 h_me_court_isles h_me_court_isles_now q_me_court_isles k_me_court_isles o_me_court_isles] [tX7 k_me, tX2 k_me_court_isles] y.1 [wX7 h_me h_me_court h_me_court_isles q_me k_me y.2, wX2 h_me_court_isles h_me_court_isles_now q_me_court_isles k_me_court_isles o_me_court_isles] := by
  refine CC_of (by decide) (Nat.le_of_ble_eq_true rfl) ?_
  intro p e s m below meth c A ls hx hb hml hr hlk hnm hown hts hX hK hP hD hA hl
  have hl : lv_has ls 5 [(0, .ref h_me)] := hl
  have hown : s.vm.findClass RX7 = some m.cls := hown
  have hw : Wd dC dI A s.heap [wX7 h_me h_me_court h_me_court_isles q_me k_me o_me, wX2 h_me_court_isles h_me_court_isles_now q_me_court_isles k_me_court_isles o_me_court_isles] s.heap [] := ⟨hP, hD, va_S.rf⟩
  generalize hQz : (MQ below (QI dC dI (fun r (_ : Unit) => r = y.1) (fun _ => Jn [wX7 h_me h_me_court h_me_court_isles q_me k_me y.2, wX2 h_me_court_isles h_me_court_isles_now q_me_court_isles k_me_court_isles o_me_court_isles]) (fun _ => Jt [tX7 k_me, tX2 k_me_court_isles]) A) ([.ref h_me] : List Value).toArray s 0 0 A) = Qz
  clear hP hD hnm
  have bk_58_1 : ∀ (rec_11_0 : Int32 × Int32 × Int32 × Ob → Option (Int32 × Ob)) (hrec_11_0 : ∀ (v1 : Int32) (v2 : Int32) (v3 : Int32) (o_me : Ob) (H : Heap) (locs : List Loc) (ls : Array Slot), rec_11_0 (v1, v2, v3, o_me) = some y → Wd dC dI A s.heap [wX7 h_me h_me_court h_me_court_isles q_me k_me o_me, wX2 h_me_court_isles h_me_court_isles_now q_me_court_isles k_me_court_isles o_me_court_isles] H locs → lv_has ls 5 [(0, .ref h_me), (1, .int v1), (2, .int v2), (3, .int v3)] → W p l e ({ frames := 1, cells := 0, slots := 0, locals := 24 } : Room) s m ([.ref h_me] : List Value).toArray below meth c H locs 0 0 Qz (F0 m 11 ls [])), ∀ (v1 : Int32) (v2 : Int32) (v3 : Int32) (v4 : Int32) (o_me : Ob) (H : Heap) (locs : List Loc) (ls : Array Slot), bk_X7_lineOfHeirs_58 o_me_court_isles rec_11_0 v1 v2 v3 v4 o_me = some y → Wd dC dI A s.heap [wX7 h_me h_me_court h_me_court_isles q_me k_me o_me, wX2 h_me_court_isles h_me_court_isles_now q_me_court_isles k_me_court_isles o_me_court_isles] H locs → lv_has ls 5 [(0, .ref h_me), (1, .int v1), (2, .int v2), (3, .int v3), (4, .int v4)] → W p l e ({ frames := 1, cells := 0, slots := 0, locals := 24 } : Room) s m ([.ref h_me] : List Value).toArray below meth c H locs 0 0 Qz (F0 m 58 ls []) := by
    intro rec_11_0 hrec_11_0
    intro v1 v2 v3 v4 o_me H locs ls h hw hl
    unfold bk_X7_lineOfHeirs_58 at h
    refine lv_aload_n hx hb dX7_lineOfHeirs_58 rfl (lv_at hl 0 rfl) ?_
    refine lv_iload hx hb dX7_lineOfHeirs_59 (lv_at hl 4 rfl) ?_
    refine lv_iload_n hx hb dX7_lineOfHeirs_61 rfl (lv_at hl 2 rfl) ?_
    obtain ⟨z6, ez6, h⟩ := z_bd h
    refine xj_i (xrV (As := [.int v4, .int v2]) (rest := []) ⟨hx, hb, hml, hown, hts⟩ (m_X7_awaitChildren l dC dI _ h_me h_me_court h_me_court_isles h_me_court_isles_now q_me k_me q_me_court_isles k_me_court_isles o_me o_me_court_isles v4 v2 z6 ez6) kw1069 kw1066 kw1068 kw37 kw118 hd_X7_awaitChildren ⟨rfl, rfl⟩ rfl rfl ⟨rfl, rfl⟩ hX hK hw [0, 1] (by decide) rfl rfl rfl rfl rfl hl.1 rfl rfl dX7_lineOfHeirs_62) hw hA [0, 1] (by decide) rfl rfl (fun H locs hw => ?_)
    have hw : Wd dC dI A s.heap [wX7 h_me h_me_court h_me_court_isles q_me k_me z6.2, wX2 h_me_court_isles h_me_court_isles_now q_me_court_isles k_me_court_isles o_me_court_isles] H locs := hw
    refine lv_istore_n (lv' := [(2, .int z6.1), (0, .ref h_me), (1, .int v1), (3, .int v3), (4, .int v4)]) hx hb dX7_lineOfHeirs_65 rfl hl (by decide) rfl (fun ls hl => ?_)
    obtain ⟨x7, ex7, h⟩ := z_lt h
    refine lv_iinc (v := x7) (lv' := [(3, .int x7), (2, .int z6.1), (0, .ref h_me), (1, .int v1), (4, .int v4)]) hx hb dX7_lineOfHeirs_66 hl (k := 3) rfl ((congrArg (v3 + ·) (show Int32.ofInt 1 = (1 : Int32) from by decide)).trans ex7.symm) (by decide) rfl (fun ls hl => ?_)
    refine lv_goto (tgt := 11) hx hb dX7_lineOfHeirs_69 (by decide) ?_
    exact hrec_11_0 v1 z6.1 x7 z6.2 _ _ _ h hw (lv_sub hl [2, 3, 1, 0] rfl)
  have lp_11_0 : ∀ (N : Nat), ∀ (v1 : Int32) (v2 : Int32) (v3 : Int32) (o_me : Ob) (H : Heap) (locs : List Loc) (ls : Array Slot), lp_X7_lineOfHeirs_11 o_me_court_isles  N (v1, v2, v3, o_me) = some y → Wd dC dI A s.heap [wX7 h_me h_me_court h_me_court_isles q_me k_me o_me, wX2 h_me_court_isles h_me_court_isles_now q_me_court_isles k_me_court_isles o_me_court_isles] H locs → lv_has ls 5 [(0, .ref h_me), (1, .int v1), (2, .int v2), (3, .int v3)] → W p l e ({ frames := 1, cells := 0, slots := 0, locals := 24 } : Room) s m ([.ref h_me] : List Value).toArray below meth c H locs 0 0 Qz (F0 m 11 ls []) := by
    intro N
    induction N with
    | zero =>
      intro v1 v2 v3 o_me H locs ls h hw hl
      exact absurd (show (none : Option (Int32 × Ob)) = some y from h) (by simp)
    | succ N ih =>
      intro v1 v2 v3 o_me H locs ls h hw hl
      have h : lb_X7_lineOfHeirs_11 o_me_court_isles  (lp_X7_lineOfHeirs_11 o_me_court_isles  N) v1 v2 v3 o_me = some y := h
      unfold lb_X7_lineOfHeirs_11 at h
      refine lv_iload_n hx hb dX7_lineOfHeirs_11 rfl (lv_at hl 3 rfl) ?_
      refine lv_aload_n hx hb dX7_lineOfHeirs_12 rfl (lv_at hl 0 rfl) ?_
      refine fgX7_1 hx hb hts hown hK hw 0 rfl kw387 dX7_lineOfHeirs_13 ?_
      refine fgX2_7 hx hb hts hown hK hw 1 rfl kw316 dX7_lineOfHeirs_16 ?_
      refine lv_icmp_ge (tgt := 72) hx hb dX7_lineOfHeirs_19 (by decide) (fun c => ?_) (fun c => ?_)
      · have h := z_t h c
        refine lv_iload_n hx hb dX7_lineOfHeirs_72 rfl (lv_at hl 1 rfl) ?_
        have hy := Option.some.inj h
        rw [← hQz, ← hy]
        exact xr_i (v := v1) hx hb hr rfl hlk hK hw dX7_lineOfHeirs_73
      · have h := z_f h c
        refine lv_iload_n hx hb dX7_lineOfHeirs_22 rfl (lv_at hl 2 rfl) ?_
        refine lv_if_le (tgt := 72) hx hb dX7_lineOfHeirs_23 (by decide) (fun c => ?_) (fun c => ?_)
        · have h := z_t h c
          refine lv_iload_n hx hb dX7_lineOfHeirs_72 rfl (lv_at hl 1 rfl) ?_
          have hy := Option.some.inj h
          rw [← hQz, ← hy]
          exact xr_i (v := v1) hx hb hr rfl hlk hK hw dX7_lineOfHeirs_73
        · have h := z_f h c
          obtain ⟨x2, ex2, h⟩ := z_lt h
          refine lv_iinc (v := x2) (lv' := [(2, .int x2), (0, .ref h_me), (1, .int v1), (3, .int v3)]) hx hb dX7_lineOfHeirs_26 hl (k := 2) rfl ((congrArg (v2 + ·) (show Int32.ofInt (-1) = (-1 : Int32) from by decide)).trans ex2.symm) (by decide) rfl (fun ls hl => ?_)
          refine lv_aload_n hx hb dX7_lineOfHeirs_29 rfl (lv_at hl 1 rfl) ?_
          refine fgX7_3 hx hb hts hown hK hw 0 rfl kw390 dX7_lineOfHeirs_30 ?_
          refine lv_iload_n hx hb dX7_lineOfHeirs_33 rfl (lv_at hl 0 rfl) ?_
          obtain ⟨g3, h⟩ := z_gd h
          refine faX7_3 hx hb hK hw 0 rfl rfl g3 dX7_lineOfHeirs_34 ?_
          obtain ⟨x4, ex4, h⟩ := z_lt h
          refine lv_fi (v := x4) ex4.symm ?_
          refine lv_istore (lv' := [(4, .int x4), (2, .int x2), (0, .ref h_me), (1, .int v1), (3, .int v3)]) hx hb dX7_lineOfHeirs_35 hl (by decide) rfl (fun ls hl => ?_)
          refine lv_aload_n hx hb dX7_lineOfHeirs_37 rfl (lv_at hl 2 rfl) ?_
          refine lv_iload hx hb dX7_lineOfHeirs_38 (lv_at hl 0 rfl) ?_
          obtain ⟨z5, ez5, h⟩ := z_bd h
          refine xj_i (xrV (As := [.int x4]) (rest := []) ⟨hx, hb, hml, hown, hts⟩ (m_X7_elders l dC dI _ h_me h_me_court h_me_court_isles h_me_court_isles_now q_me k_me q_me_court_isles k_me_court_isles o_me o_me_court_isles x4 z5 ez5) kw1073 kw1070 kw1072 kw38 kw118 hd_X7_elders ⟨rfl, rfl⟩ rfl rfl ⟨rfl, rfl⟩ hX hK hw [0, 1] (by decide) rfl rfl rfl rfl rfl hl.1 rfl rfl dX7_lineOfHeirs_40) hw hA [0, 1] (by decide) rfl rfl (fun H locs hw => ?_)
          have hw : Wd dC dI A s.heap [wX7 h_me h_me_court h_me_court_isles q_me k_me o_me, wX2 h_me_court_isles h_me_court_isles_now q_me_court_isles k_me_court_isles o_me_court_isles] H locs := hw
          refine lv_iconst (v := 1) hx hb dX7_lineOfHeirs_43 (by decide) ?_
          refine lv_icmp_eq (tgt := 58) hx hb dX7_lineOfHeirs_44 (by decide) (fun c => ?_) (fun c => ?_)
          · have h := z_t h c
            exact bk_58_1 (lp_X7_lineOfHeirs_11 o_me_court_isles  N) ih v1 x2 v3 x4 o_me _ _ _ h hw (lv_sub hl [2, 3, 1, 4, 0] rfl)
          · have h := z_f h c
            refine lv_aload_n hx hb dX7_lineOfHeirs_47 rfl (lv_at hl 2 rfl) ?_
            refine fgX7_2 hx hb hts hown hK hw 0 rfl kw388 dX7_lineOfHeirs_48 ?_
            refine lv_iload_n hx hb dX7_lineOfHeirs_51 rfl (lv_at hl 3 rfl) ?_
            refine lv_iload hx hb dX7_lineOfHeirs_52 (lv_at hl 0 rfl) ?_
            obtain ⟨g8, h⟩ := z_gd h
            refine fbX7_2 hx hb hK hw 0 rfl rfl g8 dX7_lineOfHeirs_54 (fun H locs hw => ?_)
            obtain ⟨o9, eo9, h⟩ := z_lt h
            have hw : Wd dC dI A s.heap [wX7 h_me h_me_court h_me_court_isles q_me k_me o9, wX2 h_me_court_isles h_me_court_isles_now q_me_court_isles k_me_court_isles o_me_court_isles] H locs := by rw [eo9]; exact hw
            obtain ⟨x10, ex10, h⟩ := z_lt h
            refine lv_iinc (v := x10) (lv' := [(1, .int x10), (4, .int x4), (2, .int x2), (0, .ref h_me), (3, .int v3)]) hx hb dX7_lineOfHeirs_55 hl (k := 3) rfl ((congrArg (v1 + ·) (show Int32.ofInt 1 = (1 : Int32) from by decide)).trans ex10.symm) (by decide) rfl (fun ls hl => ?_)
            exact bk_58_1 (lp_X7_lineOfHeirs_11 o_me_court_isles  N) ih x10 x2 v3 x4 o9 _ _ _ h hw (lv_sub hl [3, 0, 2, 4, 1] rfl)
  unfold f_X7_lineOfHeirs at h
  refine lv_iconst (v := 0) hx hb dX7_lineOfHeirs_0 (by decide) ?_
  refine lv_istore_n (lv' := [(1, .int (0 : Int32)), (0, .ref h_me)]) hx hb dX7_lineOfHeirs_1 rfl hl (by decide) rfl (fun ls hl => ?_)
  refine lv_aload_n hx hb dX7_lineOfHeirs_2 rfl (lv_at hl 1 rfl) ?_
  refine lv_iconst (v := (-1)) hx hb dX7_lineOfHeirs_3 (by decide) ?_
  refine lv_iconst (v := 0) hx hb dX7_lineOfHeirs_4 (by decide) ?_
  obtain ⟨z1, ez1, h⟩ := z_bd h
  refine xj_i (xrV (As := [.int (-1 : Int32), .int (0 : Int32)]) (rest := []) ⟨hx, hb, hml, hown, hts⟩ (m_X7_awaitChildren l dC dI _ h_me h_me_court h_me_court_isles h_me_court_isles_now q_me k_me q_me_court_isles k_me_court_isles o_me o_me_court_isles (-1 : Int32) (0 : Int32) z1 ez1) kw1069 kw1066 kw1068 kw37 kw118 hd_X7_awaitChildren ⟨rfl, rfl⟩ rfl rfl ⟨rfl, rfl⟩ hX hK hw [0, 1] (by decide) rfl rfl rfl rfl rfl hl.1 rfl rfl dX7_lineOfHeirs_5) hw hA [0, 1] (by decide) rfl rfl (fun H locs hw => ?_)
  have hw : Wd dC dI A s.heap [wX7 h_me h_me_court h_me_court_isles q_me k_me z1.2, wX2 h_me_court_isles h_me_court_isles_now q_me_court_isles k_me_court_isles o_me_court_isles] H locs := hw
  refine lv_istore_n (lv' := [(2, .int z1.1), (1, .int (0 : Int32)), (0, .ref h_me)]) hx hb dX7_lineOfHeirs_8 rfl hl (by decide) rfl (fun ls hl => ?_)
  refine lv_iconst (v := 0) hx hb dX7_lineOfHeirs_9 (by decide) ?_
  refine lv_istore_n (lv' := [(3, .int (0 : Int32)), (2, .int z1.1), (1, .int (0 : Int32)), (0, .ref h_me)]) hx hb dX7_lineOfHeirs_10 rfl hl (by decide) rfl (fun ls hl => ?_)
  exact lp_11_0  zfu (0 : Int32) z1.1 (0 : Int32) z1.2 _ _ _ h hw (lv_sub hl [3, 2, 1, 0] rfl)

def f_X8_heir (o_me : Ob) (o_me_isles : Ob) (o_me_study : Ob) (p0 : Int32) : Option (Int32 × Ob) :=
  if (-1 : Int32) ≤ p0 then
  ((f_X7_lineOfHeirs o_me_study o_me_isles).bind fun z1 =>
  if p0 = (-1 : Int32) then
  (some (z1.1, z1.2))
  else
  (if z1.1 ≤ p0 then
  (some ((-1 : Int32), z1.2))
  else
  (zgd (zin p0 7) <|
  some (gA z1.2 2 p0.toNatClampNeg, z1.2))))
  else
  (some ((-1 : Int32), o_me_study))
set_option maxHeartbeats 4000000 in
set_option maxRecDepth 100000 in
theorem m_X8_heir (l : Launch) (dC : Nat → ClassId) (dI : Nat → Nat → Nat) (sz : Nat) (h_me : Nat) (h_me_reader : Nat) (h_me_machine : Nat) (h_me_isles : Nat) (h_me_court : Nat) (h_me_study : Nat) (h_me_paper : Nat) (h_me_paperCourt : Nat) (h_me_past : Nat) (h_me_pastAhead : Nat) (h_me_movingAhead : Nat) (h_me_isles_now : Nat) (q_me : Nat → Nat) (k_me : Nat → ClassId) (q_me_isles : Nat → Nat) (k_me_isles : Nat → ClassId) (q_me_study : Nat → Nat) (k_me_study : Nat → ClassId) (o_me : Ob) (o_me_isles : Ob) (o_me_study : Ob) (p0 : Int32) (y : Int32 × Ob) (h : f_X8_heir o_me o_me_isles o_me_study p0 = some y) : CI l yX8_heir cX8_heir 3 (some .int) ({ frames := 2, cells := 0, slots := 0, locals := 48 } : Room) dC dI sz [.ref h_me, .int p0] [wX8 h_me h_me_reader h_me_machine h_me_isles h_me_court h_me_study h_me_paper h_me_paperCourt h_me_past h_me_pastAhead h_me_movingAhead q_me k_me o_me, wX2 h_me_isles h_me_isles_now q_me_isles k_me_isles o_me_isles, wX7 h_me_study h_me_court h_me_isles q_me_study k_me_study o_me_study] [tX8 k_me, tX2 k_me_isles, tX7 k_me_study] y.1 [wX8 h_me h_me_reader h_me_machine h_me_isles h_me_court h_me_study h_me_paper h_me_paperCourt h_me_past h_me_pastAhead h_me_movingAhead q_me k_me o_me, wX2 h_me_isles h_me_isles_now q_me_isles k_me_isles o_me_isles, wX7 h_me_study h_me_court h_me_isles q_me_study k_me_study y.2] := by
  refine CC_of (by decide) (Nat.le_of_ble_eq_true rfl) ?_
  intro p e s m below meth c A ls hx hb hml hr hlk hnm hown hts hX hK hP hD hA hl
  have hl : lv_has ls 3 [(0, .ref h_me), (1, .int p0)] := hl
  have hown : s.vm.findClass RX8 = some m.cls := hown
  have hw : Wd dC dI A s.heap [wX8 h_me h_me_reader h_me_machine h_me_isles h_me_court h_me_study h_me_paper h_me_paperCourt h_me_past h_me_pastAhead h_me_movingAhead q_me k_me o_me, wX2 h_me_isles h_me_isles_now q_me_isles k_me_isles o_me_isles, wX7 h_me_study h_me_court h_me_isles q_me_study k_me_study o_me_study] s.heap [] := ⟨hP, hD, va_S.rf⟩
  generalize hQz : (MQ below (QI dC dI (fun r (_ : Unit) => r = y.1) (fun _ => Jn [wX8 h_me h_me_reader h_me_machine h_me_isles h_me_court h_me_study h_me_paper h_me_paperCourt h_me_past h_me_pastAhead h_me_movingAhead q_me k_me o_me, wX2 h_me_isles h_me_isles_now q_me_isles k_me_isles o_me_isles, wX7 h_me_study h_me_court h_me_isles q_me_study k_me_study y.2]) (fun _ => Jt [tX8 k_me, tX2 k_me_isles, tX7 k_me_study]) A) ([.ref h_me, .int p0] : List Value).toArray s 0 0 A) = Qz
  clear hP hD hnm
  unfold f_X8_heir at h
  refine lv_iload_n hx hb dX8_heir_0 rfl (lv_at hl 1 rfl) ?_
  refine lv_iconst (v := (-1)) hx hb dX8_heir_1 (by decide) ?_
  refine lv_icmp_ge (tgt := 7) hx hb dX8_heir_2 (by decide) (fun c => ?_) (fun c => ?_)
  · have h := z_t h c
    refine lv_aload_n hx hb dX8_heir_7 rfl (lv_at hl 0 rfl) ?_
    refine fgX8_4 hx hb hts hown hK hw 0 rfl kw446 dX8_heir_8 ?_
    obtain ⟨z1, ez1, h⟩ := z_bd h
    refine xj_i (xrV (As := []) (rest := []) ⟨hx, hb, hml, hown, hts⟩ (m_X7_lineOfHeirs l dC dI _ h_me_study h_me_court h_me_isles h_me_isles_now q_me_study k_me_study q_me_isles k_me_isles o_me_study o_me_isles z1 ez1) kw1065 kw1062 kw1063 kw1064 kw118 hd_X7_lineOfHeirs ⟨rfl, rfl⟩ rfl rfl ⟨rfl, rfl⟩ hX hK hw [2, 1] (by decide) rfl rfl rfl rfl rfl hl.1 rfl rfl dX8_heir_11) hw hA [2, 1] (by decide) rfl rfl (fun H locs hw => ?_)
    have hw : Wd dC dI A s.heap [wX8 h_me h_me_reader h_me_machine h_me_isles h_me_court h_me_study h_me_paper h_me_paperCourt h_me_past h_me_pastAhead h_me_movingAhead q_me k_me o_me, wX2 h_me_isles h_me_isles_now q_me_isles k_me_isles o_me_isles, wX7 h_me_study h_me_court h_me_isles q_me_study k_me_study z1.2] H locs := hw
    refine lv_istore_n (lv' := [(2, .int z1.1), (0, .ref h_me), (1, .int p0)]) hx hb dX8_heir_14 rfl hl (by decide) rfl (fun ls hl => ?_)
    refine lv_iload_n hx hb dX8_heir_15 rfl (lv_at hl 2 rfl) ?_
    refine lv_iconst (v := (-1)) hx hb dX8_heir_16 (by decide) ?_
    refine lv_icmp_ne (tgt := 22) hx hb dX8_heir_17 (by decide) (fun c => ?_) (fun c => ?_)
    · have h := z_f h c
      refine lv_iload_n hx hb dX8_heir_22 rfl (lv_at hl 2 rfl) ?_
      refine lv_iload_n hx hb dX8_heir_23 rfl (lv_at hl 0 rfl) ?_
      refine lv_icmp_ge (tgt := 39) hx hb dX8_heir_24 (by decide) (fun c => ?_) (fun c => ?_)
      · have h := z_t h c
        refine lv_iconst (v := (-1)) hx hb dX8_heir_39 (by decide) ?_
        have hy := Option.some.inj h
        rw [← hQz, ← hy]
        exact xr_i (v := (-1 : Int32)) hx hb hr rfl hlk hK hw dX8_heir_40
      · have h := z_f h c
        refine lv_aload_n hx hb dX8_heir_27 rfl (lv_at hl 1 rfl) ?_
        refine fgX8_4 hx hb hts hown hK hw 0 rfl kw446 dX8_heir_28 ?_
        refine fgX7_2 hx hb hts hown hK hw 2 rfl kw389 dX8_heir_31 ?_
        refine lv_iload_n hx hb dX8_heir_34 rfl (lv_at hl 2 rfl) ?_
        obtain ⟨g2, h⟩ := z_gd h
        refine faX7_2 hx hb hK hw 2 rfl rfl g2 dX8_heir_35 ?_
        refine lv_goto (tgt := 40) hx hb dX8_heir_36 (by decide) ?_
        have hy := Option.some.inj h
        rw [← hQz, ← hy]
        exact xr_i (v := gA z1.2 2 p0.toNatClampNeg) hx hb hr rfl hlk hK hw dX8_heir_40
    · have h := z_t h c
      refine lv_iload_n hx hb dX8_heir_20 rfl (lv_at hl 0 rfl) ?_
      have hy := Option.some.inj h
      rw [← hQz, ← hy]
      exact xr_i (v := z1.1) hx hb hr rfl hlk hK hw dX8_heir_21
  · have h := z_f h c
    refine lv_iconst (v := (-1)) hx hb dX8_heir_5 (by decide) ?_
    have hy := Option.some.inj h
    rw [← hQz, ← hy]
    exact xr_i (v := (-1 : Int32)) hx hb hr rfl hlk hK hw dX8_heir_6

def bk_X7_waysUp_77   (v1 : Int32) (o_me : Ob) : Option (Int64 × Ob) :=
  if v1 < (0 : Int32) then
  (some ((-1 : Int64), o_me))
  else
  (if (60 : Int32) < v1 then
  (some ((-1 : Int64), o_me))
  else
  (zgd (zin v1 61) <|
  some (gM o_me 7 v1.toNatClampNeg, o_me)))
def bk_X7_waysUp_63  (rec_9_0 : Int32 × Int32 × Int32 × Ob → Option (Int64 × Ob)) (v1 : Int32) (v2 : Int32) (v3 : Int32) (v4 : Int64) (o_me : Ob) : Option (Int64 × Ob) :=
  zgd (zin v3 61) <|
  zlt (tM o_me 7 v3.toNatClampNeg v4) fun o4 =>
  zlt (v3 + (1 : Int32)) fun x5 =>
  rec_9_0 (v1, v2, x5, o4)
def lb_X7_waysUp_26  (rec_9_0 : Int32 × Int32 × Int32 × Ob → Option (Int64 × Ob)) (rec_26_2 : Int32 × Int32 × Int32 × Int64 × Int32 × Ob → Option (Int64 × Ob)) (v1 : Int32) (v2 : Int32) (v3 : Int32) (v4 : Int64) (v6 : Int32) (o_me : Ob) : Option (Int64 × Ob) :=
  if v2 < v6 then
  (bk_X7_waysUp_63  rec_9_0 v1 v2 v3 v4 o_me)
  else
  (if v3 < v6 then
  (bk_X7_waysUp_63  rec_9_0 v1 v2 v3 v4 o_me)
  else
  (if v3 = (2 : Int32) then
  (bk_X7_waysUp_63  rec_9_0 v1 v2 v3 v4 o_me)
  else
  (zgd (zin (v3 - v6) 61) <|
  zlt (v4 + (gM o_me 7 (v3 - v6).toNatClampNeg)) fun x7 =>
  zlt (v6 + (1 : Int32)) fun x8 =>
  rec_26_2 (v1, v2, v3, x7, x8, o_me))))
def lp_X7_waysUp_26  (rec_9_0 : Int32 × Int32 × Int32 × Ob → Option (Int64 × Ob)) : Nat → (Int32 × Int32 × Int32 × Int64 × Int32 × Ob) → Option (Int64 × Ob) := zit (fun rec a => lb_X7_waysUp_26  rec_9_0 rec a.1 a.2.1 a.2.2.1 a.2.2.2.1 a.2.2.2.2.1 a.2.2.2.2.2)
def lb_X7_waysUp_9   (rec_9_0 : Int32 × Int32 × Int32 × Ob → Option (Int64 × Ob)) (v1 : Int32) (v2 : Int32) (v3 : Int32) (o_me : Ob) : Option (Int64 × Ob) :=
  if v1 < v3 then
  (bk_X7_waysUp_77   v1 o_me)
  else
  (if (60 : Int32) < v3 then
  (bk_X7_waysUp_77   v1 o_me)
  else
  (lp_X7_waysUp_26  rec_9_0 zfu (v1, v2, v3, (0 : Int64), (1 : Int32), o_me)))
def lp_X7_waysUp_9   : Nat → (Int32 × Int32 × Int32 × Ob) → Option (Int64 × Ob) := zit (fun rec a => lb_X7_waysUp_9   rec a.1 a.2.1 a.2.2.1 a.2.2.2)
def f_X7_waysUp (o_me : Ob) (p0 : Int32) (p1 : Int32) : Option (Int64 × Ob) :=
  zlt (tM o_me 7 (0 : Int32).toNatClampNeg (1 : Int64)) fun o1 =>
  lp_X7_waysUp_9   zfu (p0, p1, (1 : Int32), o1)
set_option maxHeartbeats 4000000 in
set_option maxRecDepth 100000 in
theorem m_X7_waysUp (l : Launch) (dC : Nat → ClassId) (dI : Nat → Nat → Nat) (sz : Nat) (h_me : Nat) (h_me_court : Nat) (h_me_court_isles : Nat) (q_me : Nat → Nat) (k_me : Nat → ClassId) (o_me : Ob) (p0 : Int32) (p1 : Int32) (y : Int64 × Ob) (h : f_X7_waysUp o_me p0 p1 = some y) : CL l yX7_waysUp cX7_waysUp 7 (some .long) ({ frames := 0, cells := 0, slots := 0, locals := 0 } : Room) dC dI sz [.ref h_me, .int p0, .int p1] [wX7 h_me h_me_court h_me_court_isles q_me k_me o_me] [tX7 k_me] y.1 [wX7 h_me h_me_court h_me_court_isles q_me k_me y.2] := by
  refine CC_of (by decide) (Nat.le_of_ble_eq_true rfl) ?_
  intro p e s m below meth c A ls hx hb hml hr hlk hnm hown hts hX hK hP hD hA hl
  have hl : lv_has ls 7 [(0, .ref h_me), (1, .int p0), (2, .int p1)] := hl
  have hown : s.vm.findClass RX7 = some m.cls := hown
  have hw : Wd dC dI A s.heap [wX7 h_me h_me_court h_me_court_isles q_me k_me o_me] s.heap [] := ⟨hP, hD, va_S.rf⟩
  generalize hQz : (MQ below (QL dC dI (fun r (_ : Unit) => r = y.1) (fun _ => Jn [wX7 h_me h_me_court h_me_court_isles q_me k_me y.2]) (fun _ => Jt [tX7 k_me]) A) ([.ref h_me, .int p0, .int p1] : List Value).toArray s 0 0 A) = Qz
  clear hP hD hnm
  have bk_77_1 : ∀ (v1 : Int32) (o_me : Ob) (H : Heap) (locs : List Loc) (ls : Array Slot), bk_X7_waysUp_77   v1 o_me = some y → Wd dC dI A s.heap [wX7 h_me h_me_court h_me_court_isles q_me k_me o_me] H locs → lv_has ls 7 [(0, .ref h_me), (1, .int v1)] → W p l e ({ frames := 0, cells := 0, slots := 0, locals := 0 } : Room) s m ([.ref h_me, .int p0, .int p1] : List Value).toArray below meth c H locs 0 0 Qz (F0 m 77 ls []) := by
    intro v1 o_me H locs ls h hw hl
    unfold bk_X7_waysUp_77 at h
    refine lv_iload_n hx hb dX7_waysUp_77 rfl (lv_at hl 1 rfl) ?_
    refine lv_if_lt (tgt := 96) hx hb dX7_waysUp_78 (by decide) (fun c => ?_) (fun c => ?_)
    · have h := z_t h c
      refine lv_ldc2 (v := (-1)) hx hb hown (hts _ kw1083) dX7_waysUp_96 ?_
      have hy := Option.some.inj h
      rw [← hQz, ← hy]
      exact xr_l (v := (-1 : Int64)) hx hb hr hlk hK hw dX7_waysUp_99
    · have h := z_f h c
      refine lv_iload_n hx hb dX7_waysUp_81 rfl (lv_at hl 1 rfl) ?_
      refine lv_bipush (v := 60) hx hb dX7_waysUp_82 (by decide) ?_
      refine lv_icmp_gt (tgt := 96) hx hb dX7_waysUp_84 (by decide) (fun c => ?_) (fun c => ?_)
      · have h := z_t h c
        refine lv_ldc2 (v := (-1)) hx hb hown (hts _ kw1083) dX7_waysUp_96 ?_
        have hy := Option.some.inj h
        rw [← hQz, ← hy]
        exact xr_l (v := (-1 : Int64)) hx hb hr hlk hK hw dX7_waysUp_99
      · have h := z_f h c
        refine lv_aload_n hx hb dX7_waysUp_87 rfl (lv_at hl 0 rfl) ?_
        refine fgX7_7 hx hb hts hown hK hw 0 rfl kw394 dX7_waysUp_88 ?_
        refine lv_iload_n hx hb dX7_waysUp_91 rfl (lv_at hl 1 rfl) ?_
        obtain ⟨g2, h⟩ := z_gd h
        refine faX7_7 hx hb hK hw 0 rfl rfl g2 dX7_waysUp_92 ?_
        refine lv_goto (tgt := 99) hx hb dX7_waysUp_93 (by decide) ?_
        have hy := Option.some.inj h
        rw [← hQz, ← hy]
        exact xr_l (v := gM o_me 7 v1.toNatClampNeg) hx hb hr hlk hK hw dX7_waysUp_99
  have bk_63_3 : ∀ (rec_9_0 : Int32 × Int32 × Int32 × Ob → Option (Int64 × Ob)) (hrec_9_0 : ∀ (v1 : Int32) (v2 : Int32) (v3 : Int32) (o_me : Ob) (H : Heap) (locs : List Loc) (ls : Array Slot), rec_9_0 (v1, v2, v3, o_me) = some y → Wd dC dI A s.heap [wX7 h_me h_me_court h_me_court_isles q_me k_me o_me] H locs → lv_has ls 7 [(0, .ref h_me), (1, .int v1), (2, .int v2), (3, .int v3)] → W p l e ({ frames := 0, cells := 0, slots := 0, locals := 0 } : Room) s m ([.ref h_me, .int p0, .int p1] : List Value).toArray below meth c H locs 0 0 Qz (F0 m 9 ls [])), ∀ (v1 : Int32) (v2 : Int32) (v3 : Int32) (v4 : Int64) (o_me : Ob) (H : Heap) (locs : List Loc) (ls : Array Slot), bk_X7_waysUp_63  rec_9_0 v1 v2 v3 v4 o_me = some y → Wd dC dI A s.heap [wX7 h_me h_me_court h_me_court_isles q_me k_me o_me] H locs → lv_has ls 7 [(0, .ref h_me), (1, .int v1), (2, .int v2), (3, .int v3), (4, .long v4)] → W p l e ({ frames := 0, cells := 0, slots := 0, locals := 0 } : Room) s m ([.ref h_me, .int p0, .int p1] : List Value).toArray below meth c H locs 0 0 Qz (F0 m 63 ls []) := by
    intro rec_9_0 hrec_9_0
    intro v1 v2 v3 v4 o_me H locs ls h hw hl
    unfold bk_X7_waysUp_63 at h
    refine lv_aload_n hx hb dX7_waysUp_63 rfl (lv_at hl 0 rfl) ?_
    refine fgX7_7 hx hb hts hown hK hw 0 rfl kw394 dX7_waysUp_64 ?_
    refine lv_iload_n hx hb dX7_waysUp_67 rfl (lv_at hl 3 rfl) ?_
    refine lv_lload hx hb dX7_waysUp_68 (lv_at hl 4 rfl) ?_
    obtain ⟨g3, h⟩ := z_gd h
    refine fbX7_7 hx hb hK hw 0 rfl rfl g3 dX7_waysUp_70 (fun H locs hw => ?_)
    obtain ⟨o4, eo4, h⟩ := z_lt h
    have hw : Wd dC dI A s.heap [wX7 h_me h_me_court h_me_court_isles q_me k_me o4] H locs := by rw [eo4]; exact hw
    obtain ⟨x5, ex5, h⟩ := z_lt h
    refine lv_iinc (v := x5) (lv' := [(3, .int x5), (0, .ref h_me), (1, .int v1), (2, .int v2), (4, .long v4)]) hx hb dX7_waysUp_71 hl (k := 3) rfl ((congrArg (v3 + ·) (show Int32.ofInt 1 = (1 : Int32) from by decide)).trans ex5.symm) (by decide) rfl (fun ls hl => ?_)
    refine lv_goto (tgt := 9) hx hb dX7_waysUp_74 (by decide) ?_
    exact hrec_9_0 v1 v2 x5 o4 _ _ _ h hw (lv_sub hl [1, 2, 3, 0] rfl)
  have lp_26_2 : ∀ (rec_9_0 : Int32 × Int32 × Int32 × Ob → Option (Int64 × Ob)) (hrec_9_0 : ∀ (v1 : Int32) (v2 : Int32) (v3 : Int32) (o_me : Ob) (H : Heap) (locs : List Loc) (ls : Array Slot), rec_9_0 (v1, v2, v3, o_me) = some y → Wd dC dI A s.heap [wX7 h_me h_me_court h_me_court_isles q_me k_me o_me] H locs → lv_has ls 7 [(0, .ref h_me), (1, .int v1), (2, .int v2), (3, .int v3)] → W p l e ({ frames := 0, cells := 0, slots := 0, locals := 0 } : Room) s m ([.ref h_me, .int p0, .int p1] : List Value).toArray below meth c H locs 0 0 Qz (F0 m 9 ls [])) (N : Nat), ∀ (v1 : Int32) (v2 : Int32) (v3 : Int32) (v4 : Int64) (v6 : Int32) (o_me : Ob) (H : Heap) (locs : List Loc) (ls : Array Slot), lp_X7_waysUp_26  rec_9_0 N (v1, v2, v3, v4, v6, o_me) = some y → Wd dC dI A s.heap [wX7 h_me h_me_court h_me_court_isles q_me k_me o_me] H locs → lv_has ls 7 [(0, .ref h_me), (1, .int v1), (2, .int v2), (3, .int v3), (4, .long v4), (6, .int v6)] → W p l e ({ frames := 0, cells := 0, slots := 0, locals := 0 } : Room) s m ([.ref h_me, .int p0, .int p1] : List Value).toArray below meth c H locs 0 0 Qz (F0 m 26 ls []) := by
    intro rec_9_0 hrec_9_0
    intro N
    induction N with
    | zero =>
      intro v1 v2 v3 v4 v6 o_me H locs ls h hw hl
      exact absurd (show (none : Option (Int64 × Ob)) = some y from h) (by simp)
    | succ N ih =>
      intro v1 v2 v3 v4 v6 o_me H locs ls h hw hl
      have h : lb_X7_waysUp_26  rec_9_0 (lp_X7_waysUp_26  rec_9_0 N) v1 v2 v3 v4 v6 o_me = some y := h
      unfold lb_X7_waysUp_26 at h
      refine lv_iload hx hb dX7_waysUp_26 (lv_at hl 5 rfl) ?_
      refine lv_iload_n hx hb dX7_waysUp_28 rfl (lv_at hl 2 rfl) ?_
      refine lv_icmp_gt (tgt := 63) hx hb dX7_waysUp_29 (by decide) (fun c => ?_) (fun c => ?_)
      · have h := z_t h c
        exact bk_63_3 rec_9_0 hrec_9_0 v1 v2 v3 v4 o_me _ _ _ h hw (lv_sub hl [0, 1, 2, 3, 4] rfl)
      · have h := z_f h c
        refine lv_iload hx hb dX7_waysUp_32 (lv_at hl 5 rfl) ?_
        refine lv_iload_n hx hb dX7_waysUp_34 rfl (lv_at hl 3 rfl) ?_
        refine lv_icmp_gt (tgt := 63) hx hb dX7_waysUp_35 (by decide) (fun c => ?_) (fun c => ?_)
        · have h := z_t h c
          exact bk_63_3 rec_9_0 hrec_9_0 v1 v2 v3 v4 o_me _ _ _ h hw (lv_sub hl [0, 1, 2, 3, 4] rfl)
        · have h := z_f h c
          refine lv_iload_n hx hb dX7_waysUp_38 rfl (lv_at hl 3 rfl) ?_
          refine lv_iconst (v := 2) hx hb dX7_waysUp_39 (by decide) ?_
          refine lv_icmp_eq (tgt := 63) hx hb dX7_waysUp_40 (by decide) (fun c => ?_) (fun c => ?_)
          · have h := z_t h c
            exact bk_63_3 rec_9_0 hrec_9_0 v1 v2 v3 v4 o_me _ _ _ h hw (lv_sub hl [0, 1, 2, 3, 4] rfl)
          · have h := z_f h c
            refine lv_lload hx hb dX7_waysUp_43 (lv_at hl 4 rfl) ?_
            refine lv_aload_n hx hb dX7_waysUp_45 rfl (lv_at hl 0 rfl) ?_
            refine fgX7_7 hx hb hts hown hK hw 0 rfl kw394 dX7_waysUp_46 ?_
            refine lv_iload_n hx hb dX7_waysUp_49 rfl (lv_at hl 3 rfl) ?_
            refine lv_iload hx hb dX7_waysUp_50 (lv_at hl 5 rfl) ?_
            refine lv_isub hx hb dX7_waysUp_52 ?_
            obtain ⟨g6, h⟩ := z_gd h
            refine faX7_7 hx hb hK hw 0 rfl rfl g6 dX7_waysUp_53 ?_
            refine lv_ladd hx hb dX7_waysUp_54 ?_
            obtain ⟨x7, ex7, h⟩ := z_lt h
            refine lv_fl (v := x7) ex7.symm ?_
            refine lv_lstore (lv' := [(4, .long x7), (0, .ref h_me), (1, .int v1), (2, .int v2), (3, .int v3), (6, .int v6)]) hx hb dX7_waysUp_55 hl (by decide) rfl (fun ls hl => ?_)
            obtain ⟨x8, ex8, h⟩ := z_lt h
            refine lv_iinc (v := x8) (lv' := [(6, .int x8), (4, .long x7), (0, .ref h_me), (1, .int v1), (2, .int v2), (3, .int v3)]) hx hb dX7_waysUp_57 hl (k := 5) rfl ((congrArg (v6 + ·) (show Int32.ofInt 1 = (1 : Int32) from by decide)).trans ex8.symm) (by decide) rfl (fun ls hl => ?_)
            refine lv_goto (tgt := 26) hx hb dX7_waysUp_60 (by decide) ?_
            exact ih v1 v2 v3 x7 x8 o_me _ _ _ h hw (lv_sub hl [2, 3, 4, 5, 1, 0] rfl)
  have lp_9_0 : ∀ (N : Nat), ∀ (v1 : Int32) (v2 : Int32) (v3 : Int32) (o_me : Ob) (H : Heap) (locs : List Loc) (ls : Array Slot), lp_X7_waysUp_9   N (v1, v2, v3, o_me) = some y → Wd dC dI A s.heap [wX7 h_me h_me_court h_me_court_isles q_me k_me o_me] H locs → lv_has ls 7 [(0, .ref h_me), (1, .int v1), (2, .int v2), (3, .int v3)] → W p l e ({ frames := 0, cells := 0, slots := 0, locals := 0 } : Room) s m ([.ref h_me, .int p0, .int p1] : List Value).toArray below meth c H locs 0 0 Qz (F0 m 9 ls []) := by
    intro N
    induction N with
    | zero =>
      intro v1 v2 v3 o_me H locs ls h hw hl
      exact absurd (show (none : Option (Int64 × Ob)) = some y from h) (by simp)
    | succ N ih =>
      intro v1 v2 v3 o_me H locs ls h hw hl
      have h : lb_X7_waysUp_9   (lp_X7_waysUp_9   N) v1 v2 v3 o_me = some y := h
      unfold lb_X7_waysUp_9 at h
      refine lv_iload_n hx hb dX7_waysUp_9 rfl (lv_at hl 3 rfl) ?_
      refine lv_iload_n hx hb dX7_waysUp_10 rfl (lv_at hl 1 rfl) ?_
      refine lv_icmp_gt (tgt := 77) hx hb dX7_waysUp_11 (by decide) (fun c => ?_) (fun c => ?_)
      · have h := z_t h c
        exact bk_77_1  v1 o_me _ _ _ h hw (lv_sub hl [0, 1] rfl)
      · have h := z_f h c
        refine lv_iload_n hx hb dX7_waysUp_14 rfl (lv_at hl 3 rfl) ?_
        refine lv_bipush (v := 60) hx hb dX7_waysUp_15 (by decide) ?_
        refine lv_icmp_gt (tgt := 77) hx hb dX7_waysUp_17 (by decide) (fun c => ?_) (fun c => ?_)
        · have h := z_t h c
          exact bk_77_1  v1 o_me _ _ _ h hw (lv_sub hl [0, 1] rfl)
        · have h := z_f h c
          refine lv_lconst (v := 0) hx hb dX7_waysUp_20 (by decide) ?_
          refine lv_lstore (lv' := [(4, .long (0 : Int64)), (0, .ref h_me), (1, .int v1), (2, .int v2), (3, .int v3)]) hx hb dX7_waysUp_21 hl (by decide) rfl (fun ls hl => ?_)
          refine lv_iconst (v := 1) hx hb dX7_waysUp_23 (by decide) ?_
          refine lv_istore (lv' := [(6, .int (1 : Int32)), (4, .long (0 : Int64)), (0, .ref h_me), (1, .int v1), (2, .int v2), (3, .int v3)]) hx hb dX7_waysUp_24 hl (by decide) rfl (fun ls hl => ?_)
          exact lp_26_2 (lp_X7_waysUp_9   N) ih zfu v1 v2 v3 (0 : Int64) (1 : Int32) o_me _ _ _ h hw (lv_sub hl [2, 3, 4, 5, 1, 0] rfl)
  unfold f_X7_waysUp at h
  refine lv_aload_n hx hb dX7_waysUp_0 rfl (lv_at hl 0 rfl) ?_
  refine fgX7_7 hx hb hts hown hK hw 0 rfl kw394 dX7_waysUp_1 ?_
  refine lv_iconst (v := 0) hx hb dX7_waysUp_4 (by decide) ?_
  refine lv_lconst (v := 1) hx hb dX7_waysUp_5 (by decide) ?_
  refine fbX7_7 hx hb hK hw 0 rfl rfl (by decide) dX7_waysUp_6 (fun H locs hw => ?_)
  obtain ⟨o1, eo1, h⟩ := z_lt h
  have hw : Wd dC dI A s.heap [wX7 h_me h_me_court h_me_court_isles q_me k_me o1] H locs := by rw [eo1]; exact hw
  refine lv_iconst (v := 1) hx hb dX7_waysUp_7 (by decide) ?_
  refine lv_istore_n (lv' := [(3, .int (1 : Int32)), (0, .ref h_me), (1, .int p0), (2, .int p1)]) hx hb dX7_waysUp_8 rfl hl (by decide) rfl (fun ls hl => ?_)
  exact lp_9_0  zfu p0 p1 (1 : Int32) o1 _ _ _ h hw (lv_sub hl [1, 2, 3, 0] rfl)

def f_X8_ladder (o_me : Ob) (o_me_study : Ob) (p0 : Int32) (p1 : Int32) : Option (Int64 × Ob) :=
  if p0 < (1 : Int32) then
  (some ((-1 : Int64), o_me_study))
  else
  (if (60 : Int32) < p0 then
  (some ((-1 : Int64), o_me_study))
  else
  (if p1 < (1 : Int32) then
  (some ((-1 : Int64), o_me_study))
  else
  (if p1 ≤ (5 : Int32) then
  ((f_X7_waysUp o_me_study p0 p1).bind fun z1 =>
  some (z1.1, z1.2))
  else
  (some ((-1 : Int64), o_me_study)))))
set_option maxHeartbeats 4000000 in
set_option maxRecDepth 100000 in
theorem m_X8_ladder (l : Launch) (dC : Nat → ClassId) (dI : Nat → Nat → Nat) (sz : Nat) (h_me : Nat) (h_me_reader : Nat) (h_me_machine : Nat) (h_me_isles : Nat) (h_me_court : Nat) (h_me_study : Nat) (h_me_paper : Nat) (h_me_paperCourt : Nat) (h_me_past : Nat) (h_me_pastAhead : Nat) (h_me_movingAhead : Nat) (q_me : Nat → Nat) (k_me : Nat → ClassId) (q_me_study : Nat → Nat) (k_me_study : Nat → ClassId) (o_me : Ob) (o_me_study : Ob) (p0 : Int32) (p1 : Int32) (y : Int64 × Ob) (h : f_X8_ladder o_me o_me_study p0 p1 = some y) : CL l yX8_ladder cX8_ladder 3 (some .long) ({ frames := 1, cells := 0, slots := 0, locals := 26 } : Room) dC dI sz [.ref h_me, .int p0, .int p1] [wX8 h_me h_me_reader h_me_machine h_me_isles h_me_court h_me_study h_me_paper h_me_paperCourt h_me_past h_me_pastAhead h_me_movingAhead q_me k_me o_me, wX7 h_me_study h_me_court h_me_isles q_me_study k_me_study o_me_study] [tX8 k_me, tX7 k_me_study] y.1 [wX8 h_me h_me_reader h_me_machine h_me_isles h_me_court h_me_study h_me_paper h_me_paperCourt h_me_past h_me_pastAhead h_me_movingAhead q_me k_me o_me, wX7 h_me_study h_me_court h_me_isles q_me_study k_me_study y.2] := by
  refine CC_of (by decide) (Nat.le_of_ble_eq_true rfl) ?_
  intro p e s m below meth c A ls hx hb hml hr hlk hnm hown hts hX hK hP hD hA hl
  have hl : lv_has ls 3 [(0, .ref h_me), (1, .int p0), (2, .int p1)] := hl
  have hown : s.vm.findClass RX8 = some m.cls := hown
  have hw : Wd dC dI A s.heap [wX8 h_me h_me_reader h_me_machine h_me_isles h_me_court h_me_study h_me_paper h_me_paperCourt h_me_past h_me_pastAhead h_me_movingAhead q_me k_me o_me, wX7 h_me_study h_me_court h_me_isles q_me_study k_me_study o_me_study] s.heap [] := ⟨hP, hD, va_S.rf⟩
  generalize hQz : (MQ below (QL dC dI (fun r (_ : Unit) => r = y.1) (fun _ => Jn [wX8 h_me h_me_reader h_me_machine h_me_isles h_me_court h_me_study h_me_paper h_me_paperCourt h_me_past h_me_pastAhead h_me_movingAhead q_me k_me o_me, wX7 h_me_study h_me_court h_me_isles q_me_study k_me_study y.2]) (fun _ => Jt [tX8 k_me, tX7 k_me_study]) A) ([.ref h_me, .int p0, .int p1] : List Value).toArray s 0 0 A) = Qz
  clear hP hD hnm
  unfold f_X8_ladder at h
  refine lv_iload_n hx hb dX8_ladder_0 rfl (lv_at hl 1 rfl) ?_
  refine lv_iconst (v := 1) hx hb dX8_ladder_1 (by decide) ?_
  refine lv_icmp_lt (tgt := 21) hx hb dX8_ladder_2 (by decide) (fun c => ?_) (fun c => ?_)
  · have h := z_t h c
    refine lv_ldc2 (v := (-1)) hx hb hown (hts _ kw1078) dX8_ladder_21 ?_
    have hy := Option.some.inj h
    rw [← hQz, ← hy]
    exact xr_l (v := (-1 : Int64)) hx hb hr hlk hK hw dX8_ladder_24
  · have h := z_f h c
    refine lv_iload_n hx hb dX8_ladder_5 rfl (lv_at hl 1 rfl) ?_
    refine lv_bipush (v := 60) hx hb dX8_ladder_6 (by decide) ?_
    refine lv_icmp_gt (tgt := 21) hx hb dX8_ladder_8 (by decide) (fun c => ?_) (fun c => ?_)
    · have h := z_t h c
      refine lv_ldc2 (v := (-1)) hx hb hown (hts _ kw1078) dX8_ladder_21 ?_
      have hy := Option.some.inj h
      rw [← hQz, ← hy]
      exact xr_l (v := (-1 : Int64)) hx hb hr hlk hK hw dX8_ladder_24
    · have h := z_f h c
      refine lv_iload_n hx hb dX8_ladder_11 rfl (lv_at hl 2 rfl) ?_
      refine lv_iconst (v := 1) hx hb dX8_ladder_12 (by decide) ?_
      refine lv_icmp_lt (tgt := 21) hx hb dX8_ladder_13 (by decide) (fun c => ?_) (fun c => ?_)
      · have h := z_t h c
        refine lv_ldc2 (v := (-1)) hx hb hown (hts _ kw1078) dX8_ladder_21 ?_
        have hy := Option.some.inj h
        rw [← hQz, ← hy]
        exact xr_l (v := (-1 : Int64)) hx hb hr hlk hK hw dX8_ladder_24
      · have h := z_f h c
        refine lv_iload_n hx hb dX8_ladder_16 rfl (lv_at hl 2 rfl) ?_
        refine lv_iconst (v := 5) hx hb dX8_ladder_17 (by decide) ?_
        refine lv_icmp_le (tgt := 25) hx hb dX8_ladder_18 (by decide) (fun c => ?_) (fun c => ?_)
        · have h := z_t h c
          refine lv_aload_n hx hb dX8_ladder_25 rfl (lv_at hl 0 rfl) ?_
          refine fgX8_4 hx hb hts hown hK hw 0 rfl kw446 dX8_ladder_26 ?_
          refine lv_iload_n hx hb dX8_ladder_29 rfl (lv_at hl 1 rfl) ?_
          refine lv_iload_n hx hb dX8_ladder_30 rfl (lv_at hl 2 rfl) ?_
          obtain ⟨z1, ez1, h⟩ := z_bd h
          refine xj_l (xrV (As := [.int p0, .int p1]) (rest := []) ⟨hx, hb, hml, hown, hts⟩ (m_X7_waysUp l dC dI _ h_me_study h_me_court h_me_isles q_me_study k_me_study o_me_study p0 p1 z1 ez1) kw1082 kw1079 kw1080 kw1081 kw118 hd_X7_waysUp ⟨rfl, rfl⟩ rfl rfl ⟨rfl, rfl⟩ hX hK hw [1] (by decide) rfl rfl rfl rfl rfl hl.1 rfl rfl dX8_ladder_31) hw hA [1] (by decide) rfl rfl (fun H locs hw => ?_)
          have hw : Wd dC dI A s.heap [wX8 h_me h_me_reader h_me_machine h_me_isles h_me_court h_me_study h_me_paper h_me_paperCourt h_me_past h_me_pastAhead h_me_movingAhead q_me k_me o_me, wX7 h_me_study h_me_court h_me_isles q_me_study k_me_study z1.2] H locs := hw
          have hy := Option.some.inj h
          rw [← hQz, ← hy]
          exact xr_l (v := z1.1) hx hb hr hlk hK hw dX8_ladder_34
        · have h := z_f h c
          refine lv_ldc2 (v := (-1)) hx hb hown (hts _ kw1078) dX8_ladder_21 ?_
          have hy := Option.some.inj h
          rw [← hQz, ← hy]
          exact xr_l (v := (-1 : Int64)) hx hb hr hlk hK hw dX8_ladder_24

def lb_J7_fill_53178_AX7_6_5   (rec_5_0 : Int32 × Int32 × Int32 × Ob → Option (Ob)) (v1 : Int32) (v2 : Int32) (v3 : Int32) (o_a0 : Ob) : Option (Ob) :=
  if v3 ≤ v2 then
  (some o_a0)
  else
  (zgd (zin v2 10) <|
  zlt (tA o_a0 6 v2.toNatClampNeg v1) fun o2 =>
  zlt (v2 + (1 : Int32)) fun x3 =>
  rec_5_0 (v1, x3, v3, o2))
def lp_J7_fill_53178_AX7_6_5   : Nat → (Int32 × Int32 × Int32 × Ob) → Option (Ob) := zit (fun rec a => lb_J7_fill_53178_AX7_6_5   rec a.1 a.2.1 a.2.2.1 a.2.2.2)
def f_J7_fill_53178_AX7_6 (o_a0 : Ob) (p1 : Int32) : Option (Ob) :=
  lp_J7_fill_53178_AX7_6_5   zfu (p1, (0 : Int32), (10 : Int32), o_a0)
set_option maxHeartbeats 4000000 in
set_option maxRecDepth 100000 in
theorem m_J7_fill_53178_AX7_6 (l : Launch) (dC : Nat → ClassId) (dI : Nat → Nat → Nat) (sz : Nat) (h_a0 : Nat) (h_a0_court : Nat) (h_a0_court_isles : Nat) (q_a0 : Nat → Nat) (k_a0 : Nat → ClassId) (o_a0 : Ob) (p1 : Int32) (y : Ob) (h : f_J7_fill_53178_AX7_6 o_a0 p1 = some y) : CV l yJ7_fill_53178 cJ7_fill_53178 4 none ({ frames := 0, cells := 0, slots := 0, locals := 0 } : Room) dC dI sz [.ref (q_a0 6), .int p1] [wX7 h_a0 h_a0_court h_a0_court_isles q_a0 k_a0 o_a0] [tX7 k_a0] [wX7 h_a0 h_a0_court h_a0_court_isles q_a0 k_a0 y] := by
  refine CC_of (by decide) (Nat.le_of_ble_eq_true rfl) ?_
  intro p e s m below meth c A ls hx hb hml hr hlk hnm hown hts hX hK hP hD hA hl
  have hl : lv_has ls 4 [(0, .ref (q_a0 6)), (1, .int p1)] := hl
  have hown : s.vm.findClass RJ7 = some m.cls := hown
  have hw : Wd dC dI A s.heap [wX7 h_a0 h_a0_court h_a0_court_isles q_a0 k_a0 o_a0] s.heap [] := ⟨hP, hD, va_S.rf⟩
  generalize hQz : (MQ below (QV dC dI (fun (_ : Unit) => True) (fun _ => Jn [wX7 h_a0 h_a0_court h_a0_court_isles q_a0 k_a0 y]) (fun _ => Jt [tX7 k_a0]) A) ([.ref (q_a0 6), .int p1] : List Value).toArray s 0 0 A) = Qz
  clear hP hD hnm
  have lp_5_0 : ∀ (N : Nat), ∀ (v1 : Int32) (v2 : Int32) (v3 : Int32) (o_a0 : Ob) (H : Heap) (locs : List Loc) (ls : Array Slot), lp_J7_fill_53178_AX7_6_5   N (v1, v2, v3, o_a0) = some y → Wd dC dI A s.heap [wX7 h_a0 h_a0_court h_a0_court_isles q_a0 k_a0 o_a0] H locs → lv_has ls 4 [(0, .ref (q_a0 6)), (1, .int v1), (2, .int v2), (3, .int v3)] → W p l e ({ frames := 0, cells := 0, slots := 0, locals := 0 } : Room) s m ([.ref (q_a0 6), .int p1] : List Value).toArray below meth c H locs 0 0 Qz (F0 m 5 ls []) := by
    intro N
    induction N with
    | zero =>
      intro v1 v2 v3 o_a0 H locs ls h hw hl
      exact absurd (show (none : Option (Ob)) = some y from h) (by simp)
    | succ N ih =>
      intro v1 v2 v3 o_a0 H locs ls h hw hl
      have h : lb_J7_fill_53178_AX7_6_5   (lp_J7_fill_53178_AX7_6_5   N) v1 v2 v3 o_a0 = some y := h
      unfold lb_J7_fill_53178_AX7_6_5 at h
      refine lv_iload_n hx hb dJ7_fill_53178_5 rfl (lv_at hl 2 rfl) ?_
      refine lv_iload_n hx hb dJ7_fill_53178_6 rfl (lv_at hl 3 rfl) ?_
      refine lv_icmp_ge (tgt := 20) hx hb dJ7_fill_53178_7 (by decide) (fun c => ?_) (fun c => ?_)
      · have h := z_t h c
        have hy := Option.some.inj h
        rw [← hQz, ← hy]
        exact xr_v hx hb hr hlk hK hw dJ7_fill_53178_20
      · have h := z_f h c
        refine lv_aload_n hx hb dJ7_fill_53178_10 rfl (lv_at hl 0 rfl) ?_
        refine lv_iload_n hx hb dJ7_fill_53178_11 rfl (lv_at hl 2 rfl) ?_
        refine lv_iload_n hx hb dJ7_fill_53178_12 rfl (lv_at hl 1 rfl) ?_
        obtain ⟨g1, h⟩ := z_gd h
        refine fbX7_6 hx hb hK hw 0 rfl rfl g1 dJ7_fill_53178_13 (fun H locs hw => ?_)
        obtain ⟨o2, eo2, h⟩ := z_lt h
        have hw : Wd dC dI A s.heap [wX7 h_a0 h_a0_court h_a0_court_isles q_a0 k_a0 o2] H locs := by rw [eo2]; exact hw
        obtain ⟨x3, ex3, h⟩ := z_lt h
        refine lv_iinc (v := x3) (lv' := [(2, .int x3), (0, .ref (q_a0 6)), (1, .int v1), (3, .int v3)]) hx hb dJ7_fill_53178_14 hl (k := 2) rfl ((congrArg (v2 + ·) (show Int32.ofInt 1 = (1 : Int32) from by decide)).trans ex3.symm) (by decide) rfl (fun ls hl => ?_)
        refine lv_goto (tgt := 5) hx hb dJ7_fill_53178_17 (by decide) ?_
        exact ih v1 x3 v3 o2 _ _ _ h hw (lv_sub hl [1, 2, 0, 3] rfl)
  unfold f_J7_fill_53178_AX7_6 at h
  refine lv_iconst (v := 0) hx hb dJ7_fill_53178_0 (by decide) ?_
  refine lv_istore_n (lv' := [(2, .int (0 : Int32)), (0, .ref (q_a0 6)), (1, .int p1)]) hx hb dJ7_fill_53178_1 rfl hl (by decide) rfl (fun ls hl => ?_)
  refine lv_aload_n hx hb dJ7_fill_53178_2 rfl (lv_at hl 1 rfl) ?_
  refine fnX7_6 hx hb hK hw 0 rfl rfl dJ7_fill_53178_3 ?_
  refine lv_fi (v := 10) (by decide) ?_
  refine lv_istore_n (lv' := [(3, .int (10 : Int32)), (2, .int (0 : Int32)), (0, .ref (q_a0 6)), (1, .int p1)]) hx hb dJ7_fill_53178_4 rfl hl (by decide) rfl (fun ls hl => ?_)
  exact lp_5_0  zfu p1 (0 : Int32) (10 : Int32) o_a0 _ _ _ h hw (lv_sub hl [2, 3, 1, 0] rfl)

def bk_X7_alikeMost_77 (o_me_court : Ob) (o_me_court_isles : Ob) (o_me_court_isles_now : Ob) (o_pool : List CR) (rec_13_0 : Int32 × Int32 × Int32 × Int32 × Ob × Ob → Option (Int32 × Ob × Ob)) (v1 : Int32) (v2 : Int32) (v3 : Int32) (v4 : Int32) (o_me : Ob) (o_me_court_machine : Ob) : Option (Int32 × Ob × Ob) :=
  zlt (v4 + (1 : Int32)) fun x2 =>
  rec_13_0 (v1, v2, v3, x2, o_me, o_me_court_machine)
def lb_X7_alikeMost_13 (o_me_court : Ob) (o_me_court_isles : Ob) (o_me_court_isles_now : Ob) (o_pool : List CR)  (rec_13_0 : Int32 × Int32 × Int32 × Int32 × Ob × Ob → Option (Int32 × Ob × Ob)) (v1 : Int32) (v2 : Int32) (v3 : Int32) (v4 : Int32) (o_me : Ob) (o_me_court_machine : Ob) : Option (Int32 × Ob × Ob) :=
  if (gI o_me_court_isles 7) ≤ v4 then
  (some (v3, o_me, o_me_court_machine))
  else
  (if ((v1 >>> (v4 &&& 31)) &&& (1 : Int32)) = (1 : Int32) then
  ((f_X2_lawInForce o_me_court_isles).bind fun z3 =>
  (f_X1_turnsTo_Q o_me_court o_me_court_isles o_me_court_isles_now o_me_court_machine o_pool z3 v4 v2).bind fun z4 =>
  zgd (zin z4.1 10) <|
  zgd (zin z4.1 10) <|
  zlt (tA o_me 6 z4.1.toNatClampNeg ((gA o_me 6 z4.1.toNatClampNeg) + (1 : Int32))) fun o7 =>
  zgd (zin z4.1 10) <|
  zlt (if v3 < (gA o7 6 z4.1.toNatClampNeg) then (gA o7 6 z4.1.toNatClampNeg) else v3) fun x9 =>
  bk_X7_alikeMost_77 o_me_court o_me_court_isles o_me_court_isles_now o_pool rec_13_0 v1 v2 x9 v4 o7 z4.2)
  else
  (bk_X7_alikeMost_77 o_me_court o_me_court_isles o_me_court_isles_now o_pool rec_13_0 v1 v2 v3 v4 o_me o_me_court_machine))
def lp_X7_alikeMost_13 (o_me_court : Ob) (o_me_court_isles : Ob) (o_me_court_isles_now : Ob) (o_pool : List CR)  : Nat → (Int32 × Int32 × Int32 × Int32 × Ob × Ob) → Option (Int32 × Ob × Ob) := zit (fun rec a => lb_X7_alikeMost_13 o_me_court o_me_court_isles o_me_court_isles_now o_pool  rec a.1 a.2.1 a.2.2.1 a.2.2.2.1 a.2.2.2.2.1 a.2.2.2.2.2)
def f_X7_alikeMost (o_me : Ob) (o_me_court : Ob) (o_me_court_isles : Ob) (o_me_court_isles_now : Ob) (o_me_court_machine : Ob) (o_pool : List CR) (p0 : Int32) (p1 : Int32) : Option (Int32 × Ob × Ob) :=
  (f_J7_fill_53178_AX7_6 o_me (0 : Int32)).bind fun z1 =>
  lp_X7_alikeMost_13 o_me_court o_me_court_isles o_me_court_isles_now o_pool  zfu (p0, p1, (0 : Int32), (0 : Int32), z1, o_me_court_machine)
set_option maxHeartbeats 4000000 in
set_option maxRecDepth 100000 in
theorem m_X7_alikeMost (l : Launch) (dC : Nat → ClassId) (dI : Nat → Nat → Nat) (sz : Nat) (h_me : Nat) (h_me_court : Nat) (h_me_court_isles : Nat) (h_me_court_machine : Nat) (h_me_court_isles_now : Nat) (q_me : Nat → Nat) (k_me : Nat → ClassId) (q_me_court : Nat → Nat) (k_me_court : Nat → ClassId) (q_me_court_isles : Nat → Nat) (k_me_court_isles : Nat → ClassId) (q_me_court_isles_now : Nat → Nat) (k_me_court_isles_now : Nat → ClassId) (q_me_court_machine : Nat → Nat) (k_me_court_machine : Nat → ClassId) (o_me : Ob) (o_me_court : Ob) (o_me_court_isles : Ob) (o_me_court_isles_now : Ob) (o_me_court_machine : Ob) (o_pool : List CR) (p0 : Int32) (p1 : Int32) (y : Int32 × Ob × Ob) (h : f_X7_alikeMost o_me o_me_court o_me_court_isles o_me_court_isles_now o_me_court_machine o_pool p0 p1 = some y) : CI l yX7_alikeMost cX7_alikeMost 6 (some .int) ({ frames := 4, cells := 0, slots := 0, locals := 109 } : Room) dC dI sz [.ref h_me, .int p0, .int p1] [wX7 h_me h_me_court h_me_court_isles q_me k_me o_me, wX1 h_me_court h_me_court_isles h_me_court_machine q_me_court k_me_court o_me_court, wX2 h_me_court_isles h_me_court_isles_now q_me_court_isles k_me_court_isles o_me_court_isles, wX4 h_me_court_isles_now q_me_court_isles_now k_me_court_isles_now o_me_court_isles_now, wX3 h_me_court_machine q_me_court_machine k_me_court_machine o_me_court_machine, wPL o_pool] [tX7 k_me, tX1 k_me_court, tX2 k_me_court_isles, tX4 k_me_court_isles_now, tX3 k_me_court_machine, tPL o_pool] y.1 [wX7 h_me h_me_court h_me_court_isles q_me k_me y.2.1, wX1 h_me_court h_me_court_isles h_me_court_machine q_me_court k_me_court o_me_court, wX2 h_me_court_isles h_me_court_isles_now q_me_court_isles k_me_court_isles o_me_court_isles, wX4 h_me_court_isles_now q_me_court_isles_now k_me_court_isles_now o_me_court_isles_now, wX3 h_me_court_machine q_me_court_machine k_me_court_machine y.2.2, wPL o_pool] := by
  refine CC_of (by decide) (Nat.le_of_ble_eq_true rfl) ?_
  intro p e s m below meth c A ls hx hb hml hr hlk hnm hown hts hX hK hP hD hA hl
  have hl : lv_has ls 6 [(0, .ref h_me), (1, .int p0), (2, .int p1)] := hl
  have hown : s.vm.findClass RX7 = some m.cls := hown
  have hw : Wd dC dI A s.heap [wX7 h_me h_me_court h_me_court_isles q_me k_me o_me, wX1 h_me_court h_me_court_isles h_me_court_machine q_me_court k_me_court o_me_court, wX2 h_me_court_isles h_me_court_isles_now q_me_court_isles k_me_court_isles o_me_court_isles, wX4 h_me_court_isles_now q_me_court_isles_now k_me_court_isles_now o_me_court_isles_now, wX3 h_me_court_machine q_me_court_machine k_me_court_machine o_me_court_machine, wPL o_pool] s.heap [] := ⟨hP, hD, va_S.rf⟩
  generalize hQz : (MQ below (QI dC dI (fun r (_ : Unit) => r = y.1) (fun _ => Jn [wX7 h_me h_me_court h_me_court_isles q_me k_me y.2.1, wX1 h_me_court h_me_court_isles h_me_court_machine q_me_court k_me_court o_me_court, wX2 h_me_court_isles h_me_court_isles_now q_me_court_isles k_me_court_isles o_me_court_isles, wX4 h_me_court_isles_now q_me_court_isles_now k_me_court_isles_now o_me_court_isles_now, wX3 h_me_court_machine q_me_court_machine k_me_court_machine y.2.2, wPL o_pool]) (fun _ => Jt [tX7 k_me, tX1 k_me_court, tX2 k_me_court_isles, tX4 k_me_court_isles_now, tX3 k_me_court_machine, tPL o_pool]) A) ([.ref h_me, .int p0, .int p1] : List Value).toArray s 0 0 A) = Qz
  clear hP hD hnm
  have bk_77_1 : ∀ (rec_13_0 : Int32 × Int32 × Int32 × Int32 × Ob × Ob → Option (Int32 × Ob × Ob)) (hrec_13_0 : ∀ (v1 : Int32) (v2 : Int32) (v3 : Int32) (v4 : Int32) (o_me : Ob) (o_me_court_machine : Ob) (H : Heap) (locs : List Loc) (ls : Array Slot), rec_13_0 (v1, v2, v3, v4, o_me, o_me_court_machine) = some y → Wd dC dI A s.heap [wX7 h_me h_me_court h_me_court_isles q_me k_me o_me, wX1 h_me_court h_me_court_isles h_me_court_machine q_me_court k_me_court o_me_court, wX2 h_me_court_isles h_me_court_isles_now q_me_court_isles k_me_court_isles o_me_court_isles, wX4 h_me_court_isles_now q_me_court_isles_now k_me_court_isles_now o_me_court_isles_now, wX3 h_me_court_machine q_me_court_machine k_me_court_machine o_me_court_machine, wPL o_pool] H locs → lv_has ls 6 [(0, .ref h_me), (1, .int v1), (2, .int v2), (3, .int v3), (4, .int v4)] → W p l e ({ frames := 4, cells := 0, slots := 0, locals := 109 } : Room) s m ([.ref h_me, .int p0, .int p1] : List Value).toArray below meth c H locs 0 0 Qz (F0 m 13 ls [])), ∀ (v1 : Int32) (v2 : Int32) (v3 : Int32) (v4 : Int32) (o_me : Ob) (o_me_court_machine : Ob) (H : Heap) (locs : List Loc) (ls : Array Slot), bk_X7_alikeMost_77 o_me_court o_me_court_isles o_me_court_isles_now o_pool rec_13_0 v1 v2 v3 v4 o_me o_me_court_machine = some y → Wd dC dI A s.heap [wX7 h_me h_me_court h_me_court_isles q_me k_me o_me, wX1 h_me_court h_me_court_isles h_me_court_machine q_me_court k_me_court o_me_court, wX2 h_me_court_isles h_me_court_isles_now q_me_court_isles k_me_court_isles o_me_court_isles, wX4 h_me_court_isles_now q_me_court_isles_now k_me_court_isles_now o_me_court_isles_now, wX3 h_me_court_machine q_me_court_machine k_me_court_machine o_me_court_machine, wPL o_pool] H locs → lv_has ls 6 [(0, .ref h_me), (1, .int v1), (2, .int v2), (3, .int v3), (4, .int v4)] → W p l e ({ frames := 4, cells := 0, slots := 0, locals := 109 } : Room) s m ([.ref h_me, .int p0, .int p1] : List Value).toArray below meth c H locs 0 0 Qz (F0 m 77 ls []) := by
    intro rec_13_0 hrec_13_0
    intro v1 v2 v3 v4 o_me o_me_court_machine H locs ls h hw hl
    unfold bk_X7_alikeMost_77 at h
    obtain ⟨x2, ex2, h⟩ := z_lt h
    refine lv_iinc (v := x2) (lv' := [(4, .int x2), (0, .ref h_me), (1, .int v1), (2, .int v2), (3, .int v3)]) hx hb dX7_alikeMost_77 hl (k := 4) rfl ((congrArg (v4 + ·) (show Int32.ofInt 1 = (1 : Int32) from by decide)).trans ex2.symm) (by decide) rfl (fun ls hl => ?_)
    refine lv_goto (tgt := 13) hx hb dX7_alikeMost_80 (by decide) ?_
    exact hrec_13_0 v1 v2 v3 x2 o_me o_me_court_machine _ _ _ h hw (lv_sub hl [1, 2, 3, 4, 0] rfl)
  have lp_13_0 : ∀ (N : Nat), ∀ (v1 : Int32) (v2 : Int32) (v3 : Int32) (v4 : Int32) (o_me : Ob) (o_me_court_machine : Ob) (H : Heap) (locs : List Loc) (ls : Array Slot), lp_X7_alikeMost_13 o_me_court o_me_court_isles o_me_court_isles_now o_pool  N (v1, v2, v3, v4, o_me, o_me_court_machine) = some y → Wd dC dI A s.heap [wX7 h_me h_me_court h_me_court_isles q_me k_me o_me, wX1 h_me_court h_me_court_isles h_me_court_machine q_me_court k_me_court o_me_court, wX2 h_me_court_isles h_me_court_isles_now q_me_court_isles k_me_court_isles o_me_court_isles, wX4 h_me_court_isles_now q_me_court_isles_now k_me_court_isles_now o_me_court_isles_now, wX3 h_me_court_machine q_me_court_machine k_me_court_machine o_me_court_machine, wPL o_pool] H locs → lv_has ls 6 [(0, .ref h_me), (1, .int v1), (2, .int v2), (3, .int v3), (4, .int v4)] → W p l e ({ frames := 4, cells := 0, slots := 0, locals := 109 } : Room) s m ([.ref h_me, .int p0, .int p1] : List Value).toArray below meth c H locs 0 0 Qz (F0 m 13 ls []) := by
    intro N
    induction N with
    | zero =>
      intro v1 v2 v3 v4 o_me o_me_court_machine H locs ls h hw hl
      exact absurd (show (none : Option (Int32 × Ob × Ob)) = some y from h) (by simp)
    | succ N ih =>
      intro v1 v2 v3 v4 o_me o_me_court_machine H locs ls h hw hl
      have h : lb_X7_alikeMost_13 o_me_court o_me_court_isles o_me_court_isles_now o_pool  (lp_X7_alikeMost_13 o_me_court o_me_court_isles o_me_court_isles_now o_pool  N) v1 v2 v3 v4 o_me o_me_court_machine = some y := h
      unfold lb_X7_alikeMost_13 at h
      refine lv_iload hx hb dX7_alikeMost_13 (lv_at hl 4 rfl) ?_
      refine lv_aload_n hx hb dX7_alikeMost_15 rfl (lv_at hl 0 rfl) ?_
      refine fgX7_1 hx hb hts hown hK hw 0 rfl kw387 dX7_alikeMost_16 ?_
      refine fgX2_7 hx hb hts hown hK hw 2 rfl kw316 dX7_alikeMost_19 ?_
      refine lv_icmp_ge (tgt := 83) hx hb dX7_alikeMost_22 (by decide) (fun c => ?_) (fun c => ?_)
      · have h := z_t h c
        refine lv_iload_n hx hb dX7_alikeMost_83 rfl (lv_at hl 3 rfl) ?_
        have hy := Option.some.inj h
        rw [← hQz, ← hy]
        exact xr_i (v := v3) hx hb hr rfl hlk hK hw dX7_alikeMost_84
      · have h := z_f h c
        refine lv_iload_n hx hb dX7_alikeMost_25 rfl (lv_at hl 1 rfl) ?_
        refine lv_iload hx hb dX7_alikeMost_26 (lv_at hl 4 rfl) ?_
        refine lv_ishr hx hb dX7_alikeMost_28 ?_
        refine lv_iconst (v := 1) hx hb dX7_alikeMost_29 (by decide) ?_
        refine lv_iand hx hb dX7_alikeMost_30 ?_
        refine lv_iconst (v := 1) hx hb dX7_alikeMost_31 (by decide) ?_
        refine lv_icmp_ne (tgt := 77) hx hb dX7_alikeMost_32 (by decide) (fun c => ?_) (fun c => ?_)
        · have h := z_f h c
          exact bk_77_1 (lp_X7_alikeMost_13 o_me_court o_me_court_isles o_me_court_isles_now o_pool  N) ih v1 v2 v3 v4 o_me o_me_court_machine _ _ _ h hw (lv_sub hl [0, 1, 2, 3, 4] rfl)
        · have h := z_t h c
          refine lv_aload_n hx hb dX7_alikeMost_35 rfl (lv_at hl 0 rfl) ?_
          refine fgX7_0 hx hb hts hown hK hw 0 rfl kw386 dX7_alikeMost_36 ?_
          refine lv_aload_n hx hb dX7_alikeMost_39 rfl (lv_at hl 0 rfl) ?_
          refine fgX7_1 hx hb hts hown hK hw 0 rfl kw387 dX7_alikeMost_40 ?_
          obtain ⟨z3, ez3, h⟩ := z_bd h
          refine xj_q (xrV (As := []) (rest := [.ref h_me_court]) ⟨hx, hb, hml, hown, hts⟩ (m_X2_lawInForce l dC dI _ h_me_court_isles h_me_court_isles_now q_me_court_isles k_me_court_isles o_me_court_isles z3 ez3) kw531 kw955 kw529 kw530 kw115 hd_X2_lawInForce ⟨rfl, rfl⟩ rfl rfl ⟨rfl, rfl⟩ hX hK hw [2] (by decide) rfl rfl rfl rfl rfl hl.1 rfl rfl dX7_alikeMost_43) hw hA [2] (by decide) rfl rfl (fun H locs hw => ?_)
          have hw : Wd dC dI A s.heap [wX7 h_me h_me_court h_me_court_isles q_me k_me o_me, wX1 h_me_court h_me_court_isles h_me_court_machine q_me_court k_me_court o_me_court, wX2 h_me_court_isles h_me_court_isles_now q_me_court_isles k_me_court_isles o_me_court_isles, wX4 h_me_court_isles_now q_me_court_isles_now k_me_court_isles_now o_me_court_isles_now, wX3 h_me_court_machine q_me_court_machine k_me_court_machine o_me_court_machine, wPL o_pool] H locs := hw
          refine lv_iload hx hb dX7_alikeMost_46 (lv_at hl 4 rfl) ?_
          refine lv_iload_n hx hb dX7_alikeMost_48 rfl (lv_at hl 2 rfl) ?_
          obtain ⟨z4, ez4, h⟩ := z_bd h
          refine xj_i (xrV (As := [va_rf z3, .int v4, .int v2]) (rest := []) ⟨hx, hb, hml, hown, hts⟩ (m_X1_turnsTo_Q l dC dI _ h_me_court h_me_court_isles h_me_court_machine h_me_court_isles_now q_me_court k_me_court q_me_court_isles k_me_court_isles q_me_court_isles_now k_me_court_isles_now q_me_court_machine k_me_court_machine o_me_court o_me_court_isles o_me_court_isles_now o_me_court_machine o_pool z3 v4 v2 z4 ez4) kw875 kw991 kw873 kw874 kw117 hd_X1_turnsTo ⟨rfl, rfl⟩ rfl rfl ⟨rfl, rfl⟩ hX hK hw [1, 2, 3, 4, 5] (by decide) rfl rfl rfl rfl rfl hl.1 rfl rfl dX7_alikeMost_49) hw hA [1, 2, 3, 4, 5] (by decide) rfl rfl (fun H locs hw => ?_)
          have hw : Wd dC dI A s.heap [wX7 h_me h_me_court h_me_court_isles q_me k_me o_me, wX1 h_me_court h_me_court_isles h_me_court_machine q_me_court k_me_court o_me_court, wX2 h_me_court_isles h_me_court_isles_now q_me_court_isles k_me_court_isles o_me_court_isles, wX4 h_me_court_isles_now q_me_court_isles_now k_me_court_isles_now o_me_court_isles_now, wX3 h_me_court_machine q_me_court_machine k_me_court_machine z4.2, wPL o_pool] H locs := hw
          refine lv_istore (lv' := [(5, .int z4.1), (0, .ref h_me), (1, .int v1), (2, .int v2), (3, .int v3), (4, .int v4)]) hx hb dX7_alikeMost_52 hl (by decide) rfl (fun ls hl => ?_)
          refine lv_aload_n hx hb dX7_alikeMost_54 rfl (lv_at hl 1 rfl) ?_
          refine fgX7_6 hx hb hts hown hK hw 0 rfl kw393 dX7_alikeMost_55 ?_
          refine lv_iload hx hb dX7_alikeMost_58 (lv_at hl 0 rfl) ?_
          refine lv_dup2_11 hx hb dX7_alikeMost_60 rfl rfl ?_
          obtain ⟨g5, h⟩ := z_gd h
          refine faX7_6 hx hb hK hw 0 rfl rfl g5 dX7_alikeMost_61 ?_
          refine lv_iconst (v := 1) hx hb dX7_alikeMost_62 (by decide) ?_
          refine lv_iadd hx hb dX7_alikeMost_63 ?_
          obtain ⟨g6, h⟩ := z_gd h
          refine fbX7_6 hx hb hK hw 0 rfl rfl g6 dX7_alikeMost_64 (fun H locs hw => ?_)
          obtain ⟨o7, eo7, h⟩ := z_lt h
          have hw : Wd dC dI A s.heap [wX7 h_me h_me_court h_me_court_isles q_me k_me o7, wX1 h_me_court h_me_court_isles h_me_court_machine q_me_court k_me_court o_me_court, wX2 h_me_court_isles h_me_court_isles_now q_me_court_isles k_me_court_isles o_me_court_isles, wX4 h_me_court_isles_now q_me_court_isles_now k_me_court_isles_now o_me_court_isles_now, wX3 h_me_court_machine q_me_court_machine k_me_court_machine z4.2, wPL o_pool] H locs := by rw [eo7]; exact hw
          refine lv_iload_n hx hb dX7_alikeMost_65 rfl (lv_at hl 4 rfl) ?_
          refine lv_aload_n hx hb dX7_alikeMost_66 rfl (lv_at hl 1 rfl) ?_
          refine fgX7_6 hx hb hts hown hK hw 0 rfl kw393 dX7_alikeMost_67 ?_
          refine lv_iload hx hb dX7_alikeMost_70 (lv_at hl 0 rfl) ?_
          obtain ⟨g8, h⟩ := z_gd h
          refine faX7_6 hx hb hK hw 0 rfl rfl g8 dX7_alikeMost_72 ?_
          refine va_mmax hx hb (hml.trans hl.1.symm) hown (hts _ kw1008) (hts _ kw149) (hts _ kw113) (hts _ kw150) (Nat.le_of_ble_eq_true rfl) (Nat.le_of_ble_eq_true rfl) (Nat.le_of_ble_eq_true rfl) (Nat.le_of_ble_eq_true rfl) dX7_alikeMost_73 ?_
          obtain ⟨x9, ex9, h⟩ := z_lt h
          refine lv_fi (v := x9) ex9.symm ?_
          refine lv_istore_n (lv' := [(3, .int x9), (5, .int z4.1), (0, .ref h_me), (1, .int v1), (2, .int v2), (4, .int v4)]) hx hb dX7_alikeMost_76 rfl hl (by decide) rfl (fun ls hl => ?_)
          exact bk_77_1 (lp_X7_alikeMost_13 o_me_court o_me_court_isles o_me_court_isles_now o_pool  N) ih v1 v2 x9 v4 o7 z4.2 _ _ _ h hw (lv_sub hl [2, 3, 4, 0, 5] rfl)
  unfold f_X7_alikeMost at h
  refine lv_aload_n hx hb dX7_alikeMost_0 rfl (lv_at hl 0 rfl) ?_
  refine fgX7_6 hx hb hts hown hK hw 0 rfl kw393 dX7_alikeMost_1 ?_
  refine lv_iconst (v := 0) hx hb dX7_alikeMost_4 (by decide) ?_
  obtain ⟨z1, ez1, h⟩ := z_bd h
  refine xj_v (xrS (As := [.ref (q_me 6), .int (0 : Int32)]) (rest := []) ⟨hx, hb, hml, hown, hts⟩ (m_J7_fill_53178_AX7_6 l dC dI _ h_me h_me_court h_me_court_isles q_me k_me o_me (0 : Int32) z1 ez1) kw1007 kw1005 kw1006 kw127 hd_J7_fill_53178 ⟨rfl, rfl⟩ rfl rfl ⟨rfl, rfl⟩ hX hK hw [0] (by decide) rfl rfl hl.1 rfl rfl dX7_alikeMost_5) hw hA [0] (by decide) rfl rfl (fun H locs hw => ?_)
  have hw : Wd dC dI A s.heap [wX7 h_me h_me_court h_me_court_isles q_me k_me z1, wX1 h_me_court h_me_court_isles h_me_court_machine q_me_court k_me_court o_me_court, wX2 h_me_court_isles h_me_court_isles_now q_me_court_isles k_me_court_isles o_me_court_isles, wX4 h_me_court_isles_now q_me_court_isles_now k_me_court_isles_now o_me_court_isles_now, wX3 h_me_court_machine q_me_court_machine k_me_court_machine o_me_court_machine, wPL o_pool] H locs := hw
  refine lv_iconst (v := 0) hx hb dX7_alikeMost_8 (by decide) ?_
  refine lv_istore_n (lv' := [(3, .int (0 : Int32)), (0, .ref h_me), (1, .int p0), (2, .int p1)]) hx hb dX7_alikeMost_9 rfl hl (by decide) rfl (fun ls hl => ?_)
  refine lv_iconst (v := 0) hx hb dX7_alikeMost_10 (by decide) ?_
  refine lv_istore (lv' := [(4, .int (0 : Int32)), (3, .int (0 : Int32)), (0, .ref h_me), (1, .int p0), (2, .int p1)]) hx hb dX7_alikeMost_11 hl (by decide) rfl (fun ls hl => ?_)
  exact lp_13_0  zfu p0 p1 (0 : Int32) (0 : Int32) z1 o_me_court_machine _ _ _ h hw (lv_sub hl [2, 3, 4, 1, 0] rfl)

def bk_X7_raceToWatch_55 (o_me_court : Ob) (o_me_court_isles : Ob) (o_me_court_isles_now : Ob) (o_pool : List CR) (rec_25_0 : Int32 × Int32 × Int32 × Ob × Ob → Option (Int32 × Ob × Ob)) (v1 : Int32) (v2 : Int32) (v3 : Int32) (o_me : Ob) (o_me_court_machine : Ob) : Option (Int32 × Ob × Ob) :=
  zlt (v3 + (1 : Int32)) fun x5 =>
  rec_25_0 (v1, v2, x5, o_me, o_me_court_machine)
def lb_X7_raceToWatch_25 (o_me_court : Ob) (o_me_court_isles : Ob) (o_me_court_isles_now : Ob) (o_pool : List CR)  (rec_25_0 : Int32 × Int32 × Int32 × Ob × Ob → Option (Int32 × Ob × Ob)) (v1 : Int32) (v2 : Int32) (v3 : Int32) (o_me : Ob) (o_me_court_machine : Ob) : Option (Int32 × Ob × Ob) :=
  if (4 : Int32) ≤ v3 then
  (some (v2, o_me, o_me_court_machine))
  else
  ((f_X7_alikeMost o_me o_me_court o_me_court_isles o_me_court_isles_now o_me_court_machine o_pool v1 v3).bind fun z4 =>
  if (gI z4.2.1 9) ≤ z4.1 then
  (bk_X7_raceToWatch_55 o_me_court o_me_court_isles o_me_court_isles_now o_pool rec_25_0 v1 v2 v3 z4.2.1 z4.2.2)
  else
  (zlt (sI z4.2.1 9 z4.1) fun o6 =>
  bk_X7_raceToWatch_55 o_me_court o_me_court_isles o_me_court_isles_now o_pool rec_25_0 v1 v3 v3 o6 z4.2.2))
def lp_X7_raceToWatch_25 (o_me_court : Ob) (o_me_court_isles : Ob) (o_me_court_isles_now : Ob) (o_pool : List CR)  : Nat → (Int32 × Int32 × Int32 × Ob × Ob) → Option (Int32 × Ob × Ob) := zit (fun rec a => lb_X7_raceToWatch_25 o_me_court o_me_court_isles o_me_court_isles_now o_pool  rec a.1 a.2.1 a.2.2.1 a.2.2.2.1 a.2.2.2.2)
def f_X7_raceToWatch (o_me : Ob) (o_me_court : Ob) (o_me_court_isles : Ob) (o_me_court_isles_now : Ob) (o_me_court_machine : Ob) (o_pool : List CR) : Option (Int32 × Ob × Ob) :=
  (f_X7_suspects o_me o_me_court o_me_court_isles o_me_court_isles_now o_me_court_machine o_pool).bind fun z1 =>
  if z1.1 = (0 : Int32) then
  (some ((-1 : Int32), o_me, z1.2))
  else
  ((f_X7_alikeMost o_me o_me_court o_me_court_isles o_me_court_isles_now z1.2 o_pool z1.1 (0 : Int32)).bind fun z2 =>
  zlt (sI z2.2.1 9 z2.1) fun o3 =>
  lp_X7_raceToWatch_25 o_me_court o_me_court_isles o_me_court_isles_now o_pool  zfu (z1.1, (0 : Int32), (1 : Int32), o3, z2.2.2))
set_option maxHeartbeats 4000000 in
set_option maxRecDepth 100000 in
theorem m_X7_raceToWatch (l : Launch) (dC : Nat → ClassId) (dI : Nat → Nat → Nat) (sz : Nat) (h_me : Nat) (h_me_court : Nat) (h_me_court_isles : Nat) (h_me_court_machine : Nat) (h_me_court_isles_now : Nat) (q_me : Nat → Nat) (k_me : Nat → ClassId) (q_me_court : Nat → Nat) (k_me_court : Nat → ClassId) (q_me_court_isles : Nat → Nat) (k_me_court_isles : Nat → ClassId) (q_me_court_isles_now : Nat → Nat) (k_me_court_isles_now : Nat → ClassId) (q_me_court_machine : Nat → Nat) (k_me_court_machine : Nat → ClassId) (o_me : Ob) (o_me_court : Ob) (o_me_court_isles : Ob) (o_me_court_isles_now : Ob) (o_me_court_machine : Ob) (o_pool : List CR) (y : Int32 × Ob × Ob) (h : f_X7_raceToWatch o_me o_me_court o_me_court_isles o_me_court_isles_now o_me_court_machine o_pool = some y) : CI l yX7_raceToWatch cX7_raceToWatch 5 (some .int) ({ frames := 6, cells := 0, slots := 0, locals := 153 } : Room) dC dI sz [.ref h_me] [wX7 h_me h_me_court h_me_court_isles q_me k_me o_me, wX1 h_me_court h_me_court_isles h_me_court_machine q_me_court k_me_court o_me_court, wX2 h_me_court_isles h_me_court_isles_now q_me_court_isles k_me_court_isles o_me_court_isles, wX4 h_me_court_isles_now q_me_court_isles_now k_me_court_isles_now o_me_court_isles_now, wX3 h_me_court_machine q_me_court_machine k_me_court_machine o_me_court_machine, wPL o_pool] [tX7 k_me, tX1 k_me_court, tX2 k_me_court_isles, tX4 k_me_court_isles_now, tX3 k_me_court_machine, tPL o_pool] y.1 [wX7 h_me h_me_court h_me_court_isles q_me k_me y.2.1, wX1 h_me_court h_me_court_isles h_me_court_machine q_me_court k_me_court o_me_court, wX2 h_me_court_isles h_me_court_isles_now q_me_court_isles k_me_court_isles o_me_court_isles, wX4 h_me_court_isles_now q_me_court_isles_now k_me_court_isles_now o_me_court_isles_now, wX3 h_me_court_machine q_me_court_machine k_me_court_machine y.2.2, wPL o_pool] := by
  refine CC_of (by decide) (Nat.le_of_ble_eq_true rfl) ?_
  intro p e s m below meth c A ls hx hb hml hr hlk hnm hown hts hX hK hP hD hA hl
  have hl : lv_has ls 5 [(0, .ref h_me)] := hl
  have hown : s.vm.findClass RX7 = some m.cls := hown
  have hw : Wd dC dI A s.heap [wX7 h_me h_me_court h_me_court_isles q_me k_me o_me, wX1 h_me_court h_me_court_isles h_me_court_machine q_me_court k_me_court o_me_court, wX2 h_me_court_isles h_me_court_isles_now q_me_court_isles k_me_court_isles o_me_court_isles, wX4 h_me_court_isles_now q_me_court_isles_now k_me_court_isles_now o_me_court_isles_now, wX3 h_me_court_machine q_me_court_machine k_me_court_machine o_me_court_machine, wPL o_pool] s.heap [] := ⟨hP, hD, va_S.rf⟩
  generalize hQz : (MQ below (QI dC dI (fun r (_ : Unit) => r = y.1) (fun _ => Jn [wX7 h_me h_me_court h_me_court_isles q_me k_me y.2.1, wX1 h_me_court h_me_court_isles h_me_court_machine q_me_court k_me_court o_me_court, wX2 h_me_court_isles h_me_court_isles_now q_me_court_isles k_me_court_isles o_me_court_isles, wX4 h_me_court_isles_now q_me_court_isles_now k_me_court_isles_now o_me_court_isles_now, wX3 h_me_court_machine q_me_court_machine k_me_court_machine y.2.2, wPL o_pool]) (fun _ => Jt [tX7 k_me, tX1 k_me_court, tX2 k_me_court_isles, tX4 k_me_court_isles_now, tX3 k_me_court_machine, tPL o_pool]) A) ([.ref h_me] : List Value).toArray s 0 0 A) = Qz
  clear hP hD hnm
  have bk_55_1 : ∀ (rec_25_0 : Int32 × Int32 × Int32 × Ob × Ob → Option (Int32 × Ob × Ob)) (hrec_25_0 : ∀ (v1 : Int32) (v2 : Int32) (v3 : Int32) (o_me : Ob) (o_me_court_machine : Ob) (H : Heap) (locs : List Loc) (ls : Array Slot), rec_25_0 (v1, v2, v3, o_me, o_me_court_machine) = some y → Wd dC dI A s.heap [wX7 h_me h_me_court h_me_court_isles q_me k_me o_me, wX1 h_me_court h_me_court_isles h_me_court_machine q_me_court k_me_court o_me_court, wX2 h_me_court_isles h_me_court_isles_now q_me_court_isles k_me_court_isles o_me_court_isles, wX4 h_me_court_isles_now q_me_court_isles_now k_me_court_isles_now o_me_court_isles_now, wX3 h_me_court_machine q_me_court_machine k_me_court_machine o_me_court_machine, wPL o_pool] H locs → lv_has ls 5 [(0, .ref h_me), (1, .int v1), (2, .int v2), (3, .int v3)] → W p l e ({ frames := 6, cells := 0, slots := 0, locals := 153 } : Room) s m ([.ref h_me] : List Value).toArray below meth c H locs 0 0 Qz (F0 m 25 ls [])), ∀ (v1 : Int32) (v2 : Int32) (v3 : Int32) (o_me : Ob) (o_me_court_machine : Ob) (H : Heap) (locs : List Loc) (ls : Array Slot), bk_X7_raceToWatch_55 o_me_court o_me_court_isles o_me_court_isles_now o_pool rec_25_0 v1 v2 v3 o_me o_me_court_machine = some y → Wd dC dI A s.heap [wX7 h_me h_me_court h_me_court_isles q_me k_me o_me, wX1 h_me_court h_me_court_isles h_me_court_machine q_me_court k_me_court o_me_court, wX2 h_me_court_isles h_me_court_isles_now q_me_court_isles k_me_court_isles o_me_court_isles, wX4 h_me_court_isles_now q_me_court_isles_now k_me_court_isles_now o_me_court_isles_now, wX3 h_me_court_machine q_me_court_machine k_me_court_machine o_me_court_machine, wPL o_pool] H locs → lv_has ls 5 [(0, .ref h_me), (1, .int v1), (2, .int v2), (3, .int v3)] → W p l e ({ frames := 6, cells := 0, slots := 0, locals := 153 } : Room) s m ([.ref h_me] : List Value).toArray below meth c H locs 0 0 Qz (F0 m 55 ls []) := by
    intro rec_25_0 hrec_25_0
    intro v1 v2 v3 o_me o_me_court_machine H locs ls h hw hl
    unfold bk_X7_raceToWatch_55 at h
    obtain ⟨x5, ex5, h⟩ := z_lt h
    refine lv_iinc (v := x5) (lv' := [(3, .int x5), (0, .ref h_me), (1, .int v1), (2, .int v2)]) hx hb dX7_raceToWatch_55 hl (k := 3) rfl ((congrArg (v3 + ·) (show Int32.ofInt 1 = (1 : Int32) from by decide)).trans ex5.symm) (by decide) rfl (fun ls hl => ?_)
    refine lv_goto (tgt := 25) hx hb dX7_raceToWatch_58 (by decide) ?_
    exact hrec_25_0 v1 v2 x5 o_me o_me_court_machine _ _ _ h hw (lv_sub hl [1, 2, 3, 0] rfl)
  have lp_25_0 : ∀ (N : Nat), ∀ (v1 : Int32) (v2 : Int32) (v3 : Int32) (o_me : Ob) (o_me_court_machine : Ob) (H : Heap) (locs : List Loc) (ls : Array Slot), lp_X7_raceToWatch_25 o_me_court o_me_court_isles o_me_court_isles_now o_pool  N (v1, v2, v3, o_me, o_me_court_machine) = some y → Wd dC dI A s.heap [wX7 h_me h_me_court h_me_court_isles q_me k_me o_me, wX1 h_me_court h_me_court_isles h_me_court_machine q_me_court k_me_court o_me_court, wX2 h_me_court_isles h_me_court_isles_now q_me_court_isles k_me_court_isles o_me_court_isles, wX4 h_me_court_isles_now q_me_court_isles_now k_me_court_isles_now o_me_court_isles_now, wX3 h_me_court_machine q_me_court_machine k_me_court_machine o_me_court_machine, wPL o_pool] H locs → lv_has ls 5 [(0, .ref h_me), (1, .int v1), (2, .int v2), (3, .int v3)] → W p l e ({ frames := 6, cells := 0, slots := 0, locals := 153 } : Room) s m ([.ref h_me] : List Value).toArray below meth c H locs 0 0 Qz (F0 m 25 ls []) := by
    intro N
    induction N with
    | zero =>
      intro v1 v2 v3 o_me o_me_court_machine H locs ls h hw hl
      exact absurd (show (none : Option (Int32 × Ob × Ob)) = some y from h) (by simp)
    | succ N ih =>
      intro v1 v2 v3 o_me o_me_court_machine H locs ls h hw hl
      have h : lb_X7_raceToWatch_25 o_me_court o_me_court_isles o_me_court_isles_now o_pool  (lp_X7_raceToWatch_25 o_me_court o_me_court_isles o_me_court_isles_now o_pool  N) v1 v2 v3 o_me o_me_court_machine = some y := h
      unfold lb_X7_raceToWatch_25 at h
      refine lv_iload_n hx hb dX7_raceToWatch_25 rfl (lv_at hl 3 rfl) ?_
      refine lv_iconst (v := 4) hx hb dX7_raceToWatch_26 (by decide) ?_
      refine lv_icmp_ge (tgt := 61) hx hb dX7_raceToWatch_27 (by decide) (fun c => ?_) (fun c => ?_)
      · have h := z_t h c
        refine lv_iload_n hx hb dX7_raceToWatch_61 rfl (lv_at hl 2 rfl) ?_
        have hy := Option.some.inj h
        rw [← hQz, ← hy]
        exact xr_i (v := v2) hx hb hr rfl hlk hK hw dX7_raceToWatch_62
      · have h := z_f h c
        refine lv_aload_n hx hb dX7_raceToWatch_30 rfl (lv_at hl 0 rfl) ?_
        refine lv_iload_n hx hb dX7_raceToWatch_31 rfl (lv_at hl 1 rfl) ?_
        refine lv_iload_n hx hb dX7_raceToWatch_32 rfl (lv_at hl 3 rfl) ?_
        obtain ⟨z4, ez4, h⟩ := z_bd h
        refine xj_i (xrV (As := [.int v1, .int v3]) (rest := []) ⟨hx, hb, hml, hown, hts⟩ (m_X7_alikeMost l dC dI _ h_me h_me_court h_me_court_isles h_me_court_machine h_me_court_isles_now q_me k_me q_me_court k_me_court q_me_court_isles k_me_court_isles q_me_court_isles_now k_me_court_isles_now q_me_court_machine k_me_court_machine o_me o_me_court o_me_court_isles o_me_court_isles_now o_me_court_machine o_pool v1 v3 z4 ez4) kw1004 kw1001 kw1003 kw30 kw118 hd_X7_alikeMost ⟨rfl, rfl⟩ rfl rfl ⟨rfl, rfl⟩ hX hK hw [0, 1, 2, 3, 4, 5] (by decide) rfl rfl rfl rfl rfl hl.1 rfl rfl dX7_raceToWatch_33) hw hA [0, 1, 2, 3, 4, 5] (by decide) rfl rfl (fun H locs hw => ?_)
        have hw : Wd dC dI A s.heap [wX7 h_me h_me_court h_me_court_isles q_me k_me z4.2.1, wX1 h_me_court h_me_court_isles h_me_court_machine q_me_court k_me_court o_me_court, wX2 h_me_court_isles h_me_court_isles_now q_me_court_isles k_me_court_isles o_me_court_isles, wX4 h_me_court_isles_now q_me_court_isles_now k_me_court_isles_now o_me_court_isles_now, wX3 h_me_court_machine q_me_court_machine k_me_court_machine z4.2.2, wPL o_pool] H locs := hw
        refine lv_istore (lv' := [(4, .int z4.1), (0, .ref h_me), (1, .int v1), (2, .int v2), (3, .int v3)]) hx hb dX7_raceToWatch_36 hl (by decide) rfl (fun ls hl => ?_)
        refine lv_iload hx hb dX7_raceToWatch_38 (lv_at hl 0 rfl) ?_
        refine lv_aload_n hx hb dX7_raceToWatch_40 rfl (lv_at hl 1 rfl) ?_
        refine fgX7_9 hx hb hts hown hK hw 0 rfl kw396 dX7_raceToWatch_41 ?_
        refine lv_icmp_ge (tgt := 55) hx hb dX7_raceToWatch_44 (by decide) (fun c => ?_) (fun c => ?_)
        · have h := z_t h c
          exact bk_55_1 (lp_X7_raceToWatch_25 o_me_court o_me_court_isles o_me_court_isles_now o_pool  N) ih v1 v2 v3 z4.2.1 z4.2.2 _ _ _ h hw (lv_sub hl [1, 2, 3, 4] rfl)
        · have h := z_f h c
          refine lv_aload_n hx hb dX7_raceToWatch_47 rfl (lv_at hl 1 rfl) ?_
          refine lv_iload hx hb dX7_raceToWatch_48 (lv_at hl 0 rfl) ?_
          refine fpX7_9 hx hb hts hown hK hw 0 rfl kw396 dX7_raceToWatch_50 (fun H locs hw => ?_)
          obtain ⟨o6, eo6, h⟩ := z_lt h
          have hw : Wd dC dI A s.heap [wX7 h_me h_me_court h_me_court_isles q_me k_me o6, wX1 h_me_court h_me_court_isles h_me_court_machine q_me_court k_me_court o_me_court, wX2 h_me_court_isles h_me_court_isles_now q_me_court_isles k_me_court_isles o_me_court_isles, wX4 h_me_court_isles_now q_me_court_isles_now k_me_court_isles_now o_me_court_isles_now, wX3 h_me_court_machine q_me_court_machine k_me_court_machine z4.2.2, wPL o_pool] H locs := by rw [eo6]; exact hw
          refine lv_iload_n hx hb dX7_raceToWatch_53 rfl (lv_at hl 4 rfl) ?_
          refine lv_istore_n (lv' := [(2, .int v3), (4, .int z4.1), (0, .ref h_me), (1, .int v1), (3, .int v3)]) hx hb dX7_raceToWatch_54 rfl hl (by decide) rfl (fun ls hl => ?_)
          exact bk_55_1 (lp_X7_raceToWatch_25 o_me_court o_me_court_isles o_me_court_isles_now o_pool  N) ih v1 v3 v3 o6 z4.2.2 _ _ _ h hw (lv_sub hl [2, 3, 0, 4] rfl)
  unfold f_X7_raceToWatch at h
  refine lv_aload_n hx hb dX7_raceToWatch_0 rfl (lv_at hl 0 rfl) ?_
  obtain ⟨z1, ez1, h⟩ := z_bd h
  refine xj_i (xrV (As := []) (rest := []) ⟨hx, hb, hml, hown, hts⟩ (m_X7_suspects l dC dI _ h_me h_me_court h_me_court_isles h_me_court_machine h_me_court_isles_now q_me k_me q_me_court k_me_court q_me_court_isles k_me_court_isles q_me_court_isles_now k_me_court_isles_now q_me_court_machine k_me_court_machine o_me o_me_court o_me_court_isles o_me_court_isles_now o_me_court_machine o_pool z1 ez1) kw986 kw1000 kw984 kw985 kw118 hd_X7_suspects ⟨rfl, rfl⟩ rfl rfl ⟨rfl, rfl⟩ hX hK hw [0, 1, 2, 3, 4, 5] (by decide) rfl rfl rfl rfl rfl hl.1 rfl rfl dX7_raceToWatch_1) hw hA [0, 1, 2, 3, 4, 5] (by decide) rfl rfl (fun H locs hw => ?_)
  have hw : Wd dC dI A s.heap [wX7 h_me h_me_court h_me_court_isles q_me k_me o_me, wX1 h_me_court h_me_court_isles h_me_court_machine q_me_court k_me_court o_me_court, wX2 h_me_court_isles h_me_court_isles_now q_me_court_isles k_me_court_isles o_me_court_isles, wX4 h_me_court_isles_now q_me_court_isles_now k_me_court_isles_now o_me_court_isles_now, wX3 h_me_court_machine q_me_court_machine k_me_court_machine z1.2, wPL o_pool] H locs := hw
  refine lv_istore_n (lv' := [(1, .int z1.1), (0, .ref h_me)]) hx hb dX7_raceToWatch_4 rfl hl (by decide) rfl (fun ls hl => ?_)
  refine lv_iload_n hx hb dX7_raceToWatch_5 rfl (lv_at hl 0 rfl) ?_
  refine lv_if_ne (tgt := 11) hx hb dX7_raceToWatch_6 (by decide) (fun c => ?_) (fun c => ?_)
  · have h := z_f h c
    refine lv_iconst (v := 0) hx hb dX7_raceToWatch_11 (by decide) ?_
    refine lv_istore_n (lv' := [(2, .int (0 : Int32)), (1, .int z1.1), (0, .ref h_me)]) hx hb dX7_raceToWatch_12 rfl hl (by decide) rfl (fun ls hl => ?_)
    refine lv_aload_n hx hb dX7_raceToWatch_13 rfl (lv_at hl 2 rfl) ?_
    refine lv_aload_n hx hb dX7_raceToWatch_14 rfl (lv_at hl 2 rfl) ?_
    refine lv_iload_n hx hb dX7_raceToWatch_15 rfl (lv_at hl 1 rfl) ?_
    refine lv_iconst (v := 0) hx hb dX7_raceToWatch_16 (by decide) ?_
    obtain ⟨z2, ez2, h⟩ := z_bd h
    refine xj_i (xrV (As := [.int z1.1, .int (0 : Int32)]) (rest := [.ref h_me]) ⟨hx, hb, hml, hown, hts⟩ (m_X7_alikeMost l dC dI _ h_me h_me_court h_me_court_isles h_me_court_machine h_me_court_isles_now q_me k_me q_me_court k_me_court q_me_court_isles k_me_court_isles q_me_court_isles_now k_me_court_isles_now q_me_court_machine k_me_court_machine o_me o_me_court o_me_court_isles o_me_court_isles_now z1.2 o_pool z1.1 (0 : Int32) z2 ez2) kw1004 kw1001 kw1003 kw30 kw118 hd_X7_alikeMost ⟨rfl, rfl⟩ rfl rfl ⟨rfl, rfl⟩ hX hK hw [0, 1, 2, 3, 4, 5] (by decide) rfl rfl rfl rfl rfl hl.1 rfl rfl dX7_raceToWatch_17) hw hA [0, 1, 2, 3, 4, 5] (by decide) rfl rfl (fun H locs hw => ?_)
    have hw : Wd dC dI A s.heap [wX7 h_me h_me_court h_me_court_isles q_me k_me z2.2.1, wX1 h_me_court h_me_court_isles h_me_court_machine q_me_court k_me_court o_me_court, wX2 h_me_court_isles h_me_court_isles_now q_me_court_isles k_me_court_isles o_me_court_isles, wX4 h_me_court_isles_now q_me_court_isles_now k_me_court_isles_now o_me_court_isles_now, wX3 h_me_court_machine q_me_court_machine k_me_court_machine z2.2.2, wPL o_pool] H locs := hw
    refine fpX7_9 hx hb hts hown hK hw 0 rfl kw396 dX7_raceToWatch_20 (fun H locs hw => ?_)
    obtain ⟨o3, eo3, h⟩ := z_lt h
    have hw : Wd dC dI A s.heap [wX7 h_me h_me_court h_me_court_isles q_me k_me o3, wX1 h_me_court h_me_court_isles h_me_court_machine q_me_court k_me_court o_me_court, wX2 h_me_court_isles h_me_court_isles_now q_me_court_isles k_me_court_isles o_me_court_isles, wX4 h_me_court_isles_now q_me_court_isles_now k_me_court_isles_now o_me_court_isles_now, wX3 h_me_court_machine q_me_court_machine k_me_court_machine z2.2.2, wPL o_pool] H locs := by rw [eo3]; exact hw
    refine lv_iconst (v := 1) hx hb dX7_raceToWatch_23 (by decide) ?_
    refine lv_istore_n (lv' := [(3, .int (1 : Int32)), (2, .int (0 : Int32)), (1, .int z1.1), (0, .ref h_me)]) hx hb dX7_raceToWatch_24 rfl hl (by decide) rfl (fun ls hl => ?_)
    exact lp_25_0  zfu z1.1 (0 : Int32) (1 : Int32) o3 z2.2.2 _ _ _ h hw (lv_sub hl [3, 2, 1, 0] rfl)
  · have h := z_t h c
    refine lv_iconst (v := (-1)) hx hb dX7_raceToWatch_9 (by decide) ?_
    have hy := Option.some.inj h
    rw [← hQz, ← hy]
    exact xr_i (v := (-1 : Int32)) hx hb hr rfl hlk hK hw dX7_raceToWatch_10

