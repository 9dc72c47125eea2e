def f_X8_circles (o_me : Ob) (o_me_isles : Ob) (o_me_study : Ob) : Option (Int32) :=
  (f_X7_circleCount o_me_study o_me_isles).bind fun z1 =>
  some z1
set_option maxHeartbeats 4000000 in
set_option maxRecDepth 100000 in
theorem m_X8_circles (l : Launch) (dC : Nat → ClassId) (dI : Nat → Nat → Nat) (sz : Nat) (h_me : Nat) (h_me_reader : Nat) (h_me_machine : Nat) (h_me_isles : Nat) (h_me_court : Nat) (h_me_study : Nat) (h_me_paper : Nat) (h_me_paperCourt : Nat) (h_me_past : Nat) (h_me_pastAhead : Nat) (h_me_movingAhead : Nat) (h_me_isles_now : Nat) (q_me : Nat → Nat) (k_me : Nat → ClassId) (q_me_isles : Nat → Nat) (k_me_isles : Nat → ClassId) (q_me_study : Nat → Nat) (k_me_study : Nat → ClassId) (o_me : Ob) (o_me_isles : Ob) (o_me_study : Ob) (y : Int32) (h : f_X8_circles o_me o_me_isles o_me_study = some y) : CI l yX8_circles cX8_circles 1 (some .int) ({ frames := 2, cells := 0, slots := 0, locals := 47 } : Room) dC dI sz [.ref h_me] [wX8 h_me h_me_reader h_me_machine h_me_isles h_me_court h_me_study h_me_paper h_me_paperCourt h_me_past h_me_pastAhead h_me_movingAhead q_me k_me o_me, wX2 h_me_isles h_me_isles_now q_me_isles k_me_isles o_me_isles, wX7 h_me_study h_me_court h_me_isles q_me_study k_me_study o_me_study] [tX8 k_me, tX2 k_me_isles, tX7 k_me_study] y [wX8 h_me h_me_reader h_me_machine h_me_isles h_me_court h_me_study h_me_paper h_me_paperCourt h_me_past h_me_pastAhead h_me_movingAhead q_me k_me o_me, wX2 h_me_isles h_me_isles_now q_me_isles k_me_isles o_me_isles, wX7 h_me_study h_me_court h_me_isles q_me_study k_me_study o_me_study] := by
  refine CC_of (by decide) (Nat.le_of_ble_eq_true rfl) ?_
  intro p e s m below meth c A ls hx hb hml hr hlk hnm hown hts hX hK hP hD hA hl
  have hl : lv_has ls 1 [(0, .ref h_me)] := hl
  have hown : s.vm.findClass RX8 = some m.cls := hown
  have hw : Wd dC dI A s.heap [wX8 h_me h_me_reader h_me_machine h_me_isles h_me_court h_me_study h_me_paper h_me_paperCourt h_me_past h_me_pastAhead h_me_movingAhead q_me k_me o_me, wX2 h_me_isles h_me_isles_now q_me_isles k_me_isles o_me_isles, wX7 h_me_study h_me_court h_me_isles q_me_study k_me_study o_me_study] s.heap [] := ⟨hP, hD, va_S.rf⟩
  generalize hQz : (MQ below (QI dC dI (fun r (_ : Unit) => r = y) (fun _ => Jn [wX8 h_me h_me_reader h_me_machine h_me_isles h_me_court h_me_study h_me_paper h_me_paperCourt h_me_past h_me_pastAhead h_me_movingAhead q_me k_me o_me, wX2 h_me_isles h_me_isles_now q_me_isles k_me_isles o_me_isles, wX7 h_me_study h_me_court h_me_isles q_me_study k_me_study o_me_study]) (fun _ => Jt [tX8 k_me, tX2 k_me_isles, tX7 k_me_study]) A) ([.ref h_me] : List Value).toArray s 0 0 A) = Qz
  clear hP hD hnm
  unfold f_X8_circles at h
  refine lv_aload_n hx hb dX8_circles_0 rfl (lv_at hl 0 rfl) ?_
  refine fgX8_4 hx hb hts hown hK hw 0 rfl kw446 dX8_circles_1 ?_
  obtain ⟨z1, ez1, h⟩ := z_bd h
  refine xj_i (xrV (As := []) (rest := []) ⟨hx, hb, hml, hown, hts⟩ (m_X7_circleCount l dC dI _ h_me_study h_me_court h_me_isles h_me_isles_now q_me_study k_me_study q_me_isles k_me_isles o_me_study o_me_isles z1 ez1) kw1033 kw1030 kw1031 kw1032 kw118 hd_X7_circleCount ⟨rfl, rfl⟩ rfl rfl ⟨rfl, rfl⟩ hX hK hw [2, 1] (by decide) rfl rfl rfl rfl rfl hl.1 rfl rfl dX8_circles_4) hw hA [2, 1] (by decide) rfl rfl (fun H locs hw => ?_)
  have hw : Wd dC dI A s.heap [wX8 h_me h_me_reader h_me_machine h_me_isles h_me_court h_me_study h_me_paper h_me_paperCourt h_me_past h_me_pastAhead h_me_movingAhead q_me k_me o_me, wX2 h_me_isles h_me_isles_now q_me_isles k_me_isles o_me_isles, wX7 h_me_study h_me_court h_me_isles q_me_study k_me_study o_me_study] H locs := hw
  have hy := Option.some.inj h
  rw [← hQz, ← hy]
  exact xr_i (v := z1) hx hb hr rfl hlk hK hw dX8_circles_7

def bk_X8_compare_16 (o_me : Ob) (o_me_isles : Ob) (o_me_isles_now : Ob) (o_pool : List CR)  (v1 : Int32) (v2 : Int32) (o_me_machine : Ob) (o_me_court : Ob) : Option (Int32 × Ob × Ob) :=
  (f_X8_isRace v2).bind fun z1 =>
  if z1 = (0 : Int32) then
  (some ((-1 : Int32), o_me_machine, o_me_court))
  else
  ((f_X2_lawAt o_me_isles v1).bind fun z2 =>
  (f_X1_lineUp_Q o_me_court o_me_isles o_me_isles_now o_me_machine o_pool z2 v2).bind fun z3 =>
  (f_X1_at z3.2.1 (1 : Int32)).bind fun z4 =>
  some (z4, z3.2.2, z3.2.1))
def f_X8_compare (o_me : Ob) (o_me_machine : Ob) (o_me_isles : Ob) (o_me_isles_now : Ob) (o_me_court : Ob) (o_pool : List CR) (p0 : Int32) (p1 : Int32) : Option (Int32 × Ob × Ob) :=
  if p0 = (-1 : Int32) then
  (bk_X8_compare_16 o_me o_me_isles o_me_isles_now o_pool  p0 p1 o_me_machine o_me_court)
  else
  ((f_X2_isLaw o_me_isles p0).bind fun z5 =>
  if z5 = (0 : Int32) then
  (some ((-1 : Int32), o_me_machine, o_me_court))
  else
  (bk_X8_compare_16 o_me o_me_isles o_me_isles_now o_pool  p0 p1 o_me_machine o_me_court))
set_option maxHeartbeats 4000000 in
set_option maxRecDepth 100000 in
theorem m_X8_compare (l : Launch) (dC : Nat → ClassId) (dI : Nat → Nat → Nat) (sz : Nat) (h_me : Nat) (h_me_reader : Nat) (h_me_machine : Nat) (h_me_isles : Nat) (h_me_court : Nat) (h_me_study : Nat) (h_me_paper : Nat) (h_me_paperCourt : Nat) (h_me_past : Nat) (h_me_pastAhead : Nat) (h_me_movingAhead : Nat) (h_me_isles_now : Nat) (q_me : Nat → Nat) (k_me : Nat → ClassId) (q_me_machine : Nat → Nat) (k_me_machine : Nat → ClassId) (q_me_isles : Nat → Nat) (k_me_isles : Nat → ClassId) (q_me_isles_now : Nat → Nat) (k_me_isles_now : Nat → ClassId) (q_me_court : Nat → Nat) (k_me_court : Nat → ClassId) (o_me : Ob) (o_me_machine : Ob) (o_me_isles : Ob) (o_me_isles_now : Ob) (o_me_court : Ob) (o_pool : List CR) (p0 : Int32) (p1 : Int32) (y : Int32 × Ob × Ob) (h : f_X8_compare o_me o_me_machine o_me_isles o_me_isles_now o_me_court o_pool p0 p1 = some y) : CI l yX8_compare cX8_compare 3 (some .int) ({ frames := 5, cells := 0, slots := 0, locals := 133 } : Room) dC dI sz [.ref h_me, .int p0, .int p1] [wX8 h_me h_me_reader h_me_machine h_me_isles h_me_court h_me_study h_me_paper h_me_paperCourt h_me_past h_me_pastAhead h_me_movingAhead q_me k_me o_me, wX3 h_me_machine q_me_machine k_me_machine o_me_machine, wX2 h_me_isles h_me_isles_now q_me_isles k_me_isles o_me_isles, wX4 h_me_isles_now q_me_isles_now k_me_isles_now o_me_isles_now, wX1 h_me_court h_me_isles h_me_machine q_me_court k_me_court o_me_court, wPL o_pool] [tX8 k_me, tX3 k_me_machine, tX2 k_me_isles, tX4 k_me_isles_now, tX1 k_me_court, tPL o_pool] y.1 [wX8 h_me h_me_reader h_me_machine h_me_isles h_me_court h_me_study h_me_paper h_me_paperCourt h_me_past h_me_pastAhead h_me_movingAhead q_me k_me o_me, wX3 h_me_machine q_me_machine k_me_machine y.2.1, wX2 h_me_isles h_me_isles_now q_me_isles k_me_isles o_me_isles, wX4 h_me_isles_now q_me_isles_now k_me_isles_now o_me_isles_now, wX1 h_me_court h_me_isles h_me_machine q_me_court k_me_court y.2.2, wPL o_pool] := by
  refine CC_of (by decide) (Nat.le_of_ble_eq_true rfl) ?_
  intro p e s m below meth c A ls hx hb hml hr hlk hnm hown hts hX hK hP hD hA hl
  have hl : lv_has ls 3 [(0, .ref h_me), (1, .int p0), (2, .int p1)] := hl
  have hown : s.vm.findClass RX8 = some m.cls := hown
  have hw : Wd dC dI A s.heap [wX8 h_me h_me_reader h_me_machine h_me_isles h_me_court h_me_study h_me_paper h_me_paperCourt h_me_past h_me_pastAhead h_me_movingAhead q_me k_me o_me, wX3 h_me_machine q_me_machine k_me_machine o_me_machine, wX2 h_me_isles h_me_isles_now q_me_isles k_me_isles o_me_isles, wX4 h_me_isles_now q_me_isles_now k_me_isles_now o_me_isles_now, wX1 h_me_court h_me_isles h_me_machine q_me_court k_me_court o_me_court, wPL o_pool] s.heap [] := ⟨hP, hD, va_S.rf⟩
  generalize hQz : (MQ below (QI dC dI (fun r (_ : Unit) => r = y.1) (fun _ => Jn [wX8 h_me h_me_reader h_me_machine h_me_isles h_me_court h_me_study h_me_paper h_me_paperCourt h_me_past h_me_pastAhead h_me_movingAhead q_me k_me o_me, wX3 h_me_machine q_me_machine k_me_machine y.2.1, wX2 h_me_isles h_me_isles_now q_me_isles k_me_isles o_me_isles, wX4 h_me_isles_now q_me_isles_now k_me_isles_now o_me_isles_now, wX1 h_me_court h_me_isles h_me_machine q_me_court k_me_court y.2.2, wPL o_pool]) (fun _ => Jt [tX8 k_me, tX3 k_me_machine, tX2 k_me_isles, tX4 k_me_isles_now, tX1 k_me_court, tPL o_pool]) A) ([.ref h_me, .int p0, .int p1] : List Value).toArray s 0 0 A) = Qz
  clear hP hD hnm
  have bk_16_0 : ∀ (v1 : Int32) (v2 : Int32) (o_me_machine : Ob) (o_me_court : Ob) (H : Heap) (locs : List Loc) (ls : Array Slot), bk_X8_compare_16 o_me o_me_isles o_me_isles_now o_pool  v1 v2 o_me_machine o_me_court = some y → Wd dC dI A s.heap [wX8 h_me h_me_reader h_me_machine h_me_isles h_me_court h_me_study h_me_paper h_me_paperCourt h_me_past h_me_pastAhead h_me_movingAhead q_me k_me o_me, wX3 h_me_machine q_me_machine k_me_machine o_me_machine, wX2 h_me_isles h_me_isles_now q_me_isles k_me_isles o_me_isles, wX4 h_me_isles_now q_me_isles_now k_me_isles_now o_me_isles_now, wX1 h_me_court h_me_isles h_me_machine q_me_court k_me_court o_me_court, wPL o_pool] H locs → lv_has ls 3 [(0, .ref h_me), (1, .int v1), (2, .int v2)] → W p l e ({ frames := 5, cells := 0, slots := 0, locals := 133 } : Room) s m ([.ref h_me, .int p0, .int p1] : List Value).toArray below meth c H locs 0 0 Qz (F0 m 16 ls []) := by
    intro v1 v2 o_me_machine o_me_court H locs ls h hw hl
    unfold bk_X8_compare_16 at h
    refine lv_iload_n hx hb dX8_compare_16 rfl (lv_at hl 2 rfl) ?_
    obtain ⟨z1, ez1, h⟩ := z_bd h
    refine xj_i (xrS (As := [.int v2]) (rest := []) ⟨hx, hb, hml, hown, hts⟩ (m_X8_isRace l dC dI _  v2 z1 ez1) kw527 kw525 kw526 kw110 hd_X8_isRace ⟨rfl, rfl⟩ rfl rfl ⟨rfl, rfl⟩ hX hK hw [] (by decide) rfl rfl hl.1 rfl rfl dX8_compare_17) hw hA [] (by decide) rfl rfl (fun H locs hw => ?_)
    refine lv_if_ne (tgt := 25) hx hb dX8_compare_20 (by decide) (fun c => ?_) (fun c => ?_)
    · have h := z_f h c
      refine lv_aload_n hx hb dX8_compare_25 rfl (lv_at hl 0 rfl) ?_
      refine fgX8_3 hx hb hts hown hK hw 0 rfl kw445 dX8_compare_26 ?_
      refine lv_aload_n hx hb dX8_compare_29 rfl (lv_at hl 0 rfl) ?_
      refine fgX8_2 hx hb hts hown hK hw 0 rfl kw444 dX8_compare_30 ?_
      refine lv_iload_n hx hb dX8_compare_33 rfl (lv_at hl 1 rfl) ?_
      obtain ⟨z2, ez2, h⟩ := z_bd h
      refine xj_q (xrV (As := [.int v1]) (rest := [.ref h_me_court]) ⟨hx, hb, hml, hown, hts⟩ (m_X2_lawAt l dC dI _ h_me_isles h_me_isles_now q_me_isles k_me_isles o_me_isles v1 z2 ez2) kw535 kw1109 kw533 kw534 kw115 hd_X2_lawAt ⟨rfl, rfl⟩ rfl rfl ⟨rfl, rfl⟩ hX hK hw [2] (by decide) rfl rfl rfl rfl rfl hl.1 rfl rfl dX8_compare_34) hw hA [2] (by decide) rfl rfl (fun H locs hw => ?_)
      have hw : Wd dC dI A s.heap [wX8 h_me h_me_reader h_me_machine h_me_isles h_me_court h_me_study h_me_paper h_me_paperCourt h_me_past h_me_pastAhead h_me_movingAhead q_me k_me o_me, wX3 h_me_machine q_me_machine k_me_machine o_me_machine, wX2 h_me_isles h_me_isles_now q_me_isles k_me_isles o_me_isles, wX4 h_me_isles_now q_me_isles_now k_me_isles_now o_me_isles_now, wX1 h_me_court h_me_isles h_me_machine q_me_court k_me_court o_me_court, wPL o_pool] H locs := hw
      refine lv_iload_n hx hb dX8_compare_37 rfl (lv_at hl 2 rfl) ?_
      obtain ⟨z3, ez3, h⟩ := z_bd h
      refine xj_i (xrV (As := [va_rf z2, .int v2]) (rest := []) ⟨hx, hb, hml, hown, hts⟩ (m_X1_lineUp_Q l dC dI _ h_me_court h_me_isles h_me_machine h_me_isles_now q_me_court k_me_court q_me_isles k_me_isles q_me_isles_now k_me_isles_now q_me_machine k_me_machine o_me_court o_me_isles o_me_isles_now o_me_machine o_pool z2 v2 z3 ez3) kw605 kw602 kw603 kw604 kw117 hd_X1_lineUp ⟨rfl, rfl⟩ rfl rfl ⟨rfl, rfl⟩ hX hK hw [4, 2, 3, 1, 5] (by decide) rfl rfl rfl rfl rfl hl.1 rfl rfl dX8_compare_38) hw hA [4, 2, 3, 1, 5] (by decide) rfl rfl (fun H locs hw => ?_)
      have hw : Wd dC dI A s.heap [wX8 h_me h_me_reader h_me_machine h_me_isles h_me_court h_me_study h_me_paper h_me_paperCourt h_me_past h_me_pastAhead h_me_movingAhead q_me k_me o_me, wX3 h_me_machine q_me_machine k_me_machine z3.2.2, wX2 h_me_isles h_me_isles_now q_me_isles k_me_isles o_me_isles, wX4 h_me_isles_now q_me_isles_now k_me_isles_now o_me_isles_now, wX1 h_me_court h_me_isles h_me_machine q_me_court k_me_court z3.2.1, wPL o_pool] H locs := hw
      refine lv_pop hx hb dX8_compare_41 rfl ?_
      refine lv_aload_n hx hb dX8_compare_42 rfl (lv_at hl 0 rfl) ?_
      refine fgX8_3 hx hb hts hown hK hw 0 rfl kw445 dX8_compare_43 ?_
      refine lv_iconst (v := 1) hx hb dX8_compare_46 (by decide) ?_
      obtain ⟨z4, ez4, h⟩ := z_bd h
      refine xj_i (xrV (As := [.int (1 : Int32)]) (rest := []) ⟨hx, hb, hml, hown, hts⟩ (m_X1_at l dC dI _ h_me_court h_me_isles h_me_machine q_me_court k_me_court z3.2.1 (1 : Int32) z4 ez4) kw615 kw612 kw613 kw614 kw117 hd_X1_at ⟨rfl, rfl⟩ rfl rfl ⟨rfl, rfl⟩ hX hK hw [4] (by decide) rfl rfl rfl rfl rfl hl.1 rfl rfl dX8_compare_47) hw hA [4] (by decide) rfl rfl (fun H locs hw => ?_)
      have hw : Wd dC dI A s.heap [wX8 h_me h_me_reader h_me_machine h_me_isles h_me_court h_me_study h_me_paper h_me_paperCourt h_me_past h_me_pastAhead h_me_movingAhead q_me k_me o_me, wX3 h_me_machine q_me_machine k_me_machine z3.2.2, wX2 h_me_isles h_me_isles_now q_me_isles k_me_isles o_me_isles, wX4 h_me_isles_now q_me_isles_now k_me_isles_now o_me_isles_now, wX1 h_me_court h_me_isles h_me_machine q_me_court k_me_court z3.2.1, wPL o_pool] H locs := hw
      have hy := Option.some.inj h
      rw [← hQz, ← hy]
      exact xr_i (v := z4) hx hb hr rfl hlk hK hw dX8_compare_50
    · have h := z_t h c
      refine lv_iconst (v := (-1)) hx hb dX8_compare_23 (by decide) ?_
      have hy := Option.some.inj h
      rw [← hQz, ← hy]
      exact xr_i (v := (-1 : Int32)) hx hb hr rfl hlk hK hw dX8_compare_24
  unfold f_X8_compare at h
  refine lv_iload_n hx hb dX8_compare_0 rfl (lv_at hl 1 rfl) ?_
  refine lv_iconst (v := (-1)) hx hb dX8_compare_1 (by decide) ?_
  refine lv_icmp_eq (tgt := 16) hx hb dX8_compare_2 (by decide) (fun c => ?_) (fun c => ?_)
  · have h := z_t h c
    exact bk_16_0  p0 p1 o_me_machine o_me_court _ _ _ h hw (lv_sub hl [0, 1, 2] rfl)
  · have h := z_f h c
    refine lv_aload_n hx hb dX8_compare_5 rfl (lv_at hl 0 rfl) ?_
    refine fgX8_2 hx hb hts hown hK hw 0 rfl kw444 dX8_compare_6 ?_
    refine lv_iload_n hx hb dX8_compare_9 rfl (lv_at hl 1 rfl) ?_
    obtain ⟨z5, ez5, h⟩ := z_bd h
    refine xj_i (xrV (As := [.int p0]) (rest := []) ⟨hx, hb, hml, hown, hts⟩ (m_X2_isLaw l dC dI _ h_me_isles h_me_isles_now q_me_isles k_me_isles o_me_isles p0 z5 ez5) kw539 kw910 kw537 kw538 kw115 hd_X2_isLaw ⟨rfl, rfl⟩ rfl rfl ⟨rfl, rfl⟩ hX hK hw [2] (by decide) rfl rfl rfl rfl rfl hl.1 rfl rfl dX8_compare_10) hw hA [2] (by decide) rfl rfl (fun H locs hw => ?_)
    have hw : Wd dC dI A s.heap [wX8 h_me h_me_reader h_me_machine h_me_isles h_me_court h_me_study h_me_paper h_me_paperCourt h_me_past h_me_pastAhead h_me_movingAhead q_me k_me o_me, wX3 h_me_machine q_me_machine k_me_machine o_me_machine, wX2 h_me_isles h_me_isles_now q_me_isles k_me_isles o_me_isles, wX4 h_me_isles_now q_me_isles_now k_me_isles_now o_me_isles_now, wX1 h_me_court h_me_isles h_me_machine q_me_court k_me_court o_me_court, wPL o_pool] H locs := hw
    refine lv_if_eq (tgt := 23) hx hb dX8_compare_13 (by decide) (fun c => ?_) (fun c => ?_)
    · have h := z_t h c
      refine lv_iconst (v := (-1)) hx hb dX8_compare_23 (by decide) ?_
      have hy := Option.some.inj h
      rw [← hQz, ← hy]
      exact xr_i (v := (-1 : Int32)) hx hb hr rfl hlk hK hw dX8_compare_24
    · have h := z_f h c
      exact bk_16_0  p0 p1 o_me_machine o_me_court _ _ _ h hw (lv_sub hl [0, 1, 2] rfl)

def lb_X2_allPrizes_4 (o_me : Ob) (o_me_now : Ob)  (rec_4_0 : Int32 × Int32 → Option (Int32)) (v1 : Int32) (v2 : Int32) : Option (Int32) :=
  if (gI o_me 7) ≤ v2 then
  (some v1)
  else
  (zgd (zin v2 7) <|
  zlt (v1 + (gA o_me_now 1 v2.toNatClampNeg)) fun x2 =>
  zlt (v2 + (1 : Int32)) fun x3 =>
  rec_4_0 (x2, x3))
def lp_X2_allPrizes_4 (o_me : Ob) (o_me_now : Ob)  : Nat → (Int32 × Int32) → Option (Int32) := zit (fun rec a => lb_X2_allPrizes_4 o_me o_me_now  rec a.1 a.2)
def f_X2_allPrizes (o_me : Ob) (o_me_now : Ob) : Option (Int32) :=
  lp_X2_allPrizes_4 o_me o_me_now  zfu ((0 : Int32), (0 : Int32))
set_option maxHeartbeats 4000000 in
set_option maxRecDepth 100000 in
theorem m_X2_allPrizes (l : Launch) (dC : Nat → ClassId) (dI : Nat → Nat → Nat) (sz : Nat) (h_me : Nat) (h_me_now : Nat) (q_me : Nat → Nat) (k_me : Nat → ClassId) (q_me_now : Nat → Nat) (k_me_now : Nat → ClassId) (o_me : Ob) (o_me_now : Ob) (y : Int32) (h : f_X2_allPrizes o_me o_me_now = some y) : CI l yX2_allPrizes cX2_allPrizes 3 (some .int) ({ frames := 0, cells := 0, slots := 0, locals := 0 } : Room) dC dI sz [.ref h_me] [wX2 h_me h_me_now q_me k_me o_me, wX4 h_me_now q_me_now k_me_now o_me_now] [tX2 k_me, tX4 k_me_now] y [wX2 h_me h_me_now q_me k_me o_me, wX4 h_me_now q_me_now k_me_now o_me_now] := by
  refine CC_of (by decide) (Nat.le_of_ble_eq_true rfl) ?_
  intro p e s m below meth c A ls hx hb hml hr hlk hnm hown hts hX hK hP hD hA hl
  have hl : lv_has ls 3 [(0, .ref h_me)] := hl
  have hown : s.vm.findClass RX2 = some m.cls := hown
  have hw : Wd dC dI A s.heap [wX2 h_me h_me_now q_me k_me o_me, wX4 h_me_now q_me_now k_me_now o_me_now] s.heap [] := ⟨hP, hD, va_S.rf⟩
  generalize hQz : (MQ below (QI dC dI (fun r (_ : Unit) => r = y) (fun _ => Jn [wX2 h_me h_me_now q_me k_me o_me, wX4 h_me_now q_me_now k_me_now o_me_now]) (fun _ => Jt [tX2 k_me, tX4 k_me_now]) A) ([.ref h_me] : List Value).toArray s 0 0 A) = Qz
  clear hP hD hnm
  have lp_4_0 : ∀ (N : Nat), ∀ (v1 : Int32) (v2 : Int32) (H : Heap) (locs : List Loc) (ls : Array Slot), lp_X2_allPrizes_4 o_me o_me_now  N (v1, v2) = some y → Wd dC dI A s.heap [wX2 h_me h_me_now q_me k_me o_me, wX4 h_me_now q_me_now k_me_now o_me_now] H locs → lv_has ls 3 [(0, .ref h_me), (1, .int v1), (2, .int v2)] → W p l e ({ frames := 0, cells := 0, slots := 0, locals := 0 } : Room) s m ([.ref h_me] : List Value).toArray below meth c H locs 0 0 Qz (F0 m 4 ls []) := by
    intro N
    induction N with
    | zero =>
      intro v1 v2 H locs ls h hw hl
      exact absurd (show (none : Option (Int32)) = some y from h) (by simp)
    | succ N ih =>
      intro v1 v2 H locs ls h hw hl
      have h : lb_X2_allPrizes_4 o_me o_me_now  (lp_X2_allPrizes_4 o_me o_me_now  N) v1 v2 = some y := h
      unfold lb_X2_allPrizes_4 at h
      refine lv_iload_n hx hb dX2_allPrizes_4 rfl (lv_at hl 2 rfl) ?_
      refine lv_aload_n hx hb dX2_allPrizes_5 rfl (lv_at hl 0 rfl) ?_
      refine fgX2_7 hx hb hts hown hK hw 0 rfl kw315 dX2_allPrizes_6 ?_
      refine lv_icmp_ge (tgt := 30) hx hb dX2_allPrizes_9 (by decide) (fun c => ?_) (fun c => ?_)
      · have h := z_t h c
        refine lv_iload_n hx hb dX2_allPrizes_30 rfl (lv_at hl 1 rfl) ?_
        have hy := Option.some.inj h
        rw [← hQz, ← hy]
        exact xr_i (v := v1) hx hb hr rfl hlk hK hw dX2_allPrizes_31
      · have h := z_f h c
        refine lv_iload_n hx hb dX2_allPrizes_12 rfl (lv_at hl 1 rfl) ?_
        refine lv_aload_n hx hb dX2_allPrizes_13 rfl (lv_at hl 0 rfl) ?_
        refine fgX2_0 hx hb hts hown hK hw 0 rfl kw295 dX2_allPrizes_14 ?_
        refine fgX4_1 hx hb hts hown hK hw 1 rfl kw267 dX2_allPrizes_17 ?_
        refine lv_iload_n hx hb dX2_allPrizes_20 rfl (lv_at hl 2 rfl) ?_
        obtain ⟨g1, h⟩ := z_gd h
        refine faX4_1 hx hb hK hw 1 rfl rfl g1 dX2_allPrizes_21 ?_
        refine lv_iadd hx hb dX2_allPrizes_22 ?_
        obtain ⟨x2, ex2, h⟩ := z_lt h
        refine lv_fi (v := x2) ex2.symm ?_
        refine lv_istore_n (lv' := [(1, .int x2), (0, .ref h_me), (2, .int v2)]) hx hb dX2_allPrizes_23 rfl hl (by decide) rfl (fun ls hl => ?_)
        obtain ⟨x3, ex3, h⟩ := z_lt h
        refine lv_iinc (v := x3) (lv' := [(2, .int x3), (1, .int x2), (0, .ref h_me)]) hx hb dX2_allPrizes_24 hl (k := 2) rfl ((congrArg (v2 + ·) (show Int32.ofInt 1 = (1 : Int32) from by decide)).trans ex3.symm) (by decide) rfl (fun ls hl => ?_)
        refine lv_goto (tgt := 4) hx hb dX2_allPrizes_27 (by decide) ?_
        exact ih x2 x3 _ _ _ h hw (lv_sub hl [2, 1, 0] rfl)
  unfold f_X2_allPrizes at h
  refine lv_iconst (v := 0) hx hb dX2_allPrizes_0 (by decide) ?_
  refine lv_istore_n (lv' := [(1, .int (0 : Int32)), (0, .ref h_me)]) hx hb dX2_allPrizes_1 rfl hl (by decide) rfl (fun ls hl => ?_)
  refine lv_iconst (v := 0) hx hb dX2_allPrizes_2 (by decide) ?_
  refine lv_istore_n (lv' := [(2, .int (0 : Int32)), (1, .int (0 : Int32)), (0, .ref h_me)]) hx hb dX2_allPrizes_3 rfl hl (by decide) rfl (fun ls hl => ?_)
  exact lp_4_0  zfu (0 : Int32) (0 : Int32) _ _ _ h hw (lv_sub hl [2, 1, 0] rfl)

def f_X2_term (o_me : Ob) (o_me_now : Ob) (p0 : Int32) : Option (Int32) :=
  if p0 = (0 : Int32) then
  (some (gI o_me_now 4))
  else
  (if p0 = (1 : Int32) then
  (some (gI o_me 11))
  else
  (some (gI o_me 12)))
set_option maxHeartbeats 4000000 in
set_option maxRecDepth 100000 in
theorem m_X2_term (l : Launch) (dC : Nat → ClassId) (dI : Nat → Nat → Nat) (sz : Nat) (h_me : Nat) (h_me_now : Nat) (q_me : Nat → Nat) (k_me : Nat → ClassId) (q_me_now : Nat → Nat) (k_me_now : Nat → ClassId) (o_me : Ob) (o_me_now : Ob) (p0 : Int32) (y : Int32) (h : f_X2_term o_me o_me_now p0 = some y) : CI l yX2_term cX2_term 2 (some .int) ({ frames := 0, cells := 0, slots := 0, locals := 0 } : Room) dC dI sz [.ref h_me, .int p0] [wX2 h_me h_me_now q_me k_me o_me, wX4 h_me_now q_me_now k_me_now o_me_now] [tX2 k_me, tX4 k_me_now] y [wX2 h_me h_me_now q_me k_me o_me, wX4 h_me_now q_me_now k_me_now o_me_now] := by
  refine CC_of (by decide) (Nat.le_of_ble_eq_true rfl) ?_
  intro p e s m below meth c A ls hx hb hml hr hlk hnm hown hts hX hK hP hD hA hl
  have hl : lv_has ls 2 [(0, .ref h_me), (1, .int p0)] := hl
  have hown : s.vm.findClass RX2 = some m.cls := hown
  have hw : Wd dC dI A s.heap [wX2 h_me h_me_now q_me k_me o_me, wX4 h_me_now q_me_now k_me_now o_me_now] s.heap [] := ⟨hP, hD, va_S.rf⟩
  generalize hQz : (MQ below (QI dC dI (fun r (_ : Unit) => r = y) (fun _ => Jn [wX2 h_me h_me_now q_me k_me o_me, wX4 h_me_now q_me_now k_me_now o_me_now]) (fun _ => Jt [tX2 k_me, tX4 k_me_now]) A) ([.ref h_me, .int p0] : List Value).toArray s 0 0 A) = Qz
  clear hP hD hnm
  unfold f_X2_term at h
  refine lv_iload_n hx hb dX2_term_0 rfl (lv_at hl 1 rfl) ?_
  refine lv_if_ne (tgt := 14) hx hb dX2_term_1 (by decide) (fun c => ?_) (fun c => ?_)
  · have h := z_f h c
    refine lv_iload_n hx hb dX2_term_14 rfl (lv_at hl 1 rfl) ?_
    refine lv_iconst (v := 1) hx hb dX2_term_15 (by decide) ?_
    refine lv_icmp_ne (tgt := 26) hx hb dX2_term_16 (by decide) (fun c => ?_) (fun c => ?_)
    · have h := z_f h c
      refine lv_aload_n hx hb dX2_term_26 rfl (lv_at hl 0 rfl) ?_
      refine fgX2_12 hx hb hts hown hK hw 0 rfl kw328 dX2_term_27 ?_
      have hy := Option.some.inj h
      rw [← hQz, ← hy]
      exact xr_i (v := gI o_me 12) hx hb hr rfl hlk hK hw dX2_term_30
    · have h := z_t h c
      refine lv_aload_n hx hb dX2_term_19 rfl (lv_at hl 0 rfl) ?_
      refine fgX2_11 hx hb hts hown hK hw 0 rfl kw326 dX2_term_20 ?_
      refine lv_goto (tgt := 30) hx hb dX2_term_23 (by decide) ?_
      have hy := Option.some.inj h
      rw [← hQz, ← hy]
      exact xr_i (v := gI o_me 11) hx hb hr rfl hlk hK hw dX2_term_30
  · have h := z_t h c
    refine lv_aload_n hx hb dX2_term_4 rfl (lv_at hl 0 rfl) ?_
    refine fgX2_0 hx hb hts hown hK hw 0 rfl kw295 dX2_term_5 ?_
    refine fgX4_4 hx hb hts hown hK hw 1 rfl kw279 dX2_term_8 ?_
    refine lv_goto (tgt := 30) hx hb dX2_term_11 (by decide) ?_
    have hy := Option.some.inj h
    rw [← hQz, ← hy]
    exact xr_i (v := gI o_me_now 4) hx hb hr rfl hlk hK hw dX2_term_30

def f_X8_count (o_me : Ob) (o_me_reader : Ob) (o_me_isles : Ob) (o_me_isles_now : Ob) (o_me_past : Ob) (p0 : Int32) : Option (Int32) :=
  if p0 = (0 : Int32) then
  (some (gI o_me_isles 7))
  else
  (if p0 = (1 : Int32) then
  ((f_J6_bitCount_0f7a4 (gI o_me_isles_now 2)).bind fun z2 =>
  some z2)
  else
  (if p0 = (2 : Int32) then
  (some (gI o_me_isles_now 3))
  else
  (if p0 = (3 : Int32) then
  ((f_X2_allPrizes o_me_isles o_me_isles_now).bind fun z3 =>
  some z3)
  else
  (if p0 = (4 : Int32) then
  (some (gI o_me_isles 8))
  else
  (if p0 = (5 : Int32) then
  (some (gI o_me_isles 9))
  else
  (if p0 = (6 : Int32) then
  (some (gI o_me_past 3))
  else
  (if p0 = (7 : Int32) then
  (some (gI o_me_reader 2))
  else
  (if p0 = (8 : Int32) then
  (some (gA o_me 11 (1 : Int32).toNatClampNeg))
  else
  (if p0 = (9 : Int32) then
  (some (gA o_me 11 (2 : Int32).toNatClampNeg))
  else
  (if p0 = (10 : Int32) then
  (some (gA o_me 11 (3 : Int32).toNatClampNeg))
  else
  (if p0 = (11 : Int32) then
  (some (gA o_me 11 (5 : Int32).toNatClampNeg))
  else
  (if p0 = (12 : Int32) then
  (some (gA o_me 11 (6 : Int32).toNatClampNeg))
  else
  (if p0 = (13 : Int32) then
  (some (gI o_me_isles 10))
  else
  (if p0 = (14 : Int32) then
  ((f_X2_term o_me_isles o_me_isles_now (0 : Int32)).bind fun z4 =>
  some z4)
  else
  (if p0 = (15 : Int32) then
  ((f_X2_term o_me_isles o_me_isles_now (1 : Int32)).bind fun z5 =>
  some z5)
  else
  (if p0 = (16 : Int32) then
  ((f_X2_term o_me_isles o_me_isles_now (2 : Int32)).bind fun z6 =>
  some z6)
  else
  (some (-1 : Int32))))))))))))))))))
set_option maxHeartbeats 4000000 in
set_option maxRecDepth 100000 in
theorem m_X8_count (l : Launch) (dC : Nat → ClassId) (dI : Nat → Nat → Nat) (sz : Nat) (h_me : Nat) (h_me_reader : Nat) (h_me_machine : Nat) (h_me_isles : Nat) (h_me_court : Nat) (h_me_study : Nat) (h_me_paper : Nat) (h_me_paperCourt : Nat) (h_me_past : Nat) (h_me_pastAhead : Nat) (h_me_movingAhead : Nat) (h_me_reader_code : Nat) (h_me_isles_now : Nat) (q_me : Nat → Nat) (k_me : Nat → ClassId) (q_me_reader : Nat → Nat) (k_me_reader : Nat → ClassId) (q_me_isles : Nat → Nat) (k_me_isles : Nat → ClassId) (q_me_isles_now : Nat → Nat) (k_me_isles_now : Nat → ClassId) (q_me_past : Nat → Nat) (k_me_past : Nat → ClassId) (o_me : Ob) (o_me_reader : Ob) (o_me_isles : Ob) (o_me_isles_now : Ob) (o_me_past : Ob) (p0 : Int32) (y : Int32) (h : f_X8_count o_me o_me_reader o_me_isles o_me_isles_now o_me_past p0 = some y) : CI l yX8_count cX8_count 2 (some .int) ({ frames := 1, cells := 0, slots := 0, locals := 22 } : Room) dC dI sz [.ref h_me, .int p0] [wX8 h_me h_me_reader h_me_machine h_me_isles h_me_court h_me_study h_me_paper h_me_paperCourt h_me_past h_me_pastAhead h_me_movingAhead q_me k_me o_me, wX6 h_me_reader h_me_reader_code q_me_reader k_me_reader o_me_reader, wX2 h_me_isles h_me_isles_now q_me_isles k_me_isles o_me_isles, wX4 h_me_isles_now q_me_isles_now k_me_isles_now o_me_isles_now, wX5 h_me_past q_me_past k_me_past o_me_past] [tX8 k_me, tX6 k_me_reader, tX2 k_me_isles, tX4 k_me_isles_now, tX5 k_me_past] y [wX8 h_me h_me_reader h_me_machine h_me_isles h_me_court h_me_study h_me_paper h_me_paperCourt h_me_past h_me_pastAhead h_me_movingAhead q_me k_me o_me, wX6 h_me_reader h_me_reader_code q_me_reader k_me_reader o_me_reader, wX2 h_me_isles h_me_isles_now q_me_isles k_me_isles o_me_isles, wX4 h_me_isles_now q_me_isles_now k_me_isles_now o_me_isles_now, wX5 h_me_past q_me_past k_me_past o_me_past] := by
  refine CC_of (by decide) (Nat.le_of_ble_eq_true rfl) ?_
  intro p e s m below meth c A ls hx hb hml hr hlk hnm hown hts hX hK hP hD hA hl
  have hl : lv_has ls 2 [(0, .ref h_me), (1, .int p0)] := hl
  have hown : s.vm.findClass RX8 = some m.cls := hown
  have hw : Wd dC dI A s.heap [wX8 h_me h_me_reader h_me_machine h_me_isles h_me_court h_me_study h_me_paper h_me_paperCourt h_me_past h_me_pastAhead h_me_movingAhead q_me k_me o_me, wX6 h_me_reader h_me_reader_code q_me_reader k_me_reader o_me_reader, wX2 h_me_isles h_me_isles_now q_me_isles k_me_isles o_me_isles, wX4 h_me_isles_now q_me_isles_now k_me_isles_now o_me_isles_now, wX5 h_me_past q_me_past k_me_past o_me_past] s.heap [] := ⟨hP, hD, va_S.rf⟩
  generalize hQz : (MQ below (QI dC dI (fun r (_ : Unit) => r = y) (fun _ => Jn [wX8 h_me h_me_reader h_me_machine h_me_isles h_me_court h_me_study h_me_paper h_me_paperCourt h_me_past h_me_pastAhead h_me_movingAhead q_me k_me o_me, wX6 h_me_reader h_me_reader_code q_me_reader k_me_reader o_me_reader, wX2 h_me_isles h_me_isles_now q_me_isles k_me_isles o_me_isles, wX4 h_me_isles_now q_me_isles_now k_me_isles_now o_me_isles_now, wX5 h_me_past q_me_past k_me_past o_me_past]) (fun _ => Jt [tX8 k_me, tX6 k_me_reader, tX2 k_me_isles, tX4 k_me_isles_now, tX5 k_me_past]) A) ([.ref h_me, .int p0] : List Value).toArray s 0 0 A) = Qz
  clear hP hD hnm
  unfold f_X8_count at h
  refine lv_iload_n hx hb dX8_count_0 rfl (lv_at hl 1 rfl) ?_
  rcases (show p0.toInt = 0 ∨ p0.toInt = 1 ∨ p0.toInt = 2 ∨ p0.toInt = 3 ∨ p0.toInt = 4 ∨ p0.toInt = 5 ∨ p0.toInt = 6 ∨ p0.toInt = 7 ∨ p0.toInt = 8 ∨ p0.toInt = 9 ∨ p0.toInt = 10 ∨ p0.toInt = 11 ∨ p0.toInt = 12 ∨ p0.toInt = 13 ∨ p0.toInt = 14 ∨ p0.toInt = 15 ∨ p0.toInt = 16 ∨ (p0.toInt < 0 ∨ 16 < p0.toInt) by omega) with c1 | c1 | c1 | c1 | c1 | c1 | c1 | c1 | c1 | c1 | c1 | c1 | c1 | c1 | c1 | c1 | c1 | c1
  · skip
    have ec1 : p0 = (0 : Int32) := Int32.toInt_inj.mp (c1.trans (by decide))
    have h := z_t h ec1
    refine lv_fi (v := 0) ec1 ?_
    refine lv_tableIn (tgt := 84) hx hb dX8_count_1 (by decide) (by decide) rfl (by decide) ?_
    refine lv_aload_n hx hb dX8_count_84 rfl (lv_at hl 0 rfl) ?_
    refine fgX8_2 hx hb hts hown hK hw 0 rfl kw444 dX8_count_85 ?_
    refine fgX2_7 hx hb hts hown hK hw 2 rfl kw317 dX8_count_88 ?_
    have hy := Option.some.inj h
    rw [← hQz, ← hy]
    exact xr_i (v := gI o_me_isles 7) hx hb hr rfl hlk hK hw dX8_count_91
  · skip
    have h := z_f h (fun e9 => by rw [e9] at c1; revert c1; decide)
    have ec1 : p0 = (1 : Int32) := Int32.toInt_inj.mp (c1.trans (by decide))
    have h := z_t h ec1
    refine lv_fi (v := 1) ec1 ?_
    refine lv_tableIn (tgt := 92) hx hb dX8_count_1 (by decide) (by decide) rfl (by decide) ?_
    refine lv_aload_n hx hb dX8_count_92 rfl (lv_at hl 0 rfl) ?_
    refine fgX8_2 hx hb hts hown hK hw 0 rfl kw444 dX8_count_93 ?_
    refine fgX2_0 hx hb hts hown hK hw 2 rfl kw297 dX8_count_96 ?_
    refine fgX4_2 hx hb hts hown hK hw 3 rfl kw272 dX8_count_99 ?_
    obtain ⟨z2, ez2, h⟩ := z_bd h
    refine xj_i (xrS (As := [.int (gI o_me_isles_now 2)]) (rest := []) ⟨hx, hb, hml, hown, hts⟩ (m_J6_bitCount_0f7a4 l dC dI _  (gI o_me_isles_now 2) z2 ez2) kw842 kw966 kw841 kw126 hd_J6_bitCount_0f7a4 ⟨rfl, rfl⟩ rfl rfl ⟨rfl, rfl⟩ hX hK hw [] (by decide) rfl rfl hl.1 rfl rfl dX8_count_102) hw hA [] (by decide) rfl rfl (fun H locs hw => ?_)
    have hy := Option.some.inj h
    rw [← hQz, ← hy]
    exact xr_i (v := z2) hx hb hr rfl hlk hK hw dX8_count_105
  · skip
    have h := z_f h (fun e9 => by rw [e9] at c1; revert c1; decide)
    have h := z_f h (fun e9 => by rw [e9] at c1; revert c1; decide)
    have ec1 : p0 = (2 : Int32) := Int32.toInt_inj.mp (c1.trans (by decide))
    have h := z_t h ec1
    refine lv_fi (v := 2) ec1 ?_
    refine lv_tableIn (tgt := 106) hx hb dX8_count_1 (by decide) (by decide) rfl (by decide) ?_
    refine lv_aload_n hx hb dX8_count_106 rfl (lv_at hl 0 rfl) ?_
    refine fgX8_2 hx hb hts hown hK hw 0 rfl kw444 dX8_count_107 ?_
    refine fgX2_0 hx hb hts hown hK hw 2 rfl kw297 dX8_count_110 ?_
    refine fgX4_3 hx hb hts hown hK hw 3 rfl kw276 dX8_count_113 ?_
    have hy := Option.some.inj h
    rw [← hQz, ← hy]
    exact xr_i (v := gI o_me_isles_now 3) hx hb hr rfl hlk hK hw dX8_count_116
  · skip
    have h := z_f h (fun e9 => by rw [e9] at c1; revert c1; decide)
    have h := z_f h (fun e9 => by rw [e9] at c1; revert c1; decide)
    have h := z_f h (fun e9 => by rw [e9] at c1; revert c1; decide)
    have ec1 : p0 = (3 : Int32) := Int32.toInt_inj.mp (c1.trans (by decide))
    have h := z_t h ec1
    refine lv_fi (v := 3) ec1 ?_
    refine lv_tableIn (tgt := 117) hx hb dX8_count_1 (by decide) (by decide) rfl (by decide) ?_
    refine lv_aload_n hx hb dX8_count_117 rfl (lv_at hl 0 rfl) ?_
    refine fgX8_2 hx hb hts hown hK hw 0 rfl kw444 dX8_count_118 ?_
    obtain ⟨z3, ez3, h⟩ := z_bd h
    refine xj_i (xrV (As := []) (rest := []) ⟨hx, hb, hml, hown, hts⟩ (m_X2_allPrizes l dC dI _ h_me_isles h_me_isles_now q_me_isles k_me_isles q_me_isles_now k_me_isles_now o_me_isles o_me_isles_now z3 ez3) kw1146 kw1143 kw1144 kw1145 kw115 hd_X2_allPrizes ⟨rfl, rfl⟩ rfl rfl ⟨rfl, rfl⟩ hX hK hw [2, 3] (by decide) rfl rfl rfl rfl rfl hl.1 rfl rfl dX8_count_121) hw hA [2, 3] (by decide) rfl rfl (fun H locs hw => ?_)
    have hw : Wd dC dI A s.heap [wX8 h_me h_me_reader h_me_machine h_me_isles h_me_court h_me_study h_me_paper h_me_paperCourt h_me_past h_me_pastAhead h_me_movingAhead q_me k_me o_me, wX6 h_me_reader h_me_reader_code q_me_reader k_me_reader o_me_reader, wX2 h_me_isles h_me_isles_now q_me_isles k_me_isles o_me_isles, wX4 h_me_isles_now q_me_isles_now k_me_isles_now o_me_isles_now, wX5 h_me_past q_me_past k_me_past o_me_past] H locs := hw
    have hy := Option.some.inj h
    rw [← hQz, ← hy]
    exact xr_i (v := z3) hx hb hr rfl hlk hK hw dX8_count_124
  · skip
    have h := z_f h (fun e9 => by rw [e9] at c1; revert c1; decide)
    have h := z_f h (fun e9 => by rw [e9] at c1; revert c1; decide)
    have h := z_f h (fun e9 => by rw [e9] at c1; revert c1; decide)
    have h := z_f h (fun e9 => by rw [e9] at c1; revert c1; decide)
    have ec1 : p0 = (4 : Int32) := Int32.toInt_inj.mp (c1.trans (by decide))
    have h := z_t h ec1
    refine lv_fi (v := 4) ec1 ?_
    refine lv_tableIn (tgt := 125) hx hb dX8_count_1 (by decide) (by decide) rfl (by decide) ?_
    refine lv_aload_n hx hb dX8_count_125 rfl (lv_at hl 0 rfl) ?_
    refine fgX8_2 hx hb hts hown hK hw 0 rfl kw444 dX8_count_126 ?_
    refine fgX2_8 hx hb hts hown hK hw 2 rfl kw321 dX8_count_129 ?_
    have hy := Option.some.inj h
    rw [← hQz, ← hy]
    exact xr_i (v := gI o_me_isles 8) hx hb hr rfl hlk hK hw dX8_count_132
  · skip
    have h := z_f h (fun e9 => by rw [e9] at c1; revert c1; decide)
    have h := z_f h (fun e9 => by rw [e9] at c1; revert c1; decide)
    have h := z_f h (fun e9 => by rw [e9] at c1; revert c1; decide)
    have h := z_f h (fun e9 => by rw [e9] at c1; revert c1; decide)
    have h := z_f h (fun e9 => by rw [e9] at c1; revert c1; decide)
    have ec1 : p0 = (5 : Int32) := Int32.toInt_inj.mp (c1.trans (by decide))
    have h := z_t h ec1
    refine lv_fi (v := 5) ec1 ?_
    refine lv_tableIn (tgt := 133) hx hb dX8_count_1 (by decide) (by decide) rfl (by decide) ?_
    refine lv_aload_n hx hb dX8_count_133 rfl (lv_at hl 0 rfl) ?_
    refine fgX8_2 hx hb hts hown hK hw 0 rfl kw444 dX8_count_134 ?_
    refine fgX2_9 hx hb hts hown hK hw 2 rfl kw323 dX8_count_137 ?_
    have hy := Option.some.inj h
    rw [← hQz, ← hy]
    exact xr_i (v := gI o_me_isles 9) hx hb hr rfl hlk hK hw dX8_count_140
  · skip
    have h := z_f h (fun e9 => by rw [e9] at c1; revert c1; decide)
    have h := z_f h (fun e9 => by rw [e9] at c1; revert c1; decide)
    have h := z_f h (fun e9 => by rw [e9] at c1; revert c1; decide)
    have h := z_f h (fun e9 => by rw [e9] at c1; revert c1; decide)
    have h := z_f h (fun e9 => by rw [e9] at c1; revert c1; decide)
    have h := z_f h (fun e9 => by rw [e9] at c1; revert c1; decide)
    have ec1 : p0 = (6 : Int32) := Int32.toInt_inj.mp (c1.trans (by decide))
    have h := z_t h ec1
    refine lv_fi (v := 6) ec1 ?_
    refine lv_tableIn (tgt := 141) hx hb dX8_count_1 (by decide) (by decide) rfl (by decide) ?_
    refine lv_aload_n hx hb dX8_count_141 rfl (lv_at hl 0 rfl) ?_
    refine fgX8_8 hx hb hts hown hK hw 0 rfl kw450 dX8_count_142 ?_
    refine fgX5_3 hx hb hts hown hK hw 4 rfl kw430 dX8_count_145 ?_
    have hy := Option.some.inj h
    rw [← hQz, ← hy]
    exact xr_i (v := gI o_me_past 3) hx hb hr rfl hlk hK hw dX8_count_148
  · skip
    have h := z_f h (fun e9 => by rw [e9] at c1; revert c1; decide)
    have h := z_f h (fun e9 => by rw [e9] at c1; revert c1; decide)
    have h := z_f h (fun e9 => by rw [e9] at c1; revert c1; decide)
    have h := z_f h (fun e9 => by rw [e9] at c1; revert c1; decide)
    have h := z_f h (fun e9 => by rw [e9] at c1; revert c1; decide)
    have h := z_f h (fun e9 => by rw [e9] at c1; revert c1; decide)
    have h := z_f h (fun e9 => by rw [e9] at c1; revert c1; decide)
    have ec1 : p0 = (7 : Int32) := Int32.toInt_inj.mp (c1.trans (by decide))
    have h := z_t h ec1
    refine lv_fi (v := 7) ec1 ?_
    refine lv_tableIn (tgt := 149) hx hb dX8_count_1 (by decide) (by decide) rfl (by decide) ?_
    refine lv_aload_n hx hb dX8_count_149 rfl (lv_at hl 0 rfl) ?_
    refine fgX8_0 hx hb hts hown hK hw 0 rfl kw442 dX8_count_150 ?_
    refine fgX6_2 hx hb hts hown hK hw 1 rfl kw205 dX8_count_153 ?_
    have hy := Option.some.inj h
    rw [← hQz, ← hy]
    exact xr_i (v := gI o_me_reader 2) hx hb hr rfl hlk hK hw dX8_count_156
  · skip
    have h := z_f h (fun e9 => by rw [e9] at c1; revert c1; decide)
    have h := z_f h (fun e9 => by rw [e9] at c1; revert c1; decide)
    have h := z_f h (fun e9 => by rw [e9] at c1; revert c1; decide)
    have h := z_f h (fun e9 => by rw [e9] at c1; revert c1; decide)
    have h := z_f h (fun e9 => by rw [e9] at c1; revert c1; decide)
    have h := z_f h (fun e9 => by rw [e9] at c1; revert c1; decide)
    have h := z_f h (fun e9 => by rw [e9] at c1; revert c1; decide)
    have h := z_f h (fun e9 => by rw [e9] at c1; revert c1; decide)
    have ec1 : p0 = (8 : Int32) := Int32.toInt_inj.mp (c1.trans (by decide))
    have h := z_t h ec1
    refine lv_fi (v := 8) ec1 ?_
    refine lv_tableIn (tgt := 157) hx hb dX8_count_1 (by decide) (by decide) rfl (by decide) ?_
    refine lv_aload_n hx hb dX8_count_157 rfl (lv_at hl 0 rfl) ?_
    refine fgX8_11 hx hb hts hown hK hw 0 rfl kw453 dX8_count_158 ?_
    refine lv_iconst (v := 1) hx hb dX8_count_161 (by decide) ?_
    refine faX8_11 hx hb hK hw 0 rfl rfl (by decide) dX8_count_162 ?_
    have hy := Option.some.inj h
    rw [← hQz, ← hy]
    exact xr_i (v := gA o_me 11 (1 : Int32).toNatClampNeg) hx hb hr rfl hlk hK hw dX8_count_163
  · skip
    have h := z_f h (fun e9 => by rw [e9] at c1; revert c1; decide)
    have h := z_f h (fun e9 => by rw [e9] at c1; revert c1; decide)
    have h := z_f h (fun e9 => by rw [e9] at c1; revert c1; decide)
    have h := z_f h (fun e9 => by rw [e9] at c1; revert c1; decide)
    have h := z_f h (fun e9 => by rw [e9] at c1; revert c1; decide)
    have h := z_f h (fun e9 => by rw [e9] at c1; revert c1; decide)
    have h := z_f h (fun e9 => by rw [e9] at c1; revert c1; decide)
    have h := z_f h (fun e9 => by rw [e9] at c1; revert c1; decide)
    have h := z_f h (fun e9 => by rw [e9] at c1; revert c1; decide)
    have ec1 : p0 = (9 : Int32) := Int32.toInt_inj.mp (c1.trans (by decide))
    have h := z_t h ec1
    refine lv_fi (v := 9) ec1 ?_
    refine lv_tableIn (tgt := 164) hx hb dX8_count_1 (by decide) (by decide) rfl (by decide) ?_
    refine lv_aload_n hx hb dX8_count_164 rfl (lv_at hl 0 rfl) ?_
    refine fgX8_11 hx hb hts hown hK hw 0 rfl kw453 dX8_count_165 ?_
    refine lv_iconst (v := 2) hx hb dX8_count_168 (by decide) ?_
    refine faX8_11 hx hb hK hw 0 rfl rfl (by decide) dX8_count_169 ?_
    have hy := Option.some.inj h
    rw [← hQz, ← hy]
    exact xr_i (v := gA o_me 11 (2 : Int32).toNatClampNeg) hx hb hr rfl hlk hK hw dX8_count_170
  · skip
    have h := z_f h (fun e9 => by rw [e9] at c1; revert c1; decide)
    have h := z_f h (fun e9 => by rw [e9] at c1; revert c1; decide)
    have h := z_f h (fun e9 => by rw [e9] at c1; revert c1; decide)
    have h := z_f h (fun e9 => by rw [e9] at c1; revert c1; decide)
    have h := z_f h (fun e9 => by rw [e9] at c1; revert c1; decide)
    have h := z_f h (fun e9 => by rw [e9] at c1; revert c1; decide)
    have h := z_f h (fun e9 => by rw [e9] at c1; revert c1; decide)
    have h := z_f h (fun e9 => by rw [e9] at c1; revert c1; decide)
    have h := z_f h (fun e9 => by rw [e9] at c1; revert c1; decide)
    have h := z_f h (fun e9 => by rw [e9] at c1; revert c1; decide)
    have ec1 : p0 = (10 : Int32) := Int32.toInt_inj.mp (c1.trans (by decide))
    have h := z_t h ec1
    refine lv_fi (v := 10) ec1 ?_
    refine lv_tableIn (tgt := 171) hx hb dX8_count_1 (by decide) (by decide) rfl (by decide) ?_
    refine lv_aload_n hx hb dX8_count_171 rfl (lv_at hl 0 rfl) ?_
    refine fgX8_11 hx hb hts hown hK hw 0 rfl kw453 dX8_count_172 ?_
    refine lv_iconst (v := 3) hx hb dX8_count_175 (by decide) ?_
    refine faX8_11 hx hb hK hw 0 rfl rfl (by decide) dX8_count_176 ?_
    have hy := Option.some.inj h
    rw [← hQz, ← hy]
    exact xr_i (v := gA o_me 11 (3 : Int32).toNatClampNeg) hx hb hr rfl hlk hK hw dX8_count_177
  · skip
    have h := z_f h (fun e9 => by rw [e9] at c1; revert c1; decide)
    have h := z_f h (fun e9 => by rw [e9] at c1; revert c1; decide)
    have h := z_f h (fun e9 => by rw [e9] at c1; revert c1; decide)
    have h := z_f h (fun e9 => by rw [e9] at c1; revert c1; decide)
    have h := z_f h (fun e9 => by rw [e9] at c1; revert c1; decide)
    have h := z_f h (fun e9 => by rw [e9] at c1; revert c1; decide)
    have h := z_f h (fun e9 => by rw [e9] at c1; revert c1; decide)
    have h := z_f h (fun e9 => by rw [e9] at c1; revert c1; decide)
    have h := z_f h (fun e9 => by rw [e9] at c1; revert c1; decide)
    have h := z_f h (fun e9 => by rw [e9] at c1; revert c1; decide)
    have h := z_f h (fun e9 => by rw [e9] at c1; revert c1; decide)
    have ec1 : p0 = (11 : Int32) := Int32.toInt_inj.mp (c1.trans (by decide))
    have h := z_t h ec1
    refine lv_fi (v := 11) ec1 ?_
    refine lv_tableIn (tgt := 178) hx hb dX8_count_1 (by decide) (by decide) rfl (by decide) ?_
    refine lv_aload_n hx hb dX8_count_178 rfl (lv_at hl 0 rfl) ?_
    refine fgX8_11 hx hb hts hown hK hw 0 rfl kw453 dX8_count_179 ?_
    refine lv_iconst (v := 5) hx hb dX8_count_182 (by decide) ?_
    refine faX8_11 hx hb hK hw 0 rfl rfl (by decide) dX8_count_183 ?_
    have hy := Option.some.inj h
    rw [← hQz, ← hy]
    exact xr_i (v := gA o_me 11 (5 : Int32).toNatClampNeg) hx hb hr rfl hlk hK hw dX8_count_184
  · skip
    have h := z_f h (fun e9 => by rw [e9] at c1; revert c1; decide)
    have h := z_f h (fun e9 => by rw [e9] at c1; revert c1; decide)
    have h := z_f h (fun e9 => by rw [e9] at c1; revert c1; decide)
    have h := z_f h (fun e9 => by rw [e9] at c1; revert c1; decide)
    have h := z_f h (fun e9 => by rw [e9] at c1; revert c1; decide)
    have h := z_f h (fun e9 => by rw [e9] at c1; revert c1; decide)
    have h := z_f h (fun e9 => by rw [e9] at c1; revert c1; decide)
    have h := z_f h (fun e9 => by rw [e9] at c1; revert c1; decide)
    have h := z_f h (fun e9 => by rw [e9] at c1; revert c1; decide)
    have h := z_f h (fun e9 => by rw [e9] at c1; revert c1; decide)
    have h := z_f h (fun e9 => by rw [e9] at c1; revert c1; decide)
    have h := z_f h (fun e9 => by rw [e9] at c1; revert c1; decide)
    have ec1 : p0 = (12 : Int32) := Int32.toInt_inj.mp (c1.trans (by decide))
    have h := z_t h ec1
    refine lv_fi (v := 12) ec1 ?_
    refine lv_tableIn (tgt := 185) hx hb dX8_count_1 (by decide) (by decide) rfl (by decide) ?_
    refine lv_aload_n hx hb dX8_count_185 rfl (lv_at hl 0 rfl) ?_
    refine fgX8_11 hx hb hts hown hK hw 0 rfl kw453 dX8_count_186 ?_
    refine lv_bipush (v := 6) hx hb dX8_count_189 (by decide) ?_
    refine faX8_11 hx hb hK hw 0 rfl rfl (by decide) dX8_count_191 ?_
    have hy := Option.some.inj h
    rw [← hQz, ← hy]
    exact xr_i (v := gA o_me 11 (6 : Int32).toNatClampNeg) hx hb hr rfl hlk hK hw dX8_count_192
  · skip
    have h := z_f h (fun e9 => by rw [e9] at c1; revert c1; decide)
    have h := z_f h (fun e9 => by rw [e9] at c1; revert c1; decide)
    have h := z_f h (fun e9 => by rw [e9] at c1; revert c1; decide)
    have h := z_f h (fun e9 => by rw [e9] at c1; revert c1; decide)
    have h := z_f h (fun e9 => by rw [e9] at c1; revert c1; decide)
    have h := z_f h (fun e9 => by rw [e9] at c1; revert c1; decide)
    have h := z_f h (fun e9 => by rw [e9] at c1; revert c1; decide)
    have h := z_f h (fun e9 => by rw [e9] at c1; revert c1; decide)
    have h := z_f h (fun e9 => by rw [e9] at c1; revert c1; decide)
    have h := z_f h (fun e9 => by rw [e9] at c1; revert c1; decide)
    have h := z_f h (fun e9 => by rw [e9] at c1; revert c1; decide)
    have h := z_f h (fun e9 => by rw [e9] at c1; revert c1; decide)
    have h := z_f h (fun e9 => by rw [e9] at c1; revert c1; decide)
    have ec1 : p0 = (13 : Int32) := Int32.toInt_inj.mp (c1.trans (by decide))
    have h := z_t h ec1
    refine lv_fi (v := 13) ec1 ?_
    refine lv_tableIn (tgt := 193) hx hb dX8_count_1 (by decide) (by decide) rfl (by decide) ?_
    refine lv_aload_n hx hb dX8_count_193 rfl (lv_at hl 0 rfl) ?_
    refine fgX8_2 hx hb hts hown hK hw 0 rfl kw444 dX8_count_194 ?_
    refine fgX2_10 hx hb hts hown hK hw 2 rfl kw325 dX8_count_197 ?_
    have hy := Option.some.inj h
    rw [← hQz, ← hy]
    exact xr_i (v := gI o_me_isles 10) hx hb hr rfl hlk hK hw dX8_count_200
  · skip
    have h := z_f h (fun e9 => by rw [e9] at c1; revert c1; decide)
    have h := z_f h (fun e9 => by rw [e9] at c1; revert c1; decide)
    have h := z_f h (fun e9 => by rw [e9] at c1; revert c1; decide)
    have h := z_f h (fun e9 => by rw [e9] at c1; revert c1; decide)
    have h := z_f h (fun e9 => by rw [e9] at c1; revert c1; decide)
    have h := z_f h (fun e9 => by rw [e9] at c1; revert c1; decide)
    have h := z_f h (fun e9 => by rw [e9] at c1; revert c1; decide)
    have h := z_f h (fun e9 => by rw [e9] at c1; revert c1; decide)
    have h := z_f h (fun e9 => by rw [e9] at c1; revert c1; decide)
    have h := z_f h (fun e9 => by rw [e9] at c1; revert c1; decide)
    have h := z_f h (fun e9 => by rw [e9] at c1; revert c1; decide)
    have h := z_f h (fun e9 => by rw [e9] at c1; revert c1; decide)
    have h := z_f h (fun e9 => by rw [e9] at c1; revert c1; decide)
    have h := z_f h (fun e9 => by rw [e9] at c1; revert c1; decide)
    have ec1 : p0 = (14 : Int32) := Int32.toInt_inj.mp (c1.trans (by decide))
    have h := z_t h ec1
    refine lv_fi (v := 14) ec1 ?_
    refine lv_tableIn (tgt := 201) hx hb dX8_count_1 (by decide) (by decide) rfl (by decide) ?_
    refine lv_aload_n hx hb dX8_count_201 rfl (lv_at hl 0 rfl) ?_
    refine fgX8_2 hx hb hts hown hK hw 0 rfl kw444 dX8_count_202 ?_
    refine lv_iconst (v := 0) hx hb dX8_count_205 (by decide) ?_
    obtain ⟨z4, ez4, h⟩ := z_bd h
    refine xj_i (xrV (As := [.int (0 : Int32)]) (rest := []) ⟨hx, hb, hml, hown, hts⟩ (m_X2_term l dC dI _ h_me_isles h_me_isles_now q_me_isles k_me_isles q_me_isles_now k_me_isles_now o_me_isles o_me_isles_now (0 : Int32) z4 ez4) kw623 kw620 kw621 kw622 kw115 hd_X2_term ⟨rfl, rfl⟩ rfl rfl ⟨rfl, rfl⟩ hX hK hw [2, 3] (by decide) rfl rfl rfl rfl rfl hl.1 rfl rfl dX8_count_206) hw hA [2, 3] (by decide) rfl rfl (fun H locs hw => ?_)
    have hw : Wd dC dI A s.heap [wX8 h_me h_me_reader h_me_machine h_me_isles h_me_court h_me_study h_me_paper h_me_paperCourt h_me_past h_me_pastAhead h_me_movingAhead q_me k_me o_me, wX6 h_me_reader h_me_reader_code q_me_reader k_me_reader o_me_reader, wX2 h_me_isles h_me_isles_now q_me_isles k_me_isles o_me_isles, wX4 h_me_isles_now q_me_isles_now k_me_isles_now o_me_isles_now, wX5 h_me_past q_me_past k_me_past o_me_past] H locs := hw
    have hy := Option.some.inj h
    rw [← hQz, ← hy]
    exact xr_i (v := z4) hx hb hr rfl hlk hK hw dX8_count_209
  · skip
    have h := z_f h (fun e9 => by rw [e9] at c1; revert c1; decide)
    have h := z_f h (fun e9 => by rw [e9] at c1; revert c1; decide)
    have h := z_f h (fun e9 => by rw [e9] at c1; revert c1; decide)
    have h := z_f h (fun e9 => by rw [e9] at c1; revert c1; decide)
    have h := z_f h (fun e9 => by rw [e9] at c1; revert c1; decide)
    have h := z_f h (fun e9 => by rw [e9] at c1; revert c1; decide)
    have h := z_f h (fun e9 => by rw [e9] at c1; revert c1; decide)
    have h := z_f h (fun e9 => by rw [e9] at c1; revert c1; decide)
    have h := z_f h (fun e9 => by rw [e9] at c1; revert c1; decide)
    have h := z_f h (fun e9 => by rw [e9] at c1; revert c1; decide)
    have h := z_f h (fun e9 => by rw [e9] at c1; revert c1; decide)
    have h := z_f h (fun e9 => by rw [e9] at c1; revert c1; decide)
    have h := z_f h (fun e9 => by rw [e9] at c1; revert c1; decide)
    have h := z_f h (fun e9 => by rw [e9] at c1; revert c1; decide)
    have h := z_f h (fun e9 => by rw [e9] at c1; revert c1; decide)
    have ec1 : p0 = (15 : Int32) := Int32.toInt_inj.mp (c1.trans (by decide))
    have h := z_t h ec1
    refine lv_fi (v := 15) ec1 ?_
    refine lv_tableIn (tgt := 210) hx hb dX8_count_1 (by decide) (by decide) rfl (by decide) ?_
    refine lv_aload_n hx hb dX8_count_210 rfl (lv_at hl 0 rfl) ?_
    refine fgX8_2 hx hb hts hown hK hw 0 rfl kw444 dX8_count_211 ?_
    refine lv_iconst (v := 1) hx hb dX8_count_214 (by decide) ?_
    obtain ⟨z5, ez5, h⟩ := z_bd h
    refine xj_i (xrV (As := [.int (1 : Int32)]) (rest := []) ⟨hx, hb, hml, hown, hts⟩ (m_X2_term l dC dI _ h_me_isles h_me_isles_now q_me_isles k_me_isles q_me_isles_now k_me_isles_now o_me_isles o_me_isles_now (1 : Int32) z5 ez5) kw623 kw620 kw621 kw622 kw115 hd_X2_term ⟨rfl, rfl⟩ rfl rfl ⟨rfl, rfl⟩ hX hK hw [2, 3] (by decide) rfl rfl rfl rfl rfl hl.1 rfl rfl dX8_count_215) hw hA [2, 3] (by decide) rfl rfl (fun H locs hw => ?_)
    have hw : Wd dC dI A s.heap [wX8 h_me h_me_reader h_me_machine h_me_isles h_me_court h_me_study h_me_paper h_me_paperCourt h_me_past h_me_pastAhead h_me_movingAhead q_me k_me o_me, wX6 h_me_reader h_me_reader_code q_me_reader k_me_reader o_me_reader, wX2 h_me_isles h_me_isles_now q_me_isles k_me_isles o_me_isles, wX4 h_me_isles_now q_me_isles_now k_me_isles_now o_me_isles_now, wX5 h_me_past q_me_past k_me_past o_me_past] H locs := hw
    have hy := Option.some.inj h
    rw [← hQz, ← hy]
    exact xr_i (v := z5) hx hb hr rfl hlk hK hw dX8_count_218
  · skip
    have h := z_f h (fun e9 => by rw [e9] at c1; revert c1; decide)
    have h := z_f h (fun e9 => by rw [e9] at c1; revert c1; decide)
    have h := z_f h (fun e9 => by rw [e9] at c1; revert c1; decide)
    have h := z_f h (fun e9 => by rw [e9] at c1; revert c1; decide)
    have h := z_f h (fun e9 => by rw [e9] at c1; revert c1; decide)
    have h := z_f h (fun e9 => by rw [e9] at c1; revert c1; decide)
    have h := z_f h (fun e9 => by rw [e9] at c1; revert c1; decide)
    have h := z_f h (fun e9 => by rw [e9] at c1; revert c1; decide)
    have h := z_f h (fun e9 => by rw [e9] at c1; revert c1; decide)
    have h := z_f h (fun e9 => by rw [e9] at c1; revert c1; decide)
    have h := z_f h (fun e9 => by rw [e9] at c1; revert c1; decide)
    have h := z_f h (fun e9 => by rw [e9] at c1; revert c1; decide)
    have h := z_f h (fun e9 => by rw [e9] at c1; revert c1; decide)
    have h := z_f h (fun e9 => by rw [e9] at c1; revert c1; decide)
    have h := z_f h (fun e9 => by rw [e9] at c1; revert c1; decide)
    have h := z_f h (fun e9 => by rw [e9] at c1; revert c1; decide)
    have ec1 : p0 = (16 : Int32) := Int32.toInt_inj.mp (c1.trans (by decide))
    have h := z_t h ec1
    refine lv_fi (v := 16) ec1 ?_
    refine lv_tableIn (tgt := 219) hx hb dX8_count_1 (by decide) (by decide) rfl (by decide) ?_
    refine lv_aload_n hx hb dX8_count_219 rfl (lv_at hl 0 rfl) ?_
    refine fgX8_2 hx hb hts hown hK hw 0 rfl kw444 dX8_count_220 ?_
    refine lv_iconst (v := 2) hx hb dX8_count_223 (by decide) ?_
    obtain ⟨z6, ez6, h⟩ := z_bd h
    refine xj_i (xrV (As := [.int (2 : Int32)]) (rest := []) ⟨hx, hb, hml, hown, hts⟩ (m_X2_term l dC dI _ h_me_isles h_me_isles_now q_me_isles k_me_isles q_me_isles_now k_me_isles_now o_me_isles o_me_isles_now (2 : Int32) z6 ez6) kw623 kw620 kw621 kw622 kw115 hd_X2_term ⟨rfl, rfl⟩ rfl rfl ⟨rfl, rfl⟩ hX hK hw [2, 3] (by decide) rfl rfl rfl rfl rfl hl.1 rfl rfl dX8_count_224) hw hA [2, 3] (by decide) rfl rfl (fun H locs hw => ?_)
    have hw : Wd dC dI A s.heap [wX8 h_me h_me_reader h_me_machine h_me_isles h_me_court h_me_study h_me_paper h_me_paperCourt h_me_past h_me_pastAhead h_me_movingAhead q_me k_me o_me, wX6 h_me_reader h_me_reader_code q_me_reader k_me_reader o_me_reader, wX2 h_me_isles h_me_isles_now q_me_isles k_me_isles o_me_isles, wX4 h_me_isles_now q_me_isles_now k_me_isles_now o_me_isles_now, wX5 h_me_past q_me_past k_me_past o_me_past] H locs := hw
    have hy := Option.some.inj h
    rw [← hQz, ← hy]
    exact xr_i (v := z6) hx hb hr rfl hlk hK hw dX8_count_227
  · skip
    have h := z_f h (fun e9 => by rw [e9] at c1; revert c1; decide)
    have h := z_f h (fun e9 => by rw [e9] at c1; revert c1; decide)
    have h := z_f h (fun e9 => by rw [e9] at c1; revert c1; decide)
    have h := z_f h (fun e9 => by rw [e9] at c1; revert c1; decide)
    have h := z_f h (fun e9 => by rw [e9] at c1; revert c1; decide)
    have h := z_f h (fun e9 => by rw [e9] at c1; revert c1; decide)
    have h := z_f h (fun e9 => by rw [e9] at c1; revert c1; decide)
    have h := z_f h (fun e9 => by rw [e9] at c1; revert c1; decide)
    have h := z_f h (fun e9 => by rw [e9] at c1; revert c1; decide)
    have h := z_f h (fun e9 => by rw [e9] at c1; revert c1; decide)
    have h := z_f h (fun e9 => by rw [e9] at c1; revert c1; decide)
    have h := z_f h (fun e9 => by rw [e9] at c1; revert c1; decide)
    have h := z_f h (fun e9 => by rw [e9] at c1; revert c1; decide)
    have h := z_f h (fun e9 => by rw [e9] at c1; revert c1; decide)
    have h := z_f h (fun e9 => by rw [e9] at c1; revert c1; decide)
    have h := z_f h (fun e9 => by rw [e9] at c1; revert c1; decide)
    have h := z_f h (fun e9 => by rw [e9] at c1; revert c1; decide)
    refine lv_tableOut (tgt := 228) hx hb dX8_count_1 c1 (by decide) ?_
    refine lv_iconst (v := (-1)) hx hb dX8_count_228 (by decide) ?_
    have hy := Option.some.inj h
    rw [← hQz, ← hy]
    exact xr_i (v := (-1 : Int32)) hx hb hr rfl hlk hK hw dX8_count_229

def f_X7_scoreWith (o_me : Ob) (p0 : Int32) (p1 : Int32) (p2 : Int32) : Option (Int32) :=
  zgd (zin ((p1 * (7 : Int32)) + p0) 28) <|
  zlt (gA o_me 5 ((p1 * (7 : Int32)) + p0).toNatClampNeg) fun x2 =>
  if x2 = (-1 : Int32) then
  (some (-1 : Int32))
  else
  (if ((p2 >>> (p0 &&& 31)) &&& (1 : Int32)) = (1 : Int32) then
  (some (-1 : Int32))
  else
  (zgd (zin (((p1 + (1 : Int32)) * (128 : Int32)) + (p2 ||| ((1 : Int32) <<< (p0 &&& 31)))) 640) <|
  some (x2 + (gA o_me 4 (((p1 + (1 : Int32)) * (128 : Int32)) + (p2 ||| ((1 : Int32) <<< (p0 &&& 31)))).toNatClampNeg))))
set_option maxHeartbeats 4000000 in
set_option maxRecDepth 100000 in
theorem m_X7_scoreWith (l : Launch) (dC : Nat → ClassId) (dI : Nat → Nat → Nat) (sz : Nat) (h_me : Nat) (h_me_court : Nat) (h_me_court_isles : Nat) (q_me : Nat → Nat) (k_me : Nat → ClassId) (o_me : Ob) (p0 : Int32) (p1 : Int32) (p2 : Int32) (y : Int32) (h : f_X7_scoreWith o_me p0 p1 p2 = some y) : CI l yX7_scoreWith cX7_scoreWith 5 (some .int) ({ frames := 0, cells := 0, slots := 0, locals := 0 } : Room) dC dI sz [.ref h_me, .int p0, .int p1, .int p2] [wX7 h_me h_me_court h_me_court_isles q_me k_me o_me] [tX7 k_me] y [wX7 h_me h_me_court h_me_court_isles q_me k_me o_me] := by
  refine CC_of (by decide) (Nat.le_of_ble_eq_true rfl) ?_
  intro p e s m below meth c A ls hx hb hml hr hlk hnm hown hts hX hK hP hD hA hl
  have hl : lv_has ls 5 [(0, .ref h_me), (1, .int p0), (2, .int p1), (3, .int p2)] := hl
  have hown : s.vm.findClass RX7 = some m.cls := hown
  have hw : Wd dC dI A s.heap [wX7 h_me h_me_court h_me_court_isles q_me k_me o_me] s.heap [] := ⟨hP, hD, va_S.rf⟩
  generalize hQz : (MQ below (QI dC dI (fun r (_ : Unit) => r = y) (fun _ => Jn [wX7 h_me h_me_court h_me_court_isles q_me k_me o_me]) (fun _ => Jt [tX7 k_me]) A) ([.ref h_me, .int p0, .int p1, .int p2] : List Value).toArray s 0 0 A) = Qz
  clear hP hD hnm
  unfold f_X7_scoreWith at h
  refine lv_aload_n hx hb dX7_scoreWith_0 rfl (lv_at hl 0 rfl) ?_
  refine fgX7_5 hx hb hts hown hK hw 0 rfl kw392 dX7_scoreWith_1 ?_
  refine lv_iload_n hx hb dX7_scoreWith_4 rfl (lv_at hl 2 rfl) ?_
  refine lv_bipush (v := 7) hx hb dX7_scoreWith_5 (by decide) ?_
  refine lv_imul hx hb dX7_scoreWith_7 ?_
  refine lv_iload_n hx hb dX7_scoreWith_8 rfl (lv_at hl 1 rfl) ?_
  refine lv_iadd hx hb dX7_scoreWith_9 ?_
  obtain ⟨g1, h⟩ := z_gd h
  refine faX7_5 hx hb hK hw 0 rfl rfl g1 dX7_scoreWith_10 ?_
  obtain ⟨x2, ex2, h⟩ := z_lt h
  refine lv_fi (v := x2) ex2.symm ?_
  refine lv_istore (lv' := [(4, .int x2), (0, .ref h_me), (1, .int p0), (2, .int p1), (3, .int p2)]) hx hb dX7_scoreWith_11 hl (by decide) rfl (fun ls hl => ?_)
  refine lv_iload hx hb dX7_scoreWith_13 (lv_at hl 0 rfl) ?_
  refine lv_iconst (v := (-1)) hx hb dX7_scoreWith_15 (by decide) ?_
  refine lv_icmp_eq (tgt := 28) hx hb dX7_scoreWith_16 (by decide) (fun c => ?_) (fun c => ?_)
  · have h := z_t h c
    refine lv_iconst (v := (-1)) hx hb dX7_scoreWith_28 (by decide) ?_
    have hy := Option.some.inj h
    rw [← hQz, ← hy]
    exact xr_i (v := (-1 : Int32)) hx hb hr rfl hlk hK hw dX7_scoreWith_29
  · have h := z_f h c
    refine lv_iload_n hx hb dX7_scoreWith_19 rfl (lv_at hl 4 rfl) ?_
    refine lv_iload_n hx hb dX7_scoreWith_20 rfl (lv_at hl 2 rfl) ?_
    refine lv_ishr hx hb dX7_scoreWith_21 ?_
    refine lv_iconst (v := 1) hx hb dX7_scoreWith_22 (by decide) ?_
    refine lv_iand hx hb dX7_scoreWith_23 ?_
    refine lv_iconst (v := 1) hx hb dX7_scoreWith_24 (by decide) ?_
    refine lv_icmp_ne (tgt := 30) hx hb dX7_scoreWith_25 (by decide) (fun c => ?_) (fun c => ?_)
    · have h := z_f h c
      refine lv_iload hx hb dX7_scoreWith_30 (lv_at hl 0 rfl) ?_
      refine lv_aload_n hx hb dX7_scoreWith_32 rfl (lv_at hl 1 rfl) ?_
      refine fgX7_4 hx hb hts hown hK hw 0 rfl kw391 dX7_scoreWith_33 ?_
      refine lv_iload_n hx hb dX7_scoreWith_36 rfl (lv_at hl 3 rfl) ?_
      refine lv_iconst (v := 1) hx hb dX7_scoreWith_37 (by decide) ?_
      refine lv_iadd hx hb dX7_scoreWith_38 ?_
      refine lv_sipush (v := 128) hx hb dX7_scoreWith_39 (by decide) ?_
      refine lv_imul hx hb dX7_scoreWith_42 ?_
      refine lv_iload_n hx hb dX7_scoreWith_43 rfl (lv_at hl 4 rfl) ?_
      refine lv_iconst (v := 1) hx hb dX7_scoreWith_44 (by decide) ?_
      refine lv_iload_n hx hb dX7_scoreWith_45 rfl (lv_at hl 2 rfl) ?_
      refine lv_ishl hx hb dX7_scoreWith_46 ?_
      refine lv_ior hx hb dX7_scoreWith_47 ?_
      refine lv_iadd hx hb dX7_scoreWith_48 ?_
      obtain ⟨g3, h⟩ := z_gd h
      refine faX7_4 hx hb hK hw 0 rfl rfl g3 dX7_scoreWith_49 ?_
      refine lv_iadd hx hb dX7_scoreWith_50 ?_
      have hy := Option.some.inj h
      rw [← hQz, ← hy]
      exact xr_i (v := x2 + (gA o_me 4 (((p1 + (1 : Int32)) * (128 : Int32)) + (p2 ||| ((1 : Int32) <<< (p0 &&& 31)))).toNatClampNeg)) hx hb hr rfl hlk hK hw dX7_scoreWith_51
    · have h := z_t h c
      refine lv_iconst (v := (-1)) hx hb dX7_scoreWith_28 (by decide) ?_
      have hy := Option.some.inj h
      rw [← hQz, ← hy]
      exact xr_i (v := (-1 : Int32)) hx hb hr rfl hlk hK hw dX7_scoreWith_29

def lb_X7_firstCrowned_2 (o_me : Ob) (o_me_court_isles : Ob)  (rec_2_0 : Int32 × Int32 × Int32 → Option (Int32)) (v1 : Int32) (v2 : Int32) (v3 : Int32) : Option (Int32) :=
  if (gI o_me_court_isles 7) ≤ v3 then
  (some (7 : Int32))
  else
  ((f_X7_scoreWith o_me v3 v1 v2).bind fun z1 =>
  zgd (zin ((v1 * (128 : Int32)) + v2) 640) <|
  if z1 = (gA o_me 4 ((v1 * (128 : Int32)) + v2).toNatClampNeg) then
  (some v3)
  else
  (zlt (v3 + (1 : Int32)) fun x3 =>
  rec_2_0 (v1, v2, x3)))
def lp_X7_firstCrowned_2 (o_me : Ob) (o_me_court_isles : Ob)  : Nat → (Int32 × Int32 × Int32) → Option (Int32) := zit (fun rec a => lb_X7_firstCrowned_2 o_me o_me_court_isles  rec a.1 a.2.1 a.2.2)
def f_X7_firstCrowned (o_me : Ob) (o_me_court_isles : Ob) (p0 : Int32) (p1 : Int32) : Option (Int32) :=
  lp_X7_firstCrowned_2 o_me o_me_court_isles  zfu (p0, p1, (0 : Int32))
set_option maxHeartbeats 4000000 in
set_option maxRecDepth 100000 in
theorem m_X7_firstCrowned (l : Launch) (dC : Nat → ClassId) (dI : Nat → Nat → Nat) (sz : Nat) (h_me : Nat) (h_me_court : Nat) (h_me_court_isles : Nat) (h_me_court_isles_now : Nat) (q_me : Nat → Nat) (k_me : Nat → ClassId) (q_me_court_isles : Nat → Nat) (k_me_court_isles : Nat → ClassId) (o_me : Ob) (o_me_court_isles : Ob) (p0 : Int32) (p1 : Int32) (y : Int32) (h : f_X7_firstCrowned o_me o_me_court_isles p0 p1 = some y) : CI l yX7_firstCrowned cX7_firstCrowned 4 (some .int) ({ frames := 1, cells := 0, slots := 0, locals := 24 } : Room) dC dI sz [.ref h_me, .int p0, .int p1] [wX7 h_me h_me_court h_me_court_isles q_me k_me o_me, wX2 h_me_court_isles h_me_court_isles_now q_me_court_isles k_me_court_isles o_me_court_isles] [tX7 k_me, tX2 k_me_court_isles] y [wX7 h_me h_me_court h_me_court_isles q_me k_me o_me, wX2 h_me_court_isles h_me_court_isles_now q_me_court_isles k_me_court_isles o_me_court_isles] := by
  refine CC_of (by decide) (Nat.le_of_ble_eq_true rfl) ?_
  intro p e s m below meth c A ls hx hb hml hr hlk hnm hown hts hX hK hP hD hA hl
  have hl : lv_has ls 4 [(0, .ref h_me), (1, .int p0), (2, .int p1)] := hl
  have hown : s.vm.findClass RX7 = some m.cls := hown
  have hw : Wd dC dI A s.heap [wX7 h_me h_me_court h_me_court_isles q_me k_me o_me, wX2 h_me_court_isles h_me_court_isles_now q_me_court_isles k_me_court_isles o_me_court_isles] s.heap [] := ⟨hP, hD, va_S.rf⟩
  generalize hQz : (MQ below (QI dC dI (fun r (_ : Unit) => r = y) (fun _ => Jn [wX7 h_me h_me_court h_me_court_isles q_me k_me o_me, wX2 h_me_court_isles h_me_court_isles_now q_me_court_isles k_me_court_isles o_me_court_isles]) (fun _ => Jt [tX7 k_me, tX2 k_me_court_isles]) A) ([.ref h_me, .int p0, .int p1] : List Value).toArray s 0 0 A) = Qz
  clear hP hD hnm
  have lp_2_0 : ∀ (N : Nat), ∀ (v1 : Int32) (v2 : Int32) (v3 : Int32) (H : Heap) (locs : List Loc) (ls : Array Slot), lp_X7_firstCrowned_2 o_me o_me_court_isles  N (v1, v2, v3) = some y → Wd dC dI A s.heap [wX7 h_me h_me_court h_me_court_isles q_me k_me o_me, wX2 h_me_court_isles h_me_court_isles_now q_me_court_isles k_me_court_isles o_me_court_isles] H locs → lv_has ls 4 [(0, .ref h_me), (1, .int v1), (2, .int v2), (3, .int v3)] → W p l e ({ frames := 1, cells := 0, slots := 0, locals := 24 } : Room) s m ([.ref h_me, .int p0, .int p1] : List Value).toArray below meth c H locs 0 0 Qz (F0 m 2 ls []) := by
    intro N
    induction N with
    | zero =>
      intro v1 v2 v3 H locs ls h hw hl
      exact absurd (show (none : Option (Int32)) = some y from h) (by simp)
    | succ N ih =>
      intro v1 v2 v3 H locs ls h hw hl
      have h : lb_X7_firstCrowned_2 o_me o_me_court_isles  (lp_X7_firstCrowned_2 o_me o_me_court_isles  N) v1 v2 v3 = some y := h
      unfold lb_X7_firstCrowned_2 at h
      refine lv_iload_n hx hb dX7_firstCrowned_2 rfl (lv_at hl 3 rfl) ?_
      refine lv_aload_n hx hb dX7_firstCrowned_3 rfl (lv_at hl 0 rfl) ?_
      refine fgX7_1 hx hb hts hown hK hw 0 rfl kw387 dX7_firstCrowned_4 ?_
      refine fgX2_7 hx hb hts hown hK hw 1 rfl kw316 dX7_firstCrowned_7 ?_
      refine lv_icmp_ge (tgt := 43) hx hb dX7_firstCrowned_10 (by decide) (fun c => ?_) (fun c => ?_)
      · have h := z_t h c
        refine lv_bipush (v := 7) hx hb dX7_firstCrowned_43 (by decide) ?_
        have hy := Option.some.inj h
        rw [← hQz, ← hy]
        exact xr_i (v := (7 : Int32)) hx hb hr rfl hlk hK hw dX7_firstCrowned_45
      · have h := z_f h c
        refine lv_aload_n hx hb dX7_firstCrowned_13 rfl (lv_at hl 0 rfl) ?_
        refine lv_iload_n hx hb dX7_firstCrowned_14 rfl (lv_at hl 3 rfl) ?_
        refine lv_iload_n hx hb dX7_firstCrowned_15 rfl (lv_at hl 1 rfl) ?_
        refine lv_iload_n hx hb dX7_firstCrowned_16 rfl (lv_at hl 2 rfl) ?_
        obtain ⟨z1, ez1, h⟩ := z_bd h
        refine xj_i (xrV (As := [.int v3, .int v1, .int v2]) (rest := []) ⟨hx, hb, hml, hown, hts⟩ (m_X7_scoreWith l dC dI _ h_me h_me_court h_me_court_isles q_me k_me o_me v3 v1 v2 z1 ez1) kw1053 kw1050 kw1052 kw35 kw118 hd_X7_scoreWith ⟨rfl, rfl⟩ rfl rfl ⟨rfl, rfl⟩ hX hK hw [0] (by decide) rfl rfl rfl rfl rfl hl.1 rfl rfl dX7_firstCrowned_17) hw hA [0] (by decide) rfl rfl (fun H locs hw => ?_)
        have hw : Wd dC dI A s.heap [wX7 h_me h_me_court h_me_court_isles q_me k_me o_me, wX2 h_me_court_isles h_me_court_isles_now q_me_court_isles k_me_court_isles o_me_court_isles] H locs := hw
        refine lv_aload_n hx hb dX7_firstCrowned_20 rfl (lv_at hl 0 rfl) ?_
        refine fgX7_4 hx hb hts hown hK hw 0 rfl kw391 dX7_firstCrowned_21 ?_
        refine lv_iload_n hx hb dX7_firstCrowned_24 rfl (lv_at hl 1 rfl) ?_
        refine lv_sipush (v := 128) hx hb dX7_firstCrowned_25 (by decide) ?_
        refine lv_imul hx hb dX7_firstCrowned_28 ?_
        refine lv_iload_n hx hb dX7_firstCrowned_29 rfl (lv_at hl 2 rfl) ?_
        refine lv_iadd hx hb dX7_firstCrowned_30 ?_
        obtain ⟨g2, h⟩ := z_gd h
        refine faX7_4 hx hb hK hw 0 rfl rfl g2 dX7_firstCrowned_31 ?_
        refine lv_icmp_ne (tgt := 37) hx hb dX7_firstCrowned_32 (by decide) (fun c => ?_) (fun c => ?_)
        · have h := z_f h c
          obtain ⟨x3, ex3, h⟩ := z_lt h
          refine lv_iinc (v := x3) (lv' := [(3, .int x3), (0, .ref h_me), (1, .int v1), (2, .int v2)]) hx hb dX7_firstCrowned_37 hl (k := 3) rfl ((congrArg (v3 + ·) (show Int32.ofInt 1 = (1 : Int32) from by decide)).trans ex3.symm) (by decide) rfl (fun ls hl => ?_)
          refine lv_goto (tgt := 2) hx hb dX7_firstCrowned_40 (by decide) ?_
          exact ih v1 v2 x3 _ _ _ h hw (lv_sub hl [1, 2, 3, 0] rfl)
        · have h := z_t h c
          refine lv_iload_n hx hb dX7_firstCrowned_35 rfl (lv_at hl 3 rfl) ?_
          have hy := Option.some.inj h
          rw [← hQz, ← hy]
          exact xr_i (v := v3) hx hb hr rfl hlk hK hw dX7_firstCrowned_36
  unfold f_X7_firstCrowned at h
  refine lv_iconst (v := 0) hx hb dX7_firstCrowned_0 (by decide) ?_
  refine lv_istore_n (lv' := [(3, .int (0 : Int32)), (0, .ref h_me), (1, .int p0), (2, .int p1)]) hx hb dX7_firstCrowned_1 rfl hl (by decide) rfl (fun ls hl => ?_)
  exact lp_2_0  zfu p0 p1 (0 : Int32) _ _ _ h hw (lv_sub hl [1, 2, 3, 0] rfl)

def lb_X7_bestFrom_18 (o_me : Ob) (o_me_court_isles : Ob)  (rec_18_0 : Int32 × Int32 × Int32 × Int32 → Option (Int32)) (v1 : Int32) (v2 : Int32) (v3 : Int32) (v4 : Int32) : Option (Int32) :=
  if (gI o_me_court_isles 7) ≤ v4 then
  (some v3)
  else
  ((f_X7_scoreWith o_me v4 v1 v2).bind fun z3 =>
  zlt (if v3 < z3 then z3 else v3) fun x4 =>
  zlt (v4 + (1 : Int32)) fun x5 =>
  rec_18_0 (v1, v2, x4, x5))
def lp_X7_bestFrom_18 (o_me : Ob) (o_me_court_isles : Ob)  : Nat → (Int32 × Int32 × Int32 × Int32) → Option (Int32) := zit (fun rec a => lb_X7_bestFrom_18 o_me o_me_court_isles  rec a.1 a.2.1 a.2.2.1 a.2.2.2)
def f_X7_bestFrom (o_me : Ob) (o_me_court_isles : Ob) (p0 : Int32) (p1 : Int32) : Option (Int32) :=
  zgd (zin (((p0 + (1 : Int32)) * (128 : Int32)) + p1) 640) <|
  zlt (gA o_me 4 (((p0 + (1 : Int32)) * (128 : Int32)) + p1).toNatClampNeg) fun x2 =>
  lp_X7_bestFrom_18 o_me o_me_court_isles  zfu (p0, p1, x2, (0 : Int32))
set_option maxHeartbeats 4000000 in
set_option maxRecDepth 100000 in
theorem m_X7_bestFrom (l : Launch) (dC : Nat → ClassId) (dI : Nat → Nat → Nat) (sz : Nat) (h_me : Nat) (h_me_court : Nat) (h_me_court_isles : Nat) (h_me_court_isles_now : Nat) (q_me : Nat → Nat) (k_me : Nat → ClassId) (q_me_court_isles : Nat → Nat) (k_me_court_isles : Nat → ClassId) (o_me : Ob) (o_me_court_isles : Ob) (p0 : Int32) (p1 : Int32) (y : Int32) (h : f_X7_bestFrom o_me o_me_court_isles p0 p1 = some y) : CI l yX7_bestFrom cX7_bestFrom 5 (some .int) ({ frames := 1, cells := 0, slots := 0, locals := 24 } : Room) dC dI sz [.ref h_me, .int p0, .int p1] [wX7 h_me h_me_court h_me_court_isles q_me k_me o_me, wX2 h_me_court_isles h_me_court_isles_now q_me_court_isles k_me_court_isles o_me_court_isles] [tX7 k_me, tX2 k_me_court_isles] y [wX7 h_me h_me_court h_me_court_isles q_me k_me o_me, wX2 h_me_court_isles h_me_court_isles_now q_me_court_isles k_me_court_isles o_me_court_isles] := by
  refine CC_of (by decide) (Nat.le_of_ble_eq_true rfl) ?_
  intro p e s m below meth c A ls hx hb hml hr hlk hnm hown hts hX hK hP hD hA hl
  have hl : lv_has ls 5 [(0, .ref h_me), (1, .int p0), (2, .int p1)] := hl
  have hown : s.vm.findClass RX7 = some m.cls := hown
  have hw : Wd dC dI A s.heap [wX7 h_me h_me_court h_me_court_isles q_me k_me o_me, wX2 h_me_court_isles h_me_court_isles_now q_me_court_isles k_me_court_isles o_me_court_isles] s.heap [] := ⟨hP, hD, va_S.rf⟩
  generalize hQz : (MQ below (QI dC dI (fun r (_ : Unit) => r = y) (fun _ => Jn [wX7 h_me h_me_court h_me_court_isles q_me k_me o_me, wX2 h_me_court_isles h_me_court_isles_now q_me_court_isles k_me_court_isles o_me_court_isles]) (fun _ => Jt [tX7 k_me, tX2 k_me_court_isles]) A) ([.ref h_me, .int p0, .int p1] : List Value).toArray s 0 0 A) = Qz
  clear hP hD hnm
  have lp_18_0 : ∀ (N : Nat), ∀ (v1 : Int32) (v2 : Int32) (v3 : Int32) (v4 : Int32) (H : Heap) (locs : List Loc) (ls : Array Slot), lp_X7_bestFrom_18 o_me o_me_court_isles  N (v1, v2, v3, v4) = some y → Wd dC dI A s.heap [wX7 h_me h_me_court h_me_court_isles q_me k_me o_me, wX2 h_me_court_isles h_me_court_isles_now q_me_court_isles k_me_court_isles o_me_court_isles] H locs → lv_has ls 5 [(0, .ref h_me), (1, .int v1), (2, .int v2), (3, .int v3), (4, .int v4)] → W p l e ({ frames := 1, cells := 0, slots := 0, locals := 24 } : Room) s m ([.ref h_me, .int p0, .int p1] : List Value).toArray below meth c H locs 0 0 Qz (F0 m 18 ls []) := by
    intro N
    induction N with
    | zero =>
      intro v1 v2 v3 v4 H locs ls h hw hl
      exact absurd (show (none : Option (Int32)) = some y from h) (by simp)
    | succ N ih =>
      intro v1 v2 v3 v4 H locs ls h hw hl
      have h : lb_X7_bestFrom_18 o_me o_me_court_isles  (lp_X7_bestFrom_18 o_me o_me_court_isles  N) v1 v2 v3 v4 = some y := h
      unfold lb_X7_bestFrom_18 at h
      refine lv_iload hx hb dX7_bestFrom_18 (lv_at hl 4 rfl) ?_
      refine lv_aload_n hx hb dX7_bestFrom_20 rfl (lv_at hl 0 rfl) ?_
      refine fgX7_1 hx hb hts hown hK hw 0 rfl kw387 dX7_bestFrom_21 ?_
      refine fgX2_7 hx hb hts hown hK hw 1 rfl kw316 dX7_bestFrom_24 ?_
      refine lv_icmp_ge (tgt := 49) hx hb dX7_bestFrom_27 (by decide) (fun c => ?_) (fun c => ?_)
      · have h := z_t h c
        refine lv_iload_n hx hb dX7_bestFrom_49 rfl (lv_at hl 3 rfl) ?_
        have hy := Option.some.inj h
        rw [← hQz, ← hy]
        exact xr_i (v := v3) hx hb hr rfl hlk hK hw dX7_bestFrom_50
      · have h := z_f h c
        refine lv_iload_n hx hb dX7_bestFrom_30 rfl (lv_at hl 3 rfl) ?_
        refine lv_aload_n hx hb dX7_bestFrom_31 rfl (lv_at hl 0 rfl) ?_
        refine lv_iload hx hb dX7_bestFrom_32 (lv_at hl 4 rfl) ?_
        refine lv_iload_n hx hb dX7_bestFrom_34 rfl (lv_at hl 1 rfl) ?_
        refine lv_iload_n hx hb dX7_bestFrom_35 rfl (lv_at hl 2 rfl) ?_
        obtain ⟨z3, ez3, h⟩ := z_bd h
        refine xj_i (xrV (As := [.int v4, .int v1, .int v2]) (rest := [.int v3]) ⟨hx, hb, hml, hown, hts⟩ (m_X7_scoreWith l dC dI _ h_me h_me_court h_me_court_isles q_me k_me o_me v4 v1 v2 z3 ez3) kw1053 kw1050 kw1052 kw35 kw118 hd_X7_scoreWith ⟨rfl, rfl⟩ rfl rfl ⟨rfl, rfl⟩ hX hK hw [0] (by decide) rfl rfl rfl rfl rfl hl.1 rfl rfl dX7_bestFrom_36) hw hA [0] (by decide) rfl rfl (fun H locs hw => ?_)
        have hw : Wd dC dI A s.heap [wX7 h_me h_me_court h_me_court_isles q_me k_me o_me, wX2 h_me_court_isles h_me_court_isles_now q_me_court_isles k_me_court_isles o_me_court_isles] H locs := hw
        refine va_mmax hx hb (hml.trans hl.1.symm) hown (hts _ kw1008) (hts _ kw149) (hts _ kw113) (hts _ kw150) (Nat.le_of_ble_eq_true rfl) (Nat.le_of_ble_eq_true rfl) (Nat.le_of_ble_eq_true rfl) (Nat.le_of_ble_eq_true rfl) dX7_bestFrom_39 ?_
        obtain ⟨x4, ex4, h⟩ := z_lt h
        refine lv_fi (v := x4) ex4.symm ?_
        refine lv_istore_n (lv' := [(3, .int x4), (0, .ref h_me), (1, .int v1), (2, .int v2), (4, .int v4)]) hx hb dX7_bestFrom_42 rfl hl (by decide) rfl (fun ls hl => ?_)
        obtain ⟨x5, ex5, h⟩ := z_lt h
        refine lv_iinc (v := x5) (lv' := [(4, .int x5), (3, .int x4), (0, .ref h_me), (1, .int v1), (2, .int v2)]) hx hb dX7_bestFrom_43 hl (k := 4) rfl ((congrArg (v4 + ·) (show Int32.ofInt 1 = (1 : Int32) from by decide)).trans ex5.symm) (by decide) rfl (fun ls hl => ?_)
        refine lv_goto (tgt := 18) hx hb dX7_bestFrom_46 (by decide) ?_
        exact ih v1 v2 x4 x5 _ _ _ h hw (lv_sub hl [2, 3, 4, 1, 0] rfl)
  unfold f_X7_bestFrom at h
  refine lv_aload_n hx hb dX7_bestFrom_0 rfl (lv_at hl 0 rfl) ?_
  refine fgX7_4 hx hb hts hown hK hw 0 rfl kw391 dX7_bestFrom_1 ?_
  refine lv_iload_n hx hb dX7_bestFrom_4 rfl (lv_at hl 1 rfl) ?_
  refine lv_iconst (v := 1) hx hb dX7_bestFrom_5 (by decide) ?_
  refine lv_iadd hx hb dX7_bestFrom_6 ?_
  refine lv_sipush (v := 128) hx hb dX7_bestFrom_7 (by decide) ?_
  refine lv_imul hx hb dX7_bestFrom_10 ?_
  refine lv_iload_n hx hb dX7_bestFrom_11 rfl (lv_at hl 2 rfl) ?_
  refine lv_iadd hx hb dX7_bestFrom_12 ?_
  obtain ⟨g1, h⟩ := z_gd h
  refine faX7_4 hx hb hK hw 0 rfl rfl g1 dX7_bestFrom_13 ?_
  obtain ⟨x2, ex2, h⟩ := z_lt h
  refine lv_fi (v := x2) ex2.symm ?_
  refine lv_istore_n (lv' := [(3, .int x2), (0, .ref h_me), (1, .int p0), (2, .int p1)]) hx hb dX7_bestFrom_14 rfl hl (by decide) rfl (fun ls hl => ?_)
  refine lv_iconst (v := 0) hx hb dX7_bestFrom_15 (by decide) ?_
  refine lv_istore (lv' := [(4, .int (0 : Int32)), (3, .int x2), (0, .ref h_me), (1, .int p0), (2, .int p1)]) hx hb dX7_bestFrom_16 hl (by decide) rfl (fun ls hl => ?_)
  exact lp_18_0  zfu p0 p1 x2 (0 : Int32) _ _ _ h hw (lv_sub hl [2, 3, 4, 1, 0] rfl)

def bk_X7_crownAll_133 (o_me_court : Ob) (o_me_court_isles : Ob) (o_me_court_isles_now : Ob) (o_pool : List CR) (rec_92_2 : Int32 × Int32 × Ob × Ob → Option (Int32 × Ob × Ob)) (v3 : Int32) (s0 : Int32) (s1 : Int32) (o_me : Ob) (o_me_court_machine : Ob) : Option (Int32 × Ob × Ob) :=
  zlt (s1 ||| s0) fun x7 =>
  zlt (v3 + (1 : Int32)) fun x8 =>
  rec_92_2 (x7, x8, o_me, o_me_court_machine)
def lb_X7_crownAll_92 (o_me_court : Ob) (o_me_court_isles : Ob) (o_me_court_isles_now : Ob) (o_pool : List CR)  (rec_92_2 : Int32 × Int32 × Ob × Ob → Option (Int32 × Ob × Ob)) (v2 : Int32) (v3 : Int32) (o_me : Ob) (o_me_court_machine : Ob) : Option (Int32 × Ob × Ob) :=
  if (4 : Int32) ≤ v3 then
  (some (gA o_me 4 (0 : Int32).toNatClampNeg, o_me, o_me_court_machine))
  else
  ((f_X7_firstCrowned o_me o_me_court_isles v3 v2).bind fun z2 =>
  zgd (zin v3 7) <|
  zlt (tA o_me 2 v3.toNatClampNeg z2) fun o4 =>
  zgd (zin v3 7) <|
  if (gA o4 2 v3.toNatClampNeg) = (7 : Int32) then
  (bk_X7_crownAll_133 o_me_court o_me_court_isles o_me_court_isles_now o_pool rec_92_2 v3 (0 : Int32) v2 o4 o_me_court_machine)
  else
  (zgd (zin v3 7) <|
  bk_X7_crownAll_133 o_me_court o_me_court_isles o_me_court_isles_now o_pool rec_92_2 v3 ((1 : Int32) <<< ((gA o4 2 v3.toNatClampNeg) &&& 31)) v2 o4 o_me_court_machine))
def lp_X7_crownAll_92 (o_me_court : Ob) (o_me_court_isles : Ob) (o_me_court_isles_now : Ob) (o_pool : List CR)  : Nat → (Int32 × Int32 × Ob × Ob) → Option (Int32 × Ob × Ob) := zit (fun rec a => lb_X7_crownAll_92 o_me_court o_me_court_isles o_me_court_isles_now o_pool  rec a.1 a.2.1 a.2.2.1 a.2.2.2)
def bk_X7_crownAll_76 (o_me_court : Ob) (o_me_court_isles : Ob) (o_me_court_isles_now : Ob) (o_pool : List CR) (rec_30_1 : Int32 × Int32 × Ob × Ob → Option (Int32 × Ob × Ob)) (rec_36_4 : Int32 × Int32 × Int32 × Ob × Ob → Option (Int32 × Ob × Ob)) (v1 : Int32) (v2 : Int32) (v3 : Int32) (o_me : Ob) (o_me_court_machine : Ob) : Option (Int32 × Ob × Ob) :=
  zlt (v3 + (1 : Int32)) fun x11 =>
  rec_36_4 (v1, v2, x11, o_me, o_me_court_machine)
def bk_X7_crownAll_75 (o_me_court : Ob) (o_me_court_isles : Ob) (o_me_court_isles_now : Ob) (o_pool : List CR) (rec_30_1 : Int32 × Int32 × Ob × Ob → Option (Int32 × Ob × Ob)) (rec_36_4 : Int32 × Int32 × Int32 × Ob × Ob → Option (Int32 × Ob × Ob)) (v1 : Int32) (v2 : Int32) (v3 : Int32) (s0 : Int32) (s1 : Int32) (o_me : Ob) (o_me_court_machine : Ob) : Option (Int32 × Ob × Ob) :=
  zgd (zin s1 640) <|
  zlt (tA o_me 4 s1.toNatClampNeg s0) fun o14 =>
  bk_X7_crownAll_76 o_me_court o_me_court_isles o_me_court_isles_now o_pool rec_30_1 rec_36_4 v1 v2 v3 o14 o_me_court_machine
def lb_X7_crownAll_36 (o_me_court : Ob) (o_me_court_isles : Ob) (o_me_court_isles_now : Ob) (o_pool : List CR) (rec_30_1 : Int32 × Int32 × Ob × Ob → Option (Int32 × Ob × Ob)) (rec_36_4 : Int32 × Int32 × Int32 × Ob × Ob → Option (Int32 × Ob × Ob)) (v1 : Int32) (v2 : Int32) (v3 : Int32) (o_me : Ob) (o_me_court_machine : Ob) : Option (Int32 × Ob × Ob) :=
  if v1 ≤ v3 then
  (zlt (v2 + (-1 : Int32)) fun x9 =>
  rec_30_1 (v1, x9, o_me, o_me_court_machine))
  else
  ((f_J6_bitCount_0f7a4 v3).bind fun z10 =>
  if v2 < z10 then
  (bk_X7_crownAll_76 o_me_court o_me_court_isles o_me_court_isles_now o_pool rec_30_1 rec_36_4 v1 v2 v3 o_me o_me_court_machine)
  else
  (if v2 = (4 : Int32) then
  (bk_X7_crownAll_75 o_me_court o_me_court_isles o_me_court_isles_now o_pool rec_30_1 rec_36_4 v1 v2 v3 (0 : Int32) ((v2 * (128 : Int32)) + v3) o_me o_me_court_machine)
  else
  ((f_X7_bestFrom o_me o_me_court_isles v2 v3).bind fun z12 =>
  bk_X7_crownAll_75 o_me_court o_me_court_isles o_me_court_isles_now o_pool rec_30_1 rec_36_4 v1 v2 v3 z12 ((v2 * (128 : Int32)) + v3) o_me o_me_court_machine)))
def lp_X7_crownAll_36 (o_me_court : Ob) (o_me_court_isles : Ob) (o_me_court_isles_now : Ob) (o_pool : List CR) (rec_30_1 : Int32 × Int32 × Ob × Ob → Option (Int32 × Ob × Ob)) : Nat → (Int32 × Int32 × Int32 × Ob × Ob) → Option (Int32 × Ob × Ob) := zit (fun rec a => lb_X7_crownAll_36 o_me_court o_me_court_isles o_me_court_isles_now o_pool rec_30_1 rec a.1 a.2.1 a.2.2.1 a.2.2.2.1 a.2.2.2.2)
def lb_X7_crownAll_30 (o_me_court : Ob) (o_me_court_isles : Ob) (o_me_court_isles_now : Ob) (o_pool : List CR)  (rec_30_1 : Int32 × Int32 × Ob × Ob → Option (Int32 × Ob × Ob)) (v1 : Int32) (v2 : Int32) (o_me : Ob) (o_me_court_machine : Ob) : Option (Int32 × Ob × Ob) :=
  if v2 < (0 : Int32) then
  (lp_X7_crownAll_92 o_me_court o_me_court_isles o_me_court_isles_now o_pool  zfu ((0 : Int32), (0 : Int32), o_me, o_me_court_machine))
  else
  (lp_X7_crownAll_36 o_me_court o_me_court_isles o_me_court_isles_now o_pool rec_30_1 zfu (v1, v2, (0 : Int32), o_me, o_me_court_machine))
def lp_X7_crownAll_30 (o_me_court : Ob) (o_me_court_isles : Ob) (o_me_court_isles_now : Ob) (o_pool : List CR)  : Nat → (Int32 × Int32 × Ob × Ob) → Option (Int32 × Ob × Ob) := zit (fun rec a => lb_X7_crownAll_30 o_me_court o_me_court_isles o_me_court_isles_now o_pool  rec a.1 a.2.1 a.2.2.1 a.2.2.2)
def lb_X7_crownAll_2 (o_me_court : Ob) (o_me_court_isles : Ob) (o_me_court_isles_now : Ob) (o_pool : List CR)  (rec_2_0 : Int32 × Ob × Ob → Option (Int32 × Ob × Ob)) (v1 : Int32) (o_me : Ob) (o_me_court_machine : Ob) : Option (Int32 × Ob × Ob) :=
  if (4 : Int32) ≤ v1 then
  (zlt ((1 : Int32) <<< ((gI o_me_court_isles 7) &&& 31)) fun x1 =>
  lp_X7_crownAll_30 o_me_court o_me_court_isles o_me_court_isles_now o_pool  zfu (x1, (4 : Int32), o_me, o_me_court_machine))
  else
  ((f_X7_setScores o_me o_me_court o_me_court_isles o_me_court_isles_now o_me_court_machine o_pool v1).bind fun z15 =>
  zlt (v1 + (1 : Int32)) fun x16 =>
  rec_2_0 (x16, z15.1, z15.2))
def lp_X7_crownAll_2 (o_me_court : Ob) (o_me_court_isles : Ob) (o_me_court_isles_now : Ob) (o_pool : List CR)  : Nat → (Int32 × Ob × Ob) → Option (Int32 × Ob × Ob) := zit (fun rec a => lb_X7_crownAll_2 o_me_court o_me_court_isles o_me_court_isles_now o_pool  rec a.1 a.2.1 a.2.2)
def f_X7_crownAll (o_me : Ob) (o_me_court : Ob) (o_me_court_isles : Ob) (o_me_court_isles_now : Ob) (o_me_court_machine : Ob) (o_pool : List CR) : Option (Int32 × Ob × Ob) :=
  lp_X7_crownAll_2 o_me_court o_me_court_isles o_me_court_isles_now o_pool  zfu ((0 : Int32), o_me, o_me_court_machine)
set_option maxHeartbeats 4000000 in
set_option maxRecDepth 100000 in
theorem m_X7_crownAll (l : Launch) (dC : Nat → ClassId) (dI : Nat → Nat → Nat) (sz : Nat) (h_me : Nat) (h_me_court : Nat) (h_me_court_isles : Nat) (h_me_court_machine : Nat) (h_me_court_isles_now : Nat) (q_me : Nat → Nat) (k_me : Nat → ClassId) (q_me_court : Nat → Nat) (k_me_court : Nat → ClassId) (q_me_court_isles : Nat → Nat) (k_me_court_isles : Nat → ClassId) (q_me_court_isles_now : Nat → Nat) (k_me_court_isles_now : Nat → ClassId) (q_me_court_machine : Nat → Nat) (k_me_court_machine : Nat → ClassId) (o_me : Ob) (o_me_court : Ob) (o_me_court_isles : Ob) (o_me_court_isles_now : Ob) (o_me_court_machine : Ob) (o_pool : List CR) (y : Int32 × Ob × Ob) (h : f_X7_crownAll o_me o_me_court o_me_court_isles o_me_court_isles_now o_me_court_machine o_pool = some y) : CI l yX7_crownAll cX7_crownAll 4 (some .int) ({ frames := 5, cells := 0, slots := 0, locals := 132 } : Room) dC dI sz [.ref h_me] [wX7 h_me h_me_court h_me_court_isles q_me k_me o_me, wX1 h_me_court h_me_court_isles h_me_court_machine q_me_court k_me_court o_me_court, wX2 h_me_court_isles h_me_court_isles_now q_me_court_isles k_me_court_isles o_me_court_isles, wX4 h_me_court_isles_now q_me_court_isles_now k_me_court_isles_now o_me_court_isles_now, wX3 h_me_court_machine q_me_court_machine k_me_court_machine o_me_court_machine, wPL o_pool] [tX7 k_me, tX1 k_me_court, tX2 k_me_court_isles, tX4 k_me_court_isles_now, tX3 k_me_court_machine, tPL o_pool] y.1 [wX7 h_me h_me_court h_me_court_isles q_me k_me y.2.1, wX1 h_me_court h_me_court_isles h_me_court_machine q_me_court k_me_court o_me_court, wX2 h_me_court_isles h_me_court_isles_now q_me_court_isles k_me_court_isles o_me_court_isles, wX4 h_me_court_isles_now q_me_court_isles_now k_me_court_isles_now o_me_court_isles_now, wX3 h_me_court_machine q_me_court_machine k_me_court_machine y.2.2, wPL o_pool] := by
  refine CC_of (by decide) (Nat.le_of_ble_eq_true rfl) ?_
  intro p e s m below meth c A ls hx hb hml hr hlk hnm hown hts hX hK hP hD hA hl
  have hl : lv_has ls 4 [(0, .ref h_me)] := hl
  have hown : s.vm.findClass RX7 = some m.cls := hown
  have hw : Wd dC dI A s.heap [wX7 h_me h_me_court h_me_court_isles q_me k_me o_me, wX1 h_me_court h_me_court_isles h_me_court_machine q_me_court k_me_court o_me_court, wX2 h_me_court_isles h_me_court_isles_now q_me_court_isles k_me_court_isles o_me_court_isles, wX4 h_me_court_isles_now q_me_court_isles_now k_me_court_isles_now o_me_court_isles_now, wX3 h_me_court_machine q_me_court_machine k_me_court_machine o_me_court_machine, wPL o_pool] s.heap [] := ⟨hP, hD, va_S.rf⟩
  generalize hQz : (MQ below (QI dC dI (fun r (_ : Unit) => r = y.1) (fun _ => Jn [wX7 h_me h_me_court h_me_court_isles q_me k_me y.2.1, wX1 h_me_court h_me_court_isles h_me_court_machine q_me_court k_me_court o_me_court, wX2 h_me_court_isles h_me_court_isles_now q_me_court_isles k_me_court_isles o_me_court_isles, wX4 h_me_court_isles_now q_me_court_isles_now k_me_court_isles_now o_me_court_isles_now, wX3 h_me_court_machine q_me_court_machine k_me_court_machine y.2.2, wPL o_pool]) (fun _ => Jt [tX7 k_me, tX1 k_me_court, tX2 k_me_court_isles, tX4 k_me_court_isles_now, tX3 k_me_court_machine, tPL o_pool]) A) ([.ref h_me] : List Value).toArray s 0 0 A) = Qz
  clear hP hD hnm
  have bk_133_3 : ∀ (rec_92_2 : Int32 × Int32 × Ob × Ob → Option (Int32 × Ob × Ob)) (hrec_92_2 : ∀ (v2 : Int32) (v3 : Int32) (o_me : Ob) (o_me_court_machine : Ob) (H : Heap) (locs : List Loc) (ls : Array Slot), rec_92_2 (v2, v3, o_me, o_me_court_machine) = some y → Wd dC dI A s.heap [wX7 h_me h_me_court h_me_court_isles q_me k_me o_me, wX1 h_me_court h_me_court_isles h_me_court_machine q_me_court k_me_court o_me_court, wX2 h_me_court_isles h_me_court_isles_now q_me_court_isles k_me_court_isles o_me_court_isles, wX4 h_me_court_isles_now q_me_court_isles_now k_me_court_isles_now o_me_court_isles_now, wX3 h_me_court_machine q_me_court_machine k_me_court_machine o_me_court_machine, wPL o_pool] H locs → lv_has ls 4 [(0, .ref h_me), (2, .int v2), (3, .int v3)] → W p l e ({ frames := 5, cells := 0, slots := 0, locals := 132 } : Room) s m ([.ref h_me] : List Value).toArray below meth c H locs 0 0 Qz (F0 m 92 ls [])), ∀ (v3 : Int32) (s0 : Int32) (s1 : Int32) (o_me : Ob) (o_me_court_machine : Ob) (H : Heap) (locs : List Loc) (ls : Array Slot), bk_X7_crownAll_133 o_me_court o_me_court_isles o_me_court_isles_now o_pool rec_92_2 v3 s0 s1 o_me o_me_court_machine = some y → Wd dC dI A s.heap [wX7 h_me h_me_court h_me_court_isles q_me k_me o_me, wX1 h_me_court h_me_court_isles h_me_court_machine q_me_court k_me_court o_me_court, wX2 h_me_court_isles h_me_court_isles_now q_me_court_isles k_me_court_isles o_me_court_isles, wX4 h_me_court_isles_now q_me_court_isles_now k_me_court_isles_now o_me_court_isles_now, wX3 h_me_court_machine q_me_court_machine k_me_court_machine o_me_court_machine, wPL o_pool] H locs → lv_has ls 4 [(0, .ref h_me), (3, .int v3)] → W p l e ({ frames := 5, cells := 0, slots := 0, locals := 132 } : Room) s m ([.ref h_me] : List Value).toArray below meth c H locs 0 0 Qz (F0 m 133 ls [.int s0, .int s1]) := by
    intro rec_92_2 hrec_92_2
    intro v3 s0 s1 o_me o_me_court_machine H locs ls h hw hl
    unfold bk_X7_crownAll_133 at h
    refine lv_ior hx hb dX7_crownAll_133 ?_
    obtain ⟨x7, ex7, h⟩ := z_lt h
    refine lv_fi (v := x7) ex7.symm ?_
    refine lv_istore_n (lv' := [(2, .int x7), (0, .ref h_me), (3, .int v3)]) hx hb dX7_crownAll_134 rfl hl (by decide) rfl (fun ls hl => ?_)
    obtain ⟨x8, ex8, h⟩ := z_lt h
    refine lv_iinc (v := x8) (lv' := [(3, .int x8), (2, .int x7), (0, .ref h_me)]) hx hb dX7_crownAll_135 hl (k := 2) rfl ((congrArg (v3 + ·) (show Int32.ofInt 1 = (1 : Int32) from by decide)).trans ex8.symm) (by decide) rfl (fun ls hl => ?_)
    refine lv_goto (tgt := 92) hx hb dX7_crownAll_138 (by decide) ?_
    exact hrec_92_2 x7 x8 o_me o_me_court_machine _ _ _ h hw (lv_sub hl [2, 1, 0] rfl)
  have lp_92_2 : ∀ (N : Nat), ∀ (v2 : Int32) (v3 : Int32) (o_me : Ob) (o_me_court_machine : Ob) (H : Heap) (locs : List Loc) (ls : Array Slot), lp_X7_crownAll_92 o_me_court o_me_court_isles o_me_court_isles_now o_pool  N (v2, v3, o_me, o_me_court_machine) = some y → Wd dC dI A s.heap [wX7 h_me h_me_court h_me_court_isles q_me k_me o_me, wX1 h_me_court h_me_court_isles h_me_court_machine q_me_court k_me_court o_me_court, wX2 h_me_court_isles h_me_court_isles_now q_me_court_isles k_me_court_isles o_me_court_isles, wX4 h_me_court_isles_now q_me_court_isles_now k_me_court_isles_now o_me_court_isles_now, wX3 h_me_court_machine q_me_court_machine k_me_court_machine o_me_court_machine, wPL o_pool] H locs → lv_has ls 4 [(0, .ref h_me), (2, .int v2), (3, .int v3)] → W p l e ({ frames := 5, cells := 0, slots := 0, locals := 132 } : Room) s m ([.ref h_me] : List Value).toArray below meth c H locs 0 0 Qz (F0 m 92 ls []) := by
    intro N
    induction N with
    | zero =>
      intro v2 v3 o_me o_me_court_machine H locs ls h hw hl
      exact absurd (show (none : Option (Int32 × Ob × Ob)) = some y from h) (by simp)
    | succ N ih =>
      intro v2 v3 o_me o_me_court_machine H locs ls h hw hl
      have h : lb_X7_crownAll_92 o_me_court o_me_court_isles o_me_court_isles_now o_pool  (lp_X7_crownAll_92 o_me_court o_me_court_isles o_me_court_isles_now o_pool  N) v2 v3 o_me o_me_court_machine = some y := h
      unfold lb_X7_crownAll_92 at h
      refine lv_iload_n hx hb dX7_crownAll_92 rfl (lv_at hl 2 rfl) ?_
      refine lv_iconst (v := 4) hx hb dX7_crownAll_93 (by decide) ?_
      refine lv_icmp_ge (tgt := 141) hx hb dX7_crownAll_94 (by decide) (fun c => ?_) (fun c => ?_)
      · have h := z_t h c
        refine lv_aload_n hx hb dX7_crownAll_141 rfl (lv_at hl 0 rfl) ?_
        refine fgX7_4 hx hb hts hown hK hw 0 rfl kw391 dX7_crownAll_142 ?_
        refine lv_iconst (v := 0) hx hb dX7_crownAll_145 (by decide) ?_
        refine faX7_4 hx hb hK hw 0 rfl rfl (by decide) dX7_crownAll_146 ?_
        have hy := Option.some.inj h
        rw [← hQz, ← hy]
        exact xr_i (v := gA o_me 4 (0 : Int32).toNatClampNeg) hx hb hr rfl hlk hK hw dX7_crownAll_147
      · have h := z_f h c
        refine lv_aload_n hx hb dX7_crownAll_97 rfl (lv_at hl 0 rfl) ?_
        refine fgX7_2 hx hb hts hown hK hw 0 rfl kw388 dX7_crownAll_98 ?_
        refine lv_iload_n hx hb dX7_crownAll_101 rfl (lv_at hl 2 rfl) ?_
        refine lv_aload_n hx hb dX7_crownAll_102 rfl (lv_at hl 0 rfl) ?_
        refine lv_iload_n hx hb dX7_crownAll_103 rfl (lv_at hl 2 rfl) ?_
        refine lv_iload_n hx hb dX7_crownAll_104 rfl (lv_at hl 1 rfl) ?_
        obtain ⟨z2, ez2, h⟩ := z_bd h
        refine xj_i (xrV (As := [.int v3, .int v2]) (rest := [.int v3, .ref (q_me 2)]) ⟨hx, hb, hml, hown, hts⟩ (m_X7_firstCrowned l dC dI _ h_me h_me_court h_me_court_isles h_me_court_isles_now q_me k_me q_me_court_isles k_me_court_isles o_me o_me_court_isles v3 v2 z2 ez2) kw1057 kw1054 kw1056 kw36 kw118 hd_X7_firstCrowned ⟨rfl, rfl⟩ rfl rfl ⟨rfl, rfl⟩ hX hK hw [0, 2] (by decide) rfl rfl rfl rfl rfl hl.1 rfl rfl dX7_crownAll_105) hw hA [0, 2] (by decide) rfl rfl (fun H locs hw => ?_)
        have hw : Wd dC dI A s.heap [wX7 h_me h_me_court h_me_court_isles q_me k_me o_me, wX1 h_me_court h_me_court_isles h_me_court_machine q_me_court k_me_court o_me_court, wX2 h_me_court_isles h_me_court_isles_now q_me_court_isles k_me_court_isles o_me_court_isles, wX4 h_me_court_isles_now q_me_court_isles_now k_me_court_isles_now o_me_court_isles_now, wX3 h_me_court_machine q_me_court_machine k_me_court_machine o_me_court_machine, wPL o_pool] H locs := hw
        obtain ⟨g3, h⟩ := z_gd h
        refine fbX7_2 hx hb hK hw 0 rfl rfl g3 dX7_crownAll_108 (fun H locs hw => ?_)
        obtain ⟨o4, eo4, h⟩ := z_lt h
        have hw : Wd dC dI A s.heap [wX7 h_me h_me_court h_me_court_isles q_me k_me o4, wX1 h_me_court h_me_court_isles h_me_court_machine q_me_court k_me_court o_me_court, wX2 h_me_court_isles h_me_court_isles_now q_me_court_isles k_me_court_isles o_me_court_isles, wX4 h_me_court_isles_now q_me_court_isles_now k_me_court_isles_now o_me_court_isles_now, wX3 h_me_court_machine q_me_court_machine k_me_court_machine o_me_court_machine, wPL o_pool] H locs := by rw [eo4]; exact hw
        refine lv_iload_n hx hb dX7_crownAll_109 rfl (lv_at hl 1 rfl) ?_
        refine lv_aload_n hx hb dX7_crownAll_110 rfl (lv_at hl 0 rfl) ?_
        refine fgX7_2 hx hb hts hown hK hw 0 rfl kw388 dX7_crownAll_111 ?_
        refine lv_iload_n hx hb dX7_crownAll_114 rfl (lv_at hl 2 rfl) ?_
        obtain ⟨g5, h⟩ := z_gd h
        refine faX7_2 hx hb hK hw 0 rfl rfl g5 dX7_crownAll_115 ?_
        refine lv_bipush (v := 7) hx hb dX7_crownAll_116 (by decide) ?_
        refine lv_icmp_ne (tgt := 125) hx hb dX7_crownAll_118 (by decide) (fun c => ?_) (fun c => ?_)
        · have h := z_f h c
          refine lv_iconst (v := 1) hx hb dX7_crownAll_125 (by decide) ?_
          refine lv_aload_n hx hb dX7_crownAll_126 rfl (lv_at hl 0 rfl) ?_
          refine fgX7_2 hx hb hts hown hK hw 0 rfl kw388 dX7_crownAll_127 ?_
          refine lv_iload_n hx hb dX7_crownAll_130 rfl (lv_at hl 2 rfl) ?_
          obtain ⟨g6, h⟩ := z_gd h
          refine faX7_2 hx hb hK hw 0 rfl rfl g6 dX7_crownAll_131 ?_
          refine lv_ishl hx hb dX7_crownAll_132 ?_
          exact bk_133_3 (lp_X7_crownAll_92 o_me_court o_me_court_isles o_me_court_isles_now o_pool  N) ih v3 ((1 : Int32) <<< ((gA o4 2 v3.toNatClampNeg) &&& 31)) v2 o4 o_me_court_machine _ _ _ h hw (lv_sub hl [0, 2] rfl)
        · have h := z_t h c
          refine lv_iconst (v := 0) hx hb dX7_crownAll_121 (by decide) ?_
          refine lv_goto (tgt := 133) hx hb dX7_crownAll_122 (by decide) ?_
          exact bk_133_3 (lp_X7_crownAll_92 o_me_court o_me_court_isles o_me_court_isles_now o_pool  N) ih v3 (0 : Int32) v2 o4 o_me_court_machine _ _ _ h hw (lv_sub hl [0, 2] rfl)
  have bk_76_5 : ∀ (rec_30_1 : Int32 × Int32 × Ob × Ob → Option (Int32 × Ob × Ob)) (hrec_30_1 : ∀ (v1 : Int32) (v2 : Int32) (o_me : Ob) (o_me_court_machine : Ob) (H : Heap) (locs : List Loc) (ls : Array Slot), rec_30_1 (v1, v2, o_me, o_me_court_machine) = some y → Wd dC dI A s.heap [wX7 h_me h_me_court h_me_court_isles q_me k_me o_me, wX1 h_me_court h_me_court_isles h_me_court_machine q_me_court k_me_court o_me_court, wX2 h_me_court_isles h_me_court_isles_now q_me_court_isles k_me_court_isles o_me_court_isles, wX4 h_me_court_isles_now q_me_court_isles_now k_me_court_isles_now o_me_court_isles_now, wX3 h_me_court_machine q_me_court_machine k_me_court_machine o_me_court_machine, wPL o_pool] H locs → lv_has ls 4 [(0, .ref h_me), (1, .int v1), (2, .int v2)] → W p l e ({ frames := 5, cells := 0, slots := 0, locals := 132 } : Room) s m ([.ref h_me] : List Value).toArray below meth c H locs 0 0 Qz (F0 m 30 ls [])) (rec_36_4 : Int32 × Int32 × Int32 × Ob × Ob → Option (Int32 × Ob × Ob)) (hrec_36_4 : ∀ (v1 : Int32) (v2 : Int32) (v3 : Int32) (o_me : Ob) (o_me_court_machine : Ob) (H : Heap) (locs : List Loc) (ls : Array Slot), rec_36_4 (v1, v2, v3, o_me, o_me_court_machine) = some y → Wd dC dI A s.heap [wX7 h_me h_me_court h_me_court_isles q_me k_me o_me, wX1 h_me_court h_me_court_isles h_me_court_machine q_me_court k_me_court o_me_court, wX2 h_me_court_isles h_me_court_isles_now q_me_court_isles k_me_court_isles o_me_court_isles, wX4 h_me_court_isles_now q_me_court_isles_now k_me_court_isles_now o_me_court_isles_now, wX3 h_me_court_machine q_me_court_machine k_me_court_machine o_me_court_machine, wPL o_pool] H locs → lv_has ls 4 [(0, .ref h_me), (1, .int v1), (2, .int v2), (3, .int v3)] → W p l e ({ frames := 5, cells := 0, slots := 0, locals := 132 } : Room) s m ([.ref h_me] : List Value).toArray below meth c H locs 0 0 Qz (F0 m 36 ls [])), ∀ (v1 : Int32) (v2 : Int32) (v3 : Int32) (o_me : Ob) (o_me_court_machine : Ob) (H : Heap) (locs : List Loc) (ls : Array Slot), bk_X7_crownAll_76 o_me_court o_me_court_isles o_me_court_isles_now o_pool rec_30_1 rec_36_4 v1 v2 v3 o_me o_me_court_machine = some y → Wd dC dI A s.heap [wX7 h_me h_me_court h_me_court_isles q_me k_me o_me, wX1 h_me_court h_me_court_isles h_me_court_machine q_me_court k_me_court o_me_court, wX2 h_me_court_isles h_me_court_isles_now q_me_court_isles k_me_court_isles o_me_court_isles, wX4 h_me_court_isles_now q_me_court_isles_now k_me_court_isles_now o_me_court_isles_now, wX3 h_me_court_machine q_me_court_machine k_me_court_machine o_me_court_machine, wPL o_pool] H locs → lv_has ls 4 [(0, .ref h_me), (1, .int v1), (2, .int v2), (3, .int v3)] → W p l e ({ frames := 5, cells := 0, slots := 0, locals := 132 } : Room) s m ([.ref h_me] : List Value).toArray below meth c H locs 0 0 Qz (F0 m 76 ls []) := by
    intro rec_30_1 hrec_30_1 rec_36_4 hrec_36_4
    intro v1 v2 v3 o_me o_me_court_machine H locs ls h hw hl
    unfold bk_X7_crownAll_76 at h
    obtain ⟨x11, ex11, h⟩ := z_lt h
    refine lv_iinc (v := x11) (lv' := [(3, .int x11), (0, .ref h_me), (1, .int v1), (2, .int v2)]) hx hb dX7_crownAll_76 hl (k := 3) rfl ((congrArg (v3 + ·) (show Int32.ofInt 1 = (1 : Int32) from by decide)).trans ex11.symm) (by decide) rfl (fun ls hl => ?_)
    refine lv_goto (tgt := 36) hx hb dX7_crownAll_79 (by decide) ?_
    exact hrec_36_4 v1 v2 x11 o_me o_me_court_machine _ _ _ h hw (lv_sub hl [1, 2, 3, 0] rfl)
  have bk_75_6 : ∀ (rec_30_1 : Int32 × Int32 × Ob × Ob → Option (Int32 × Ob × Ob)) (hrec_30_1 : ∀ (v1 : Int32) (v2 : Int32) (o_me : Ob) (o_me_court_machine : Ob) (H : Heap) (locs : List Loc) (ls : Array Slot), rec_30_1 (v1, v2, o_me, o_me_court_machine) = some y → Wd dC dI A s.heap [wX7 h_me h_me_court h_me_court_isles q_me k_me o_me, wX1 h_me_court h_me_court_isles h_me_court_machine q_me_court k_me_court o_me_court, wX2 h_me_court_isles h_me_court_isles_now q_me_court_isles k_me_court_isles o_me_court_isles, wX4 h_me_court_isles_now q_me_court_isles_now k_me_court_isles_now o_me_court_isles_now, wX3 h_me_court_machine q_me_court_machine k_me_court_machine o_me_court_machine, wPL o_pool] H locs → lv_has ls 4 [(0, .ref h_me), (1, .int v1), (2, .int v2)] → W p l e ({ frames := 5, cells := 0, slots := 0, locals := 132 } : Room) s m ([.ref h_me] : List Value).toArray below meth c H locs 0 0 Qz (F0 m 30 ls [])) (rec_36_4 : Int32 × Int32 × Int32 × Ob × Ob → Option (Int32 × Ob × Ob)) (hrec_36_4 : ∀ (v1 : Int32) (v2 : Int32) (v3 : Int32) (o_me : Ob) (o_me_court_machine : Ob) (H : Heap) (locs : List Loc) (ls : Array Slot), rec_36_4 (v1, v2, v3, o_me, o_me_court_machine) = some y → Wd dC dI A s.heap [wX7 h_me h_me_court h_me_court_isles q_me k_me o_me, wX1 h_me_court h_me_court_isles h_me_court_machine q_me_court k_me_court o_me_court, wX2 h_me_court_isles h_me_court_isles_now q_me_court_isles k_me_court_isles o_me_court_isles, wX4 h_me_court_isles_now q_me_court_isles_now k_me_court_isles_now o_me_court_isles_now, wX3 h_me_court_machine q_me_court_machine k_me_court_machine o_me_court_machine, wPL o_pool] H locs → lv_has ls 4 [(0, .ref h_me), (1, .int v1), (2, .int v2), (3, .int v3)] → W p l e ({ frames := 5, cells := 0, slots := 0, locals := 132 } : Room) s m ([.ref h_me] : List Value).toArray below meth c H locs 0 0 Qz (F0 m 36 ls [])), ∀ (v1 : Int32) (v2 : Int32) (v3 : Int32) (s0 : Int32) (s1 : Int32) (o_me : Ob) (o_me_court_machine : Ob) (H : Heap) (locs : List Loc) (ls : Array Slot), bk_X7_crownAll_75 o_me_court o_me_court_isles o_me_court_isles_now o_pool rec_30_1 rec_36_4 v1 v2 v3 s0 s1 o_me o_me_court_machine = some y → Wd dC dI A s.heap [wX7 h_me h_me_court h_me_court_isles q_me k_me o_me, wX1 h_me_court h_me_court_isles h_me_court_machine q_me_court k_me_court o_me_court, wX2 h_me_court_isles h_me_court_isles_now q_me_court_isles k_me_court_isles o_me_court_isles, wX4 h_me_court_isles_now q_me_court_isles_now k_me_court_isles_now o_me_court_isles_now, wX3 h_me_court_machine q_me_court_machine k_me_court_machine o_me_court_machine, wPL o_pool] H locs → lv_has ls 4 [(0, .ref h_me), (1, .int v1), (2, .int v2), (3, .int v3)] → W p l e ({ frames := 5, cells := 0, slots := 0, locals := 132 } : Room) s m ([.ref h_me] : List Value).toArray below meth c H locs 0 0 Qz (F0 m 75 ls [.int s0, .int s1, .ref (q_me 4)]) := by
    intro rec_30_1 hrec_30_1 rec_36_4 hrec_36_4
    intro v1 v2 v3 s0 s1 o_me o_me_court_machine H locs ls h hw hl
    unfold bk_X7_crownAll_75 at h
    obtain ⟨g13, h⟩ := z_gd h
    refine fbX7_4 hx hb hK hw 0 rfl rfl g13 dX7_crownAll_75 (fun H locs hw => ?_)
    obtain ⟨o14, eo14, h⟩ := z_lt h
    have hw : Wd dC dI A s.heap [wX7 h_me h_me_court h_me_court_isles q_me k_me o14, wX1 h_me_court h_me_court_isles h_me_court_machine q_me_court k_me_court o_me_court, wX2 h_me_court_isles h_me_court_isles_now q_me_court_isles k_me_court_isles o_me_court_isles, wX4 h_me_court_isles_now q_me_court_isles_now k_me_court_isles_now o_me_court_isles_now, wX3 h_me_court_machine q_me_court_machine k_me_court_machine o_me_court_machine, wPL o_pool] H locs := by rw [eo14]; exact hw
    exact bk_76_5 rec_30_1 hrec_30_1 rec_36_4 hrec_36_4 v1 v2 v3 o14 o_me_court_machine _ _ _ h hw (lv_sub hl [0, 1, 2, 3] rfl)
  have lp_36_4 : ∀ (rec_30_1 : Int32 × Int32 × Ob × Ob → Option (Int32 × Ob × Ob)) (hrec_30_1 : ∀ (v1 : Int32) (v2 : Int32) (o_me : Ob) (o_me_court_machine : Ob) (H : Heap) (locs : List Loc) (ls : Array Slot), rec_30_1 (v1, v2, o_me, o_me_court_machine) = some y → Wd dC dI A s.heap [wX7 h_me h_me_court h_me_court_isles q_me k_me o_me, wX1 h_me_court h_me_court_isles h_me_court_machine q_me_court k_me_court o_me_court, wX2 h_me_court_isles h_me_court_isles_now q_me_court_isles k_me_court_isles o_me_court_isles, wX4 h_me_court_isles_now q_me_court_isles_now k_me_court_isles_now o_me_court_isles_now, wX3 h_me_court_machine q_me_court_machine k_me_court_machine o_me_court_machine, wPL o_pool] H locs → lv_has ls 4 [(0, .ref h_me), (1, .int v1), (2, .int v2)] → W p l e ({ frames := 5, cells := 0, slots := 0, locals := 132 } : Room) s m ([.ref h_me] : List Value).toArray below meth c H locs 0 0 Qz (F0 m 30 ls [])) (N : Nat), ∀ (v1 : Int32) (v2 : Int32) (v3 : Int32) (o_me : Ob) (o_me_court_machine : Ob) (H : Heap) (locs : List Loc) (ls : Array Slot), lp_X7_crownAll_36 o_me_court o_me_court_isles o_me_court_isles_now o_pool rec_30_1 N (v1, v2, v3, o_me, o_me_court_machine) = some y → Wd dC dI A s.heap [wX7 h_me h_me_court h_me_court_isles q_me k_me o_me, wX1 h_me_court h_me_court_isles h_me_court_machine q_me_court k_me_court o_me_court, wX2 h_me_court_isles h_me_court_isles_now q_me_court_isles k_me_court_isles o_me_court_isles, wX4 h_me_court_isles_now q_me_court_isles_now k_me_court_isles_now o_me_court_isles_now, wX3 h_me_court_machine q_me_court_machine k_me_court_machine o_me_court_machine, wPL o_pool] H locs → lv_has ls 4 [(0, .ref h_me), (1, .int v1), (2, .int v2), (3, .int v3)] → W p l e ({ frames := 5, cells := 0, slots := 0, locals := 132 } : Room) s m ([.ref h_me] : List Value).toArray below meth c H locs 0 0 Qz (F0 m 36 ls []) := by
    intro rec_30_1 hrec_30_1
    intro N
    induction N with
    | zero =>
      intro v1 v2 v3 o_me o_me_court_machine H locs ls h hw hl
      exact absurd (show (none : Option (Int32 × Ob × Ob)) = some y from h) (by simp)
    | succ N ih =>
      intro v1 v2 v3 o_me o_me_court_machine H locs ls h hw hl
      have h : lb_X7_crownAll_36 o_me_court o_me_court_isles o_me_court_isles_now o_pool rec_30_1 (lp_X7_crownAll_36 o_me_court o_me_court_isles o_me_court_isles_now o_pool rec_30_1 N) v1 v2 v3 o_me o_me_court_machine = some y := h
      unfold lb_X7_crownAll_36 at h
      refine lv_iload_n hx hb dX7_crownAll_36 rfl (lv_at hl 3 rfl) ?_
      refine lv_iload_n hx hb dX7_crownAll_37 rfl (lv_at hl 1 rfl) ?_
      refine lv_icmp_ge (tgt := 82) hx hb dX7_crownAll_38 (by decide) (fun c => ?_) (fun c => ?_)
      · have h := z_t h c
        obtain ⟨x9, ex9, h⟩ := z_lt h
        refine lv_iinc (v := x9) (lv' := [(2, .int x9), (0, .ref h_me), (1, .int v1), (3, .int v3)]) hx hb dX7_crownAll_82 hl (k := 2) rfl ((congrArg (v2 + ·) (show Int32.ofInt (-1) = (-1 : Int32) from by decide)).trans ex9.symm) (by decide) rfl (fun ls hl => ?_)
        refine lv_goto (tgt := 30) hx hb dX7_crownAll_85 (by decide) ?_
        exact hrec_30_1 v1 x9 o_me o_me_court_machine _ _ _ h hw (lv_sub hl [1, 2, 0] rfl)
      · have h := z_f h c
        refine lv_iload_n hx hb dX7_crownAll_41 rfl (lv_at hl 3 rfl) ?_
        obtain ⟨z10, ez10, h⟩ := z_bd h
        refine xj_i (xrS (As := [.int v3]) (rest := []) ⟨hx, hb, hml, hown, hts⟩ (m_J6_bitCount_0f7a4 l dC dI _  v3 z10 ez10) kw842 kw962 kw841 kw126 hd_J6_bitCount_0f7a4 ⟨rfl, rfl⟩ rfl rfl ⟨rfl, rfl⟩ hX hK hw [] (by decide) rfl rfl hl.1 rfl rfl dX7_crownAll_42) hw hA [] (by decide) rfl rfl (fun H locs hw => ?_)
        refine lv_iload_n hx hb dX7_crownAll_45 rfl (lv_at hl 2 rfl) ?_
        refine lv_icmp_gt (tgt := 76) hx hb dX7_crownAll_46 (by decide) (fun c => ?_) (fun c => ?_)
        · have h := z_t h c
          exact bk_76_5 rec_30_1 hrec_30_1 (lp_X7_crownAll_36 o_me_court o_me_court_isles o_me_court_isles_now o_pool rec_30_1 N) ih v1 v2 v3 o_me o_me_court_machine _ _ _ h hw (lv_sub hl [0, 1, 2, 3] rfl)
        · have h := z_f h c
          refine lv_aload_n hx hb dX7_crownAll_49 rfl (lv_at hl 0 rfl) ?_
          refine fgX7_4 hx hb hts hown hK hw 0 rfl kw391 dX7_crownAll_50 ?_
          refine lv_iload_n hx hb dX7_crownAll_53 rfl (lv_at hl 2 rfl) ?_
          refine lv_sipush (v := 128) hx hb dX7_crownAll_54 (by decide) ?_
          refine lv_imul hx hb dX7_crownAll_57 ?_
          refine lv_iload_n hx hb dX7_crownAll_58 rfl (lv_at hl 3 rfl) ?_
          refine lv_iadd hx hb dX7_crownAll_59 ?_
          refine lv_iload_n hx hb dX7_crownAll_60 rfl (lv_at hl 2 rfl) ?_
          refine lv_iconst (v := 4) hx hb dX7_crownAll_61 (by decide) ?_
          refine lv_icmp_ne (tgt := 69) hx hb dX7_crownAll_62 (by decide) (fun c => ?_) (fun c => ?_)
          · have h := z_f h c
            refine lv_aload_n hx hb dX7_crownAll_69 rfl (lv_at hl 0 rfl) ?_
            refine lv_iload_n hx hb dX7_crownAll_70 rfl (lv_at hl 2 rfl) ?_
            refine lv_iload_n hx hb dX7_crownAll_71 rfl (lv_at hl 3 rfl) ?_
            obtain ⟨z12, ez12, h⟩ := z_bd h
            refine xj_i (xrV (As := [.int v2, .int v3]) (rest := [.int ((v2 * (128 : Int32)) + v3), .ref (q_me 4)]) ⟨hx, hb, hml, hown, hts⟩ (m_X7_bestFrom l dC dI _ h_me h_me_court h_me_court_isles h_me_court_isles_now q_me k_me q_me_court_isles k_me_court_isles o_me o_me_court_isles v2 v3 z12 ez12) kw1049 kw1046 kw1048 kw34 kw118 hd_X7_bestFrom ⟨rfl, rfl⟩ rfl rfl ⟨rfl, rfl⟩ hX hK hw [0, 2] (by decide) rfl rfl rfl rfl rfl hl.1 rfl rfl dX7_crownAll_72) hw hA [0, 2] (by decide) rfl rfl (fun H locs hw => ?_)
            have hw : Wd dC dI A s.heap [wX7 h_me h_me_court h_me_court_isles q_me k_me o_me, wX1 h_me_court h_me_court_isles h_me_court_machine q_me_court k_me_court o_me_court, wX2 h_me_court_isles h_me_court_isles_now q_me_court_isles k_me_court_isles o_me_court_isles, wX4 h_me_court_isles_now q_me_court_isles_now k_me_court_isles_now o_me_court_isles_now, wX3 h_me_court_machine q_me_court_machine k_me_court_machine o_me_court_machine, wPL o_pool] H locs := hw
            exact bk_75_6 rec_30_1 hrec_30_1 (lp_X7_crownAll_36 o_me_court o_me_court_isles o_me_court_isles_now o_pool rec_30_1 N) ih v1 v2 v3 z12 ((v2 * (128 : Int32)) + v3) o_me o_me_court_machine _ _ _ h hw (lv_sub hl [0, 1, 2, 3] rfl)
          · have h := z_t h c
            refine lv_iconst (v := 0) hx hb dX7_crownAll_65 (by decide) ?_
            refine lv_goto (tgt := 75) hx hb dX7_crownAll_66 (by decide) ?_
            exact bk_75_6 rec_30_1 hrec_30_1 (lp_X7_crownAll_36 o_me_court o_me_court_isles o_me_court_isles_now o_pool rec_30_1 N) ih v1 v2 v3 (0 : Int32) ((v2 * (128 : Int32)) + v3) o_me o_me_court_machine _ _ _ h hw (lv_sub hl [0, 1, 2, 3] rfl)
  have lp_30_1 : ∀ (N : Nat), ∀ (v1 : Int32) (v2 : Int32) (o_me : Ob) (o_me_court_machine : Ob) (H : Heap) (locs : List Loc) (ls : Array Slot), lp_X7_crownAll_30 o_me_court o_me_court_isles o_me_court_isles_now o_pool  N (v1, v2, o_me, o_me_court_machine) = some y → Wd dC dI A s.heap [wX7 h_me h_me_court h_me_court_isles q_me k_me o_me, wX1 h_me_court h_me_court_isles h_me_court_machine q_me_court k_me_court o_me_court, wX2 h_me_court_isles h_me_court_isles_now q_me_court_isles k_me_court_isles o_me_court_isles, wX4 h_me_court_isles_now q_me_court_isles_now k_me_court_isles_now o_me_court_isles_now, wX3 h_me_court_machine q_me_court_machine k_me_court_machine o_me_court_machine, wPL o_pool] H locs → lv_has ls 4 [(0, .ref h_me), (1, .int v1), (2, .int v2)] → W p l e ({ frames := 5, cells := 0, slots := 0, locals := 132 } : Room) s m ([.ref h_me] : List Value).toArray below meth c H locs 0 0 Qz (F0 m 30 ls []) := by
    intro N
    induction N with
    | zero =>
      intro v1 v2 o_me o_me_court_machine H locs ls h hw hl
      exact absurd (show (none : Option (Int32 × Ob × Ob)) = some y from h) (by simp)
    | succ N ih =>
      intro v1 v2 o_me o_me_court_machine H locs ls h hw hl
      have h : lb_X7_crownAll_30 o_me_court o_me_court_isles o_me_court_isles_now o_pool  (lp_X7_crownAll_30 o_me_court o_me_court_isles o_me_court_isles_now o_pool  N) v1 v2 o_me o_me_court_machine = some y := h
      unfold lb_X7_crownAll_30 at h
      refine lv_iload_n hx hb dX7_crownAll_30 rfl (lv_at hl 2 rfl) ?_
      refine lv_if_lt (tgt := 88) hx hb dX7_crownAll_31 (by decide) (fun c => ?_) (fun c => ?_)
      · have h := z_t h c
        refine lv_iconst (v := 0) hx hb dX7_crownAll_88 (by decide) ?_
        refine lv_istore_n (lv' := [(2, .int (0 : Int32)), (0, .ref h_me), (1, .int v1)]) hx hb dX7_crownAll_89 rfl hl (by decide) rfl (fun ls hl => ?_)
        refine lv_iconst (v := 0) hx hb dX7_crownAll_90 (by decide) ?_
        refine lv_istore_n (lv' := [(3, .int (0 : Int32)), (2, .int (0 : Int32)), (0, .ref h_me), (1, .int v1)]) hx hb dX7_crownAll_91 rfl hl (by decide) rfl (fun ls hl => ?_)
        exact lp_92_2  zfu (0 : Int32) (0 : Int32) o_me o_me_court_machine _ _ _ h hw (lv_sub hl [2, 1, 0] rfl)
      · have h := z_f h c
        refine lv_iconst (v := 0) hx hb dX7_crownAll_34 (by decide) ?_
        refine lv_istore_n (lv' := [(3, .int (0 : Int32)), (0, .ref h_me), (1, .int v1), (2, .int v2)]) hx hb dX7_crownAll_35 rfl hl (by decide) rfl (fun ls hl => ?_)
        exact lp_36_4 (lp_X7_crownAll_30 o_me_court o_me_court_isles o_me_court_isles_now o_pool  N) ih zfu v1 v2 (0 : Int32) o_me o_me_court_machine _ _ _ h hw (lv_sub hl [1, 2, 3, 0] rfl)
  have lp_2_0 : ∀ (N : Nat), ∀ (v1 : Int32) (o_me : Ob) (o_me_court_machine : Ob) (H : Heap) (locs : List Loc) (ls : Array Slot), lp_X7_crownAll_2 o_me_court o_me_court_isles o_me_court_isles_now o_pool  N (v1, o_me, o_me_court_machine) = some y → Wd dC dI A s.heap [wX7 h_me h_me_court h_me_court_isles q_me k_me o_me, wX1 h_me_court h_me_court_isles h_me_court_machine q_me_court k_me_court o_me_court, wX2 h_me_court_isles h_me_court_isles_now q_me_court_isles k_me_court_isles o_me_court_isles, wX4 h_me_court_isles_now q_me_court_isles_now k_me_court_isles_now o_me_court_isles_now, wX3 h_me_court_machine q_me_court_machine k_me_court_machine o_me_court_machine, wPL o_pool] H locs → lv_has ls 4 [(0, .ref h_me), (1, .int v1)] → W p l e ({ frames := 5, cells := 0, slots := 0, locals := 132 } : Room) s m ([.ref h_me] : List Value).toArray below meth c H locs 0 0 Qz (F0 m 2 ls []) := by
    intro N
    induction N with
    | zero =>
      intro v1 o_me o_me_court_machine H locs ls h hw hl
      exact absurd (show (none : Option (Int32 × Ob × Ob)) = some y from h) (by simp)
    | succ N ih =>
      intro v1 o_me o_me_court_machine H locs ls h hw hl
      have h : lb_X7_crownAll_2 o_me_court o_me_court_isles o_me_court_isles_now o_pool  (lp_X7_crownAll_2 o_me_court o_me_court_isles o_me_court_isles_now o_pool  N) v1 o_me o_me_court_machine = some y := h
      unfold lb_X7_crownAll_2 at h
      refine lv_iload_n hx hb dX7_crownAll_2 rfl (lv_at hl 1 rfl) ?_
      refine lv_iconst (v := 4) hx hb dX7_crownAll_3 (by decide) ?_
      refine lv_icmp_ge (tgt := 18) hx hb dX7_crownAll_4 (by decide) (fun c => ?_) (fun c => ?_)
      · have h := z_t h c
        refine lv_iconst (v := 1) hx hb dX7_crownAll_18 (by decide) ?_
        refine lv_aload_n hx hb dX7_crownAll_19 rfl (lv_at hl 0 rfl) ?_
        refine fgX7_1 hx hb hts hown hK hw 0 rfl kw387 dX7_crownAll_20 ?_
        refine fgX2_7 hx hb hts hown hK hw 2 rfl kw316 dX7_crownAll_23 ?_
        refine lv_ishl hx hb dX7_crownAll_26 ?_
        obtain ⟨x1, ex1, h⟩ := z_lt h
        refine lv_fi (v := x1) ex1.symm ?_
        refine lv_istore_n (lv' := [(1, .int x1), (0, .ref h_me)]) hx hb dX7_crownAll_27 rfl hl (by decide) rfl (fun ls hl => ?_)
        refine lv_iconst (v := 4) hx hb dX7_crownAll_28 (by decide) ?_
        refine lv_istore_n (lv' := [(2, .int (4 : Int32)), (1, .int x1), (0, .ref h_me)]) hx hb dX7_crownAll_29 rfl hl (by decide) rfl (fun ls hl => ?_)
        exact lp_30_1  zfu x1 (4 : Int32) o_me o_me_court_machine _ _ _ h hw (lv_sub hl [2, 1, 0] rfl)
      · have h := z_f h c
        refine lv_aload_n hx hb dX7_crownAll_7 rfl (lv_at hl 0 rfl) ?_
        refine lv_iload_n hx hb dX7_crownAll_8 rfl (lv_at hl 1 rfl) ?_
        obtain ⟨z15, ez15, h⟩ := z_bd h
        refine xj_v (xrV (As := [.int v1]) (rest := []) ⟨hx, hb, hml, hown, hts⟩ (m_X7_setScores l dC dI _ h_me h_me_court h_me_court_isles h_me_court_machine h_me_court_isles_now q_me k_me q_me_court k_me_court q_me_court_isles k_me_court_isles q_me_court_isles_now k_me_court_isles_now q_me_court_machine k_me_court_machine o_me o_me_court o_me_court_isles o_me_court_isles_now o_me_court_machine o_pool v1 z15 ez15) kw954 kw951 kw953 kw27 kw118 hd_X7_setScores ⟨rfl, rfl⟩ rfl rfl ⟨rfl, rfl⟩ hX hK hw [0, 1, 2, 3, 4, 5] (by decide) rfl rfl rfl rfl rfl hl.1 rfl rfl dX7_crownAll_9) hw hA [0, 1, 2, 3, 4, 5] (by decide) rfl rfl (fun H locs hw => ?_)
        have hw : Wd dC dI A s.heap [wX7 h_me h_me_court h_me_court_isles q_me k_me z15.1, wX1 h_me_court h_me_court_isles h_me_court_machine q_me_court k_me_court o_me_court, wX2 h_me_court_isles h_me_court_isles_now q_me_court_isles k_me_court_isles o_me_court_isles, wX4 h_me_court_isles_now q_me_court_isles_now k_me_court_isles_now o_me_court_isles_now, wX3 h_me_court_machine q_me_court_machine k_me_court_machine z15.2, wPL o_pool] H locs := hw
        obtain ⟨x16, ex16, h⟩ := z_lt h
        refine lv_iinc (v := x16) (lv' := [(1, .int x16), (0, .ref h_me)]) hx hb dX7_crownAll_12 hl (k := 1) rfl ((congrArg (v1 + ·) (show Int32.ofInt 1 = (1 : Int32) from by decide)).trans ex16.symm) (by decide) rfl (fun ls hl => ?_)
        refine lv_goto (tgt := 2) hx hb dX7_crownAll_15 (by decide) ?_
        exact ih x16 z15.1 z15.2 _ _ _ h hw (lv_sub hl [1, 0] rfl)
  unfold f_X7_crownAll at h
  refine lv_iconst (v := 0) hx hb dX7_crownAll_0 (by decide) ?_
  refine lv_istore_n (lv' := [(1, .int (0 : Int32)), (0, .ref h_me)]) hx hb dX7_crownAll_1 rfl hl (by decide) rfl (fun ls hl => ?_)
  exact lp_2_0  zfu (0 : Int32) o_me o_me_court_machine _ _ _ h hw (lv_sub hl [1, 0] rfl)

