def f_X8_pass (o_me : Ob) (o_me_machine : Ob) (o_me_isles : Ob) (o_me_isles_now : Ob) (o_me_court : Ob) (o_me_past : Ob) (o_pool : List CR) : Option (Int32 × Ob × Ob × Ob × Ob × Ob) :=
  (f_X1_moved_O o_me_court o_me_isles o_me_isles_now o_me_machine o_pool o_me_past (3 : Int32) (0 : Int32)).bind fun z1 =>
  (f_X8_answer o_me z1.1).bind fun z2 =>
  some (z2.1, z2.2, z1.2.2.2.1, z1.2.2.1, z1.2.1, z1.2.2.2.2)
set_option maxHeartbeats 4000000 in
set_option maxRecDepth 100000 in
theorem m_X8_pass (l : Launch) (dC : Nat → ClassId) (dI : Nat → Nat → Nat) (sz : Nat) (h_me : Nat) (h_me_reader : Nat) (h_me_machine : Nat) (h_me_isles : Nat) (h_me_court : Nat) (h_me_study : Nat) (h_me_paper : Nat) (h_me_paperCourt : Nat) (h_me_past : Nat) (h_me_pastAhead : Nat) (h_me_movingAhead : Nat) (h_me_isles_now : Nat) (q_me : Nat → Nat) (k_me : Nat → ClassId) (q_me_machine : Nat → Nat) (k_me_machine : Nat → ClassId) (q_me_isles : Nat → Nat) (k_me_isles : Nat → ClassId) (q_me_isles_now : Nat → Nat) (k_me_isles_now : Nat → ClassId) (q_me_court : Nat → Nat) (k_me_court : Nat → ClassId) (q_me_past : Nat → Nat) (k_me_past : Nat → ClassId) (o_me : Ob) (o_me_machine : Ob) (o_me_isles : Ob) (o_me_isles_now : Ob) (o_me_court : Ob) (o_me_past : Ob) (o_pool : List CR) (y : Int32 × Ob × Ob × Ob × Ob × Ob) (h : f_X8_pass o_me o_me_machine o_me_isles o_me_isles_now o_me_court o_me_past o_pool = some y) : CI l yX8_pass cX8_pass 1 (some .int) ({ frames := 6, cells := 0, slots := 0, locals := 163 } : Room) dC dI sz [.ref h_me] [wX8 h_me h_me_reader h_me_machine h_me_isles h_me_court h_me_study h_me_paper h_me_paperCourt h_me_past h_me_pastAhead h_me_movingAhead q_me k_me o_me, wX3 h_me_machine q_me_machine k_me_machine o_me_machine, wX2 h_me_isles h_me_isles_now q_me_isles k_me_isles o_me_isles, wX4 h_me_isles_now q_me_isles_now k_me_isles_now o_me_isles_now, wX1 h_me_court h_me_isles h_me_machine q_me_court k_me_court o_me_court, wX5 h_me_past q_me_past k_me_past o_me_past, wPL o_pool] [tX8 k_me, tX3 k_me_machine, tX2 k_me_isles, tX4 k_me_isles_now, tX1 k_me_court, tX5 k_me_past, tPL o_pool] y.1 [wX8 h_me h_me_reader h_me_machine h_me_isles h_me_court h_me_study h_me_paper h_me_paperCourt h_me_past h_me_pastAhead h_me_movingAhead q_me k_me y.2.1, wX3 h_me_machine q_me_machine k_me_machine y.2.2.1, wX2 h_me_isles h_me_isles_now q_me_isles k_me_isles o_me_isles, wX4 h_me_isles_now q_me_isles_now k_me_isles_now y.2.2.2.1, wX1 h_me_court h_me_isles h_me_machine q_me_court k_me_court y.2.2.2.2.1, wX5 h_me_past q_me_past k_me_past y.2.2.2.2.2, wPL o_pool] := by
  refine CC_of (by decide) (Nat.le_of_ble_eq_true rfl) ?_
  intro p e s m below meth c A ls hx hb hml hr hlk hnm hown hts hX hK hP hD hA hl
  have hl : lv_has ls 1 [(0, .ref h_me)] := hl
  have hown : s.vm.findClass RX8 = some m.cls := hown
  have hw : Wd dC dI A s.heap [wX8 h_me h_me_reader h_me_machine h_me_isles h_me_court h_me_study h_me_paper h_me_paperCourt h_me_past h_me_pastAhead h_me_movingAhead q_me k_me o_me, wX3 h_me_machine q_me_machine k_me_machine o_me_machine, wX2 h_me_isles h_me_isles_now q_me_isles k_me_isles o_me_isles, wX4 h_me_isles_now q_me_isles_now k_me_isles_now o_me_isles_now, wX1 h_me_court h_me_isles h_me_machine q_me_court k_me_court o_me_court, wX5 h_me_past q_me_past k_me_past o_me_past, wPL o_pool] s.heap [] := ⟨hP, hD, va_S.rf⟩
  generalize hQz : (MQ below (QI dC dI (fun r (_ : Unit) => r = y.1) (fun _ => Jn [wX8 h_me h_me_reader h_me_machine h_me_isles h_me_court h_me_study h_me_paper h_me_paperCourt h_me_past h_me_pastAhead h_me_movingAhead q_me k_me y.2.1, wX3 h_me_machine q_me_machine k_me_machine y.2.2.1, wX2 h_me_isles h_me_isles_now q_me_isles k_me_isles o_me_isles, wX4 h_me_isles_now q_me_isles_now k_me_isles_now y.2.2.2.1, wX1 h_me_court h_me_isles h_me_machine q_me_court k_me_court y.2.2.2.2.1, wX5 h_me_past q_me_past k_me_past y.2.2.2.2.2, wPL o_pool]) (fun _ => Jt [tX8 k_me, tX3 k_me_machine, tX2 k_me_isles, tX4 k_me_isles_now, tX1 k_me_court, tX5 k_me_past, tPL o_pool]) A) ([.ref h_me] : List Value).toArray s 0 0 A) = Qz
  clear hP hD hnm
  unfold f_X8_pass at h
  refine lv_aload_n hx hb dX8_pass_0 rfl (lv_at hl 0 rfl) ?_
  refine lv_aload_n hx hb dX8_pass_1 rfl (lv_at hl 0 rfl) ?_
  refine fgX8_3 hx hb hts hown hK hw 0 rfl kw445 dX8_pass_2 ?_
  refine lv_iconst (v := 3) hx hb dX8_pass_5 (by decide) ?_
  refine lv_iconst (v := 0) hx hb dX8_pass_6 (by decide) ?_
  refine lv_aload_n hx hb dX8_pass_7 rfl (lv_at hl 0 rfl) ?_
  refine fgX8_8 hx hb hts hown hK hw 0 rfl kw450 dX8_pass_8 ?_
  obtain ⟨z1, ez1, h⟩ := z_bd h
  refine xj_i (xrV (As := [.int (3 : Int32), .int (0 : Int32), .ref h_me_past]) (rest := [.ref h_me]) ⟨hx, hb, hml, hown, hts⟩ (m_X1_moved_O l dC dI _ h_me_court h_me_isles h_me_machine h_me_isles_now h_me_past q_me_court k_me_court q_me_isles k_me_isles q_me_isles_now k_me_isles_now q_me_machine k_me_machine q_me_past k_me_past o_me_court o_me_isles o_me_isles_now o_me_machine o_pool o_me_past (3 : Int32) (0 : Int32) z1 ez1) kw852 kw849 kw850 kw851 kw117 hd_X1_moved ⟨rfl, rfl⟩ rfl rfl ⟨rfl, rfl⟩ hX hK hw [4, 2, 3, 1, 6, 5] (by decide) rfl rfl rfl rfl rfl hl.1 rfl rfl dX8_pass_11) hw hA [4, 2, 3, 1, 6, 5] (by decide) rfl rfl (fun H locs hw => ?_)
  have hw : Wd dC dI A s.heap [wX8 h_me h_me_reader h_me_machine h_me_isles h_me_court h_me_study h_me_paper h_me_paperCourt h_me_past h_me_pastAhead h_me_movingAhead q_me k_me o_me, wX3 h_me_machine q_me_machine k_me_machine z1.2.2.2.1, wX2 h_me_isles h_me_isles_now q_me_isles k_me_isles o_me_isles, wX4 h_me_isles_now q_me_isles_now k_me_isles_now z1.2.2.1, wX1 h_me_court h_me_isles h_me_machine q_me_court k_me_court z1.2.1, wX5 h_me_past q_me_past k_me_past z1.2.2.2.2, wPL o_pool] H locs := hw
  obtain ⟨z2, ez2, h⟩ := z_bd h
  refine xj_i (xrV (As := [.int z1.1]) (rest := []) ⟨hx, hb, hml, hown, hts⟩ (m_X8_answer l dC dI _ h_me h_me_reader h_me_machine h_me_isles h_me_court h_me_study h_me_paper h_me_paperCourt h_me_past h_me_pastAhead h_me_movingAhead q_me k_me o_me z1.1 z2 ez2) kw918 kw915 kw917 kw26 kw110 hd_X8_answer ⟨rfl, rfl⟩ rfl rfl ⟨rfl, rfl⟩ hX hK hw [0] (by decide) rfl rfl rfl rfl rfl hl.1 rfl rfl dX8_pass_14) hw hA [0] (by decide) rfl rfl (fun H locs hw => ?_)
  have hw : Wd dC dI A s.heap [wX8 h_me h_me_reader h_me_machine h_me_isles h_me_court h_me_study h_me_paper h_me_paperCourt h_me_past h_me_pastAhead h_me_movingAhead q_me k_me z2.2, wX3 h_me_machine q_me_machine k_me_machine z1.2.2.2.1, wX2 h_me_isles h_me_isles_now q_me_isles k_me_isles o_me_isles, wX4 h_me_isles_now q_me_isles_now k_me_isles_now z1.2.2.1, wX1 h_me_court h_me_isles h_me_machine q_me_court k_me_court z1.2.1, wX5 h_me_past q_me_past k_me_past z1.2.2.2.2, wPL o_pool] H locs := hw
  have hy := Option.some.inj h
  rw [← hQz, ← hy]
  exact xr_i (v := z2.1) hx hb hr rfl hlk hK hw dX8_pass_17

def f_X8_isTrade (p0 : Int32) : Option (Int32) :=
  if p0 < (0 : Int32) then
  (some (0 : Int32))
  else
  (if (10 : Int32) ≤ p0 then
  (some (0 : Int32))
  else
  (some (1 : Int32)))
set_option maxHeartbeats 4000000 in
set_option maxRecDepth 100000 in
theorem m_X8_isTrade (l : Launch) (dC : Nat → ClassId) (dI : Nat → Nat → Nat) (sz : Nat)  (p0 : Int32) (y : Int32) (h : f_X8_isTrade p0 = some y) : CI l yX8_isTrade cX8_isTrade 1 (some .boolean) ({ frames := 0, cells := 0, slots := 0, locals := 0 } : Room) dC dI sz [.int p0] [] [] y [] := by
  refine CC_of (by decide) (Nat.le_of_ble_eq_true rfl) ?_
  intro p e s m below meth c A ls hx hb hml hr hlk hnm hown hts hX hK hP hD hA hl
  have hl : lv_has ls 1 [(0, .int p0)] := hl
  have hown : s.vm.findClass RX8 = some m.cls := hown
  have hw : Wd dC dI A s.heap [] s.heap [] := ⟨hP, hD, va_S.rf⟩
  generalize hQz : (MQ below (QI dC dI (fun r (_ : Unit) => r = y) (fun _ => Jn []) (fun _ => Jt []) A) ([.int p0] : List Value).toArray s 0 0 A) = Qz
  clear hP hD hnm
  unfold f_X8_isTrade at h
  refine lv_iload_n hx hb dX8_isTrade_0 rfl (lv_at hl 0 rfl) ?_
  refine lv_if_lt (tgt := 14) hx hb dX8_isTrade_1 (by decide) (fun c => ?_) (fun c => ?_)
  · have h := z_t h c
    refine lv_iconst (v := 0) hx hb dX8_isTrade_14 (by decide) ?_
    have hy := Option.some.inj h
    rw [← hQz, ← hy]
    exact xr_i (v := (0 : Int32)) hx hb hr rfl hlk hK hw dX8_isTrade_15
  · have h := z_f h c
    refine lv_iload_n hx hb dX8_isTrade_4 rfl (lv_at hl 0 rfl) ?_
    refine lv_bipush (v := 10) hx hb dX8_isTrade_5 (by decide) ?_
    refine lv_icmp_ge (tgt := 14) hx hb dX8_isTrade_7 (by decide) (fun c => ?_) (fun c => ?_)
    · have h := z_t h c
      refine lv_iconst (v := 0) hx hb dX8_isTrade_14 (by decide) ?_
      have hy := Option.some.inj h
      rw [← hQz, ← hy]
      exact xr_i (v := (0 : Int32)) hx hb hr rfl hlk hK hw dX8_isTrade_15
    · have h := z_f h c
      refine lv_iconst (v := 1) hx hb dX8_isTrade_10 (by decide) ?_
      refine lv_goto (tgt := 15) hx hb dX8_isTrade_11 (by decide) ?_
      have hy := Option.some.inj h
      rw [← hQz, ← hy]
      exact xr_i (v := (1 : Int32)) hx hb hr rfl hlk hK hw dX8_isTrade_15

def f_X5_clear (o_me : Ob) : Option (Ob) :=
  zlt (sI o_me 2 (0 : Int32)) fun o1 =>
  zlt (sI o1 3 (0 : Int32)) fun o2 =>
  some o2
set_option maxHeartbeats 4000000 in
set_option maxRecDepth 100000 in
theorem m_X5_clear (l : Launch) (dC : Nat → ClassId) (dI : Nat → Nat → Nat) (sz : Nat) (h_me : Nat) (q_me : Nat → Nat) (k_me : Nat → ClassId) (o_me : Ob) (y : Ob) (h : f_X5_clear o_me = some y) : CV l yX5_clear cX5_clear 1 none ({ frames := 0, cells := 0, slots := 0, locals := 0 } : Room) dC dI sz [.ref h_me] [wX5 h_me q_me k_me o_me] [tX5 k_me] [wX5 h_me q_me k_me y] := by
  refine CC_of (by decide) (Nat.le_of_ble_eq_true rfl) ?_
  intro p e s m below meth c A ls hx hb hml hr hlk hnm hown hts hX hK hP hD hA hl
  have hl : lv_has ls 1 [(0, .ref h_me)] := hl
  have hown : s.vm.findClass RX5 = some m.cls := hown
  have hw : Wd dC dI A s.heap [wX5 h_me q_me k_me o_me] s.heap [] := ⟨hP, hD, va_S.rf⟩
  generalize hQz : (MQ below (QV dC dI (fun (_ : Unit) => True) (fun _ => Jn [wX5 h_me q_me k_me y]) (fun _ => Jt [tX5 k_me]) A) ([.ref h_me] : List Value).toArray s 0 0 A) = Qz
  clear hP hD hnm
  unfold f_X5_clear at h
  refine lv_aload_n hx hb dX5_clear_0 rfl (lv_at hl 0 rfl) ?_
  refine lv_iconst (v := 0) hx hb dX5_clear_1 (by decide) ?_
  refine fpX5_2 hx hb hts hown hK hw 0 rfl kw428 dX5_clear_2 (fun H locs hw => ?_)
  obtain ⟨o1, eo1, h⟩ := z_lt h
  have hw : Wd dC dI A s.heap [wX5 h_me q_me k_me o1] H locs := by rw [eo1]; exact hw
  refine lv_aload_n hx hb dX5_clear_5 rfl (lv_at hl 0 rfl) ?_
  refine lv_iconst (v := 0) hx hb dX5_clear_6 (by decide) ?_
  refine fpX5_3 hx hb hts hown hK hw 0 rfl kw429 dX5_clear_7 (fun H locs hw => ?_)
  obtain ⟨o2, eo2, h⟩ := z_lt h
  have hw : Wd dC dI A s.heap [wX5 h_me q_me k_me o2] H locs := by rw [eo2]; exact hw
  have hy := Option.some.inj h
  rw [← hQz, ← hy]
  exact xr_v hx hb hr hlk hK hw dX5_clear_10

def f_X2_addPerson (o_me : Ob) (o_me_now : Ob) (p0 : Int32) (p1 : Int32) : Option (Int32 × Ob × Ob) :=
  if (gI o_me 7) < (7 : Int32) then
  (zgd (zin (gI o_me 7) 7) <|
  zlt (tA o_me_now 0 (gI o_me 7).toNatClampNeg p0) fun o2 =>
  zgd (zin (gI o_me 7) 7) <|
  zlt (tA o_me 1 (gI o_me 7).toNatClampNeg p1) fun o4 =>
  zlt (sI o4 7 ((gI o4 7) + (1 : Int32))) fun o5 =>
  some ((gI o5 7) - (1 : Int32), o5, o2))
  else
  (some ((-1 : Int32), o_me, o_me_now))
set_option maxHeartbeats 4000000 in
set_option maxRecDepth 100000 in
theorem m_X2_addPerson (l : Launch) (dC : Nat → ClassId) (dI : Nat → Nat → Nat) (sz : Nat) (h_me : Nat) (h_me_now : Nat) (q_me : Nat → Nat) (k_me : Nat → ClassId) (q_me_now : Nat → Nat) (k_me_now : Nat → ClassId) (o_me : Ob) (o_me_now : Ob) (p0 : Int32) (p1 : Int32) (y : Int32 × Ob × Ob) (h : f_X2_addPerson o_me o_me_now p0 p1 = some y) : CI l yX2_addPerson cX2_addPerson 3 (some .int) ({ frames := 0, cells := 0, slots := 0, locals := 0 } : Room) dC dI sz [.ref h_me, .int p0, .int p1] [wX2 h_me h_me_now q_me k_me o_me, wX4 h_me_now q_me_now k_me_now o_me_now] [tX2 k_me, tX4 k_me_now] y.1 [wX2 h_me h_me_now q_me k_me y.2.1, wX4 h_me_now q_me_now k_me_now y.2.2] := by
  refine CC_of (by decide) (Nat.le_of_ble_eq_true rfl) ?_
  intro p e s m below meth c A ls hx hb hml hr hlk hnm hown hts hX hK hP hD hA hl
  have hl : lv_has ls 3 [(0, .ref h_me), (1, .int p0), (2, .int p1)] := hl
  have hown : s.vm.findClass RX2 = some m.cls := hown
  have hw : Wd dC dI A s.heap [wX2 h_me h_me_now q_me k_me o_me, wX4 h_me_now q_me_now k_me_now o_me_now] s.heap [] := ⟨hP, hD, va_S.rf⟩
  generalize hQz : (MQ below (QI dC dI (fun r (_ : Unit) => r = y.1) (fun _ => Jn [wX2 h_me h_me_now q_me k_me y.2.1, wX4 h_me_now q_me_now k_me_now y.2.2]) (fun _ => Jt [tX2 k_me, tX4 k_me_now]) A) ([.ref h_me, .int p0, .int p1] : List Value).toArray s 0 0 A) = Qz
  clear hP hD hnm
  unfold f_X2_addPerson at h
  refine lv_aload_n hx hb dX2_addPerson_0 rfl (lv_at hl 0 rfl) ?_
  refine fgX2_7 hx hb hts hown hK hw 0 rfl kw315 dX2_addPerson_1 ?_
  refine lv_bipush (v := 7) hx hb dX2_addPerson_4 (by decide) ?_
  refine lv_icmp_lt (tgt := 11) hx hb dX2_addPerson_6 (by decide) (fun c => ?_) (fun c => ?_)
  · have h := z_t h c
    refine lv_aload_n hx hb dX2_addPerson_11 rfl (lv_at hl 0 rfl) ?_
    refine fgX2_0 hx hb hts hown hK hw 0 rfl kw295 dX2_addPerson_12 ?_
    refine fgX4_0 hx hb hts hown hK hw 1 rfl kw264 dX2_addPerson_15 ?_
    refine lv_aload_n hx hb dX2_addPerson_18 rfl (lv_at hl 0 rfl) ?_
    refine fgX2_7 hx hb hts hown hK hw 0 rfl kw315 dX2_addPerson_19 ?_
    refine lv_iload_n hx hb dX2_addPerson_22 rfl (lv_at hl 1 rfl) ?_
    obtain ⟨g1, h⟩ := z_gd h
    refine fbX4_0 hx hb hK hw 1 rfl rfl g1 dX2_addPerson_23 (fun H locs hw => ?_)
    obtain ⟨o2, eo2, h⟩ := z_lt h
    have hw : Wd dC dI A s.heap [wX2 h_me h_me_now q_me k_me o_me, wX4 h_me_now q_me_now k_me_now o2] H locs := by rw [eo2]; exact hw
    refine lv_aload_n hx hb dX2_addPerson_24 rfl (lv_at hl 0 rfl) ?_
    refine fgX2_1 hx hb hts hown hK hw 0 rfl kw300 dX2_addPerson_25 ?_
    refine lv_aload_n hx hb dX2_addPerson_28 rfl (lv_at hl 0 rfl) ?_
    refine fgX2_7 hx hb hts hown hK hw 0 rfl kw315 dX2_addPerson_29 ?_
    refine lv_iload_n hx hb dX2_addPerson_32 rfl (lv_at hl 2 rfl) ?_
    obtain ⟨g3, h⟩ := z_gd h
    refine fbX2_1 hx hb hK hw 0 rfl rfl g3 dX2_addPerson_33 (fun H locs hw => ?_)
    obtain ⟨o4, eo4, h⟩ := z_lt h
    have hw : Wd dC dI A s.heap [wX2 h_me h_me_now q_me k_me o4, wX4 h_me_now q_me_now k_me_now o2] H locs := by rw [eo4]; exact hw
    refine lv_aload_n hx hb dX2_addPerson_34 rfl (lv_at hl 0 rfl) ?_
    refine lv_dup hx hb dX2_addPerson_35 rfl ?_
    refine fgX2_7 hx hb hts hown hK hw 0 rfl kw315 dX2_addPerson_36 ?_
    refine lv_iconst (v := 1) hx hb dX2_addPerson_39 (by decide) ?_
    refine lv_iadd hx hb dX2_addPerson_40 ?_
    refine fpX2_7 hx hb hts hown hK hw 0 rfl kw315 dX2_addPerson_41 (fun H locs hw => ?_)
    obtain ⟨o5, eo5, h⟩ := z_lt h
    have hw : Wd dC dI A s.heap [wX2 h_me h_me_now q_me k_me o5, wX4 h_me_now q_me_now k_me_now o2] H locs := by rw [eo5]; exact hw
    refine lv_aload_n hx hb dX2_addPerson_44 rfl (lv_at hl 0 rfl) ?_
    refine fgX2_7 hx hb hts hown hK hw 0 rfl kw315 dX2_addPerson_45 ?_
    refine lv_iconst (v := 1) hx hb dX2_addPerson_48 (by decide) ?_
    refine lv_isub hx hb dX2_addPerson_49 ?_
    have hy := Option.some.inj h
    rw [← hQz, ← hy]
    exact xr_i (v := (gI o5 7) - (1 : Int32)) hx hb hr rfl hlk hK hw dX2_addPerson_50
  · have h := z_f h c
    refine lv_iconst (v := (-1)) hx hb dX2_addPerson_9 (by decide) ?_
    have hy := Option.some.inj h
    rw [← hQz, ← hy]
    exact xr_i (v := (-1 : Int32)) hx hb hr rfl hlk hK hw dX2_addPerson_10

def bk_X8_person_23   (o_me : Ob) (o_me_isles : Ob) (o_me_isles_now : Ob) (o_me_past : Ob) : Option (Int32 × Ob × Ob × Ob × Ob) :=
  (f_X8_refuse o_me (-1 : Int32)).bind fun z2 =>
  some (z2.1, z2.2, o_me_isles, o_me_isles_now, o_me_past)
def bk_X8_person_29   (v1 : Int32) (v2 : Int32) (o_me : Ob) (o_me_isles : Ob) (o_me_isles_now : Ob) (o_me_past : Ob) : Option (Int32 × Ob × Ob × Ob × Ob) :=
  if (gI o_me_isles 7) < (7 : Int32) then
  ((f_X5_clear o_me_past).bind fun z3 =>
  (f_X2_addPerson o_me_isles o_me_isles_now v1 v2).bind fun z4 =>
  (f_X8_grant o_me z4.1).bind fun z5 =>
  some (z5.1, z5.2, z4.2.1, z4.2.2, z3))
  else
  ((f_X8_refuse o_me (-5 : Int32)).bind fun z6 =>
  some (z6.1, z6.2, o_me_isles, o_me_isles_now, o_me_past))
def f_X8_person (o_me : Ob) (o_me_isles : Ob) (o_me_isles_now : Ob) (o_me_past : Ob) (p0 : Int32) (p1 : Int32) : Option (Int32 × Ob × Ob × Ob × Ob) :=
  (f_X8_isTrade p0).bind fun z1 =>
  if z1 = (0 : Int32) then
  (bk_X8_person_23   o_me o_me_isles o_me_isles_now o_me_past)
  else
  (if p1 = (-1 : Int32) then
  (bk_X8_person_29   p0 p1 o_me o_me_isles o_me_isles_now o_me_past)
  else
  ((f_X2_isPerson o_me_isles p1).bind fun z7 =>
  if z7 = (0 : Int32) then
  (bk_X8_person_23   o_me o_me_isles o_me_isles_now o_me_past)
  else
  (bk_X8_person_29   p0 p1 o_me o_me_isles o_me_isles_now o_me_past)))
set_option maxHeartbeats 4000000 in
set_option maxRecDepth 100000 in
theorem m_X8_person (l : Launch) (dC : Nat → ClassId) (dI : Nat → Nat → Nat) (sz : Nat) (h_me : Nat) (h_me_reader : Nat) (h_me_machine : Nat) (h_me_isles : Nat) (h_me_court : Nat) (h_me_study : Nat) (h_me_paper : Nat) (h_me_paperCourt : Nat) (h_me_past : Nat) (h_me_pastAhead : Nat) (h_me_movingAhead : Nat) (h_me_isles_now : Nat) (q_me : Nat → Nat) (k_me : Nat → ClassId) (q_me_isles : Nat → Nat) (k_me_isles : Nat → ClassId) (q_me_isles_now : Nat → Nat) (k_me_isles_now : Nat → ClassId) (q_me_past : Nat → Nat) (k_me_past : Nat → ClassId) (o_me : Ob) (o_me_isles : Ob) (o_me_isles_now : Ob) (o_me_past : Ob) (p0 : Int32) (p1 : Int32) (y : Int32 × Ob × Ob × Ob × Ob) (h : f_X8_person o_me o_me_isles o_me_isles_now o_me_past p0 p1 = some y) : CI l yX8_person cX8_person 3 (some .int) ({ frames := 1, cells := 0, slots := 0, locals := 22 } : Room) dC dI sz [.ref h_me, .int p0, .int p1] [wX8 h_me h_me_reader h_me_machine h_me_isles h_me_court h_me_study h_me_paper h_me_paperCourt h_me_past h_me_pastAhead h_me_movingAhead q_me k_me o_me, wX2 h_me_isles h_me_isles_now q_me_isles k_me_isles o_me_isles, wX4 h_me_isles_now q_me_isles_now k_me_isles_now o_me_isles_now, wX5 h_me_past q_me_past k_me_past o_me_past] [tX8 k_me, tX2 k_me_isles, tX4 k_me_isles_now, tX5 k_me_past] y.1 [wX8 h_me h_me_reader h_me_machine h_me_isles h_me_court h_me_study h_me_paper h_me_paperCourt h_me_past h_me_pastAhead h_me_movingAhead q_me k_me y.2.1, wX2 h_me_isles h_me_isles_now q_me_isles k_me_isles y.2.2.1, wX4 h_me_isles_now q_me_isles_now k_me_isles_now y.2.2.2.1, wX5 h_me_past q_me_past k_me_past y.2.2.2.2] := by
  refine CC_of (by decide) (Nat.le_of_ble_eq_true rfl) ?_
  intro p e s m below meth c A ls hx hb hml hr hlk hnm hown hts hX hK hP hD hA hl
  have hl : lv_has ls 3 [(0, .ref h_me), (1, .int p0), (2, .int p1)] := hl
  have hown : s.vm.findClass RX8 = some m.cls := hown
  have hw : Wd dC dI A s.heap [wX8 h_me h_me_reader h_me_machine h_me_isles h_me_court h_me_study h_me_paper h_me_paperCourt h_me_past h_me_pastAhead h_me_movingAhead q_me k_me o_me, wX2 h_me_isles h_me_isles_now q_me_isles k_me_isles o_me_isles, wX4 h_me_isles_now q_me_isles_now k_me_isles_now o_me_isles_now, wX5 h_me_past q_me_past k_me_past o_me_past] s.heap [] := ⟨hP, hD, va_S.rf⟩
  generalize hQz : (MQ below (QI dC dI (fun r (_ : Unit) => r = y.1) (fun _ => Jn [wX8 h_me h_me_reader h_me_machine h_me_isles h_me_court h_me_study h_me_paper h_me_paperCourt h_me_past h_me_pastAhead h_me_movingAhead q_me k_me y.2.1, wX2 h_me_isles h_me_isles_now q_me_isles k_me_isles y.2.2.1, wX4 h_me_isles_now q_me_isles_now k_me_isles_now y.2.2.2.1, wX5 h_me_past q_me_past k_me_past y.2.2.2.2]) (fun _ => Jt [tX8 k_me, tX2 k_me_isles, tX4 k_me_isles_now, tX5 k_me_past]) A) ([.ref h_me, .int p0, .int p1] : List Value).toArray s 0 0 A) = Qz
  clear hP hD hnm
  have bk_23_0 : ∀ (o_me : Ob) (o_me_isles : Ob) (o_me_isles_now : Ob) (o_me_past : Ob) (H : Heap) (locs : List Loc) (ls : Array Slot), bk_X8_person_23   o_me o_me_isles o_me_isles_now o_me_past = some y → Wd dC dI A s.heap [wX8 h_me h_me_reader h_me_machine h_me_isles h_me_court h_me_study h_me_paper h_me_paperCourt h_me_past h_me_pastAhead h_me_movingAhead q_me k_me o_me, wX2 h_me_isles h_me_isles_now q_me_isles k_me_isles o_me_isles, wX4 h_me_isles_now q_me_isles_now k_me_isles_now o_me_isles_now, wX5 h_me_past q_me_past k_me_past o_me_past] H locs → lv_has ls 3 [(0, .ref h_me)] → W p l e ({ frames := 1, cells := 0, slots := 0, locals := 22 } : Room) s m ([.ref h_me, .int p0, .int p1] : List Value).toArray below meth c H locs 0 0 Qz (F0 m 23 ls []) := by
    intro o_me o_me_isles o_me_isles_now o_me_past H locs ls h hw hl
    unfold bk_X8_person_23 at h
    refine lv_aload_n hx hb dX8_person_23 rfl (lv_at hl 0 rfl) ?_
    refine lv_iconst (v := (-1)) hx hb dX8_person_24 (by decide) ?_
    obtain ⟨z2, ez2, h⟩ := z_bd h
    refine xj_i (xrV (As := [.int (-1 : Int32)]) (rest := []) ⟨hx, hb, hml, hown, hts⟩ (m_X8_refuse l dC dI _ h_me h_me_reader h_me_machine h_me_isles h_me_court h_me_study h_me_paper h_me_paperCourt h_me_past h_me_pastAhead h_me_movingAhead q_me k_me o_me (-1 : Int32) z2 ez2) kw508 kw505 kw507 kw0 kw110 hd_X8_refuse ⟨rfl, rfl⟩ rfl rfl ⟨rfl, rfl⟩ hX hK hw [0] (by decide) rfl rfl rfl rfl rfl hl.1 rfl rfl dX8_person_25) hw hA [0] (by decide) rfl rfl (fun H locs hw => ?_)
    have hw : Wd dC dI A s.heap [wX8 h_me h_me_reader h_me_machine h_me_isles h_me_court h_me_study h_me_paper h_me_paperCourt h_me_past h_me_pastAhead h_me_movingAhead q_me k_me z2.2, wX2 h_me_isles h_me_isles_now q_me_isles k_me_isles o_me_isles, wX4 h_me_isles_now q_me_isles_now k_me_isles_now o_me_isles_now, wX5 h_me_past q_me_past k_me_past o_me_past] H locs := hw
    have hy := Option.some.inj h
    rw [← hQz, ← hy]
    exact xr_i (v := z2.1) hx hb hr rfl hlk hK hw dX8_person_28
  have bk_29_1 : ∀ (v1 : Int32) (v2 : Int32) (o_me : Ob) (o_me_isles : Ob) (o_me_isles_now : Ob) (o_me_past : Ob) (H : Heap) (locs : List Loc) (ls : Array Slot), bk_X8_person_29   v1 v2 o_me o_me_isles o_me_isles_now o_me_past = some y → Wd dC dI A s.heap [wX8 h_me h_me_reader h_me_machine h_me_isles h_me_court h_me_study h_me_paper h_me_paperCourt h_me_past h_me_pastAhead h_me_movingAhead q_me k_me o_me, wX2 h_me_isles h_me_isles_now q_me_isles k_me_isles o_me_isles, wX4 h_me_isles_now q_me_isles_now k_me_isles_now o_me_isles_now, wX5 h_me_past q_me_past k_me_past o_me_past] H locs → lv_has ls 3 [(0, .ref h_me), (1, .int v1), (2, .int v2)] → W p l e ({ frames := 1, cells := 0, slots := 0, locals := 22 } : Room) s m ([.ref h_me, .int p0, .int p1] : List Value).toArray below meth c H locs 0 0 Qz (F0 m 29 ls []) := by
    intro v1 v2 o_me o_me_isles o_me_isles_now o_me_past H locs ls h hw hl
    unfold bk_X8_person_29 at h
    refine lv_aload_n hx hb dX8_person_29 rfl (lv_at hl 0 rfl) ?_
    refine fgX8_2 hx hb hts hown hK hw 0 rfl kw444 dX8_person_30 ?_
    refine fgX2_7 hx hb hts hown hK hw 1 rfl kw317 dX8_person_33 ?_
    refine lv_bipush (v := 7) hx hb dX8_person_36 (by decide) ?_
    refine lv_icmp_lt (tgt := 48) hx hb dX8_person_38 (by decide) (fun c => ?_) (fun c => ?_)
    · have h := z_t h c
      refine lv_aload_n hx hb dX8_person_48 rfl (lv_at hl 0 rfl) ?_
      refine fgX8_8 hx hb hts hown hK hw 0 rfl kw450 dX8_person_49 ?_
      obtain ⟨z3, ez3, h⟩ := z_bd h
      refine xj_v (xrV (As := []) (rest := []) ⟨hx, hb, hml, hown, hts⟩ (m_X5_clear l dC dI _ h_me_past q_me_past k_me_past o_me_past z3 ez3) kw512 kw509 kw510 kw511 kw119 hd_X5_clear ⟨rfl, rfl⟩ rfl rfl ⟨rfl, rfl⟩ hX hK hw [3] (by decide) rfl rfl rfl rfl rfl hl.1 rfl rfl dX8_person_52) hw hA [3] (by decide) rfl rfl (fun H locs hw => ?_)
      have hw : Wd dC dI A s.heap [wX8 h_me h_me_reader h_me_machine h_me_isles h_me_court h_me_study h_me_paper h_me_paperCourt h_me_past h_me_pastAhead h_me_movingAhead q_me k_me o_me, wX2 h_me_isles h_me_isles_now q_me_isles k_me_isles o_me_isles, wX4 h_me_isles_now q_me_isles_now k_me_isles_now o_me_isles_now, wX5 h_me_past q_me_past k_me_past z3] H locs := hw
      refine lv_aload_n hx hb dX8_person_55 rfl (lv_at hl 0 rfl) ?_
      refine lv_aload_n hx hb dX8_person_56 rfl (lv_at hl 0 rfl) ?_
      refine fgX8_2 hx hb hts hown hK hw 0 rfl kw444 dX8_person_57 ?_
      refine lv_iload_n hx hb dX8_person_60 rfl (lv_at hl 1 rfl) ?_
      refine lv_iload_n hx hb dX8_person_61 rfl (lv_at hl 2 rfl) ?_
      obtain ⟨z4, ez4, h⟩ := z_bd h
      refine xj_i (xrV (As := [.int v1, .int v2]) (rest := [.ref h_me]) ⟨hx, hb, hml, hown, hts⟩ (m_X2_addPerson l dC dI _ h_me_isles h_me_isles_now q_me_isles k_me_isles q_me_isles_now k_me_isles_now o_me_isles o_me_isles_now v1 v2 z4 ez4) kw516 kw513 kw514 kw515 kw115 hd_X2_addPerson ⟨rfl, rfl⟩ rfl rfl ⟨rfl, rfl⟩ hX hK hw [1, 2] (by decide) rfl rfl rfl rfl rfl hl.1 rfl rfl dX8_person_62) hw hA [1, 2] (by decide) rfl rfl (fun H locs hw => ?_)
      have hw : Wd dC dI A s.heap [wX8 h_me h_me_reader h_me_machine h_me_isles h_me_court h_me_study h_me_paper h_me_paperCourt h_me_past h_me_pastAhead h_me_movingAhead q_me k_me o_me, wX2 h_me_isles h_me_isles_now q_me_isles k_me_isles z4.2.1, wX4 h_me_isles_now q_me_isles_now k_me_isles_now z4.2.2, wX5 h_me_past q_me_past k_me_past z3] H locs := hw
      obtain ⟨z5, ez5, h⟩ := z_bd h
      refine xj_i (xrV (As := [.int z4.1]) (rest := []) ⟨hx, hb, hml, hown, hts⟩ (m_X8_grant l dC dI _ h_me h_me_reader h_me_machine h_me_isles h_me_court h_me_study h_me_paper h_me_paperCourt h_me_past h_me_pastAhead h_me_movingAhead q_me k_me o_me z4.1 z5 ez5) kw520 kw517 kw519 kw1 kw110 hd_X8_grant ⟨rfl, rfl⟩ rfl rfl ⟨rfl, rfl⟩ hX hK hw [0] (by decide) rfl rfl rfl rfl rfl hl.1 rfl rfl dX8_person_65) hw hA [0] (by decide) rfl rfl (fun H locs hw => ?_)
      have hw : Wd dC dI A s.heap [wX8 h_me h_me_reader h_me_machine h_me_isles h_me_court h_me_study h_me_paper h_me_paperCourt h_me_past h_me_pastAhead h_me_movingAhead q_me k_me z5.2, wX2 h_me_isles h_me_isles_now q_me_isles k_me_isles z4.2.1, wX4 h_me_isles_now q_me_isles_now k_me_isles_now z4.2.2, wX5 h_me_past q_me_past k_me_past z3] H locs := hw
      have hy := Option.some.inj h
      rw [← hQz, ← hy]
      exact xr_i (v := z5.1) hx hb hr rfl hlk hK hw dX8_person_68
    · have h := z_f h c
      refine lv_aload_n hx hb dX8_person_41 rfl (lv_at hl 0 rfl) ?_
      refine lv_bipush (v := (-5)) hx hb dX8_person_42 (by decide) ?_
      obtain ⟨z6, ez6, h⟩ := z_bd h
      refine xj_i (xrV (As := [.int (-5 : Int32)]) (rest := []) ⟨hx, hb, hml, hown, hts⟩ (m_X8_refuse l dC dI _ h_me h_me_reader h_me_machine h_me_isles h_me_court h_me_study h_me_paper h_me_paperCourt h_me_past h_me_pastAhead h_me_movingAhead q_me k_me o_me (-5 : Int32) z6 ez6) kw508 kw505 kw507 kw0 kw110 hd_X8_refuse ⟨rfl, rfl⟩ rfl rfl ⟨rfl, rfl⟩ hX hK hw [0] (by decide) rfl rfl rfl rfl rfl hl.1 rfl rfl dX8_person_44) hw hA [0] (by decide) rfl rfl (fun H locs hw => ?_)
      have hw : Wd dC dI A s.heap [wX8 h_me h_me_reader h_me_machine h_me_isles h_me_court h_me_study h_me_paper h_me_paperCourt h_me_past h_me_pastAhead h_me_movingAhead q_me k_me z6.2, wX2 h_me_isles h_me_isles_now q_me_isles k_me_isles o_me_isles, wX4 h_me_isles_now q_me_isles_now k_me_isles_now o_me_isles_now, wX5 h_me_past q_me_past k_me_past o_me_past] H locs := hw
      have hy := Option.some.inj h
      rw [← hQz, ← hy]
      exact xr_i (v := z6.1) hx hb hr rfl hlk hK hw dX8_person_47
  unfold f_X8_person at h
  refine lv_iload_n hx hb dX8_person_0 rfl (lv_at hl 1 rfl) ?_
  obtain ⟨z1, ez1, h⟩ := z_bd h
  refine xj_i (xrS (As := [.int p0]) (rest := []) ⟨hx, hb, hml, hown, hts⟩ (m_X8_isTrade l dC dI _  p0 z1 ez1) kw500 kw498 kw499 kw110 hd_X8_isTrade ⟨rfl, rfl⟩ rfl rfl ⟨rfl, rfl⟩ hX hK hw [] (by decide) rfl rfl hl.1 rfl rfl dX8_person_1) hw hA [] (by decide) rfl rfl (fun H locs hw => ?_)
  refine lv_if_eq (tgt := 23) hx hb dX8_person_4 (by decide) (fun c => ?_) (fun c => ?_)
  · have h := z_t h c
    exact bk_23_0  o_me o_me_isles o_me_isles_now o_me_past _ _ _ h hw (lv_sub hl [0] rfl)
  · have h := z_f h c
    refine lv_iload_n hx hb dX8_person_7 rfl (lv_at hl 2 rfl) ?_
    refine lv_iconst (v := (-1)) hx hb dX8_person_8 (by decide) ?_
    refine lv_icmp_eq (tgt := 29) hx hb dX8_person_9 (by decide) (fun c => ?_) (fun c => ?_)
    · have h := z_t h c
      exact bk_29_1  p0 p1 o_me o_me_isles o_me_isles_now o_me_past _ _ _ h hw (lv_sub hl [0, 1, 2] rfl)
    · have h := z_f h c
      refine lv_aload_n hx hb dX8_person_12 rfl (lv_at hl 0 rfl) ?_
      refine fgX8_2 hx hb hts hown hK hw 0 rfl kw444 dX8_person_13 ?_
      refine lv_iload_n hx hb dX8_person_16 rfl (lv_at hl 2 rfl) ?_
      obtain ⟨z7, ez7, h⟩ := z_bd h
      refine xj_i (xrV (As := [.int p1]) (rest := []) ⟨hx, hb, hml, hown, hts⟩ (m_X2_isPerson l dC dI _ h_me_isles h_me_isles_now q_me_isles k_me_isles o_me_isles p1 z7 ez7) kw504 kw501 kw502 kw503 kw115 hd_X2_isPerson ⟨rfl, rfl⟩ rfl rfl ⟨rfl, rfl⟩ hX hK hw [1] (by decide) rfl rfl rfl rfl rfl hl.1 rfl rfl dX8_person_17) hw hA [1] (by decide) rfl rfl (fun H locs hw => ?_)
      have hw : Wd dC dI A s.heap [wX8 h_me h_me_reader h_me_machine h_me_isles h_me_court h_me_study h_me_paper h_me_paperCourt h_me_past h_me_pastAhead h_me_movingAhead q_me k_me o_me, wX2 h_me_isles h_me_isles_now q_me_isles k_me_isles o_me_isles, wX4 h_me_isles_now q_me_isles_now k_me_isles_now o_me_isles_now, wX5 h_me_past q_me_past k_me_past o_me_past] H locs := hw
      refine lv_if_ne (tgt := 29) hx hb dX8_person_20 (by decide) (fun c => ?_) (fun c => ?_)
      · have h := z_f h c
        exact bk_29_1  p0 p1 o_me o_me_isles o_me_isles_now o_me_past _ _ _ h hw (lv_sub hl [0, 1, 2] rfl)
      · have h := z_t h c
        exact bk_23_0  o_me o_me_isles o_me_isles_now o_me_past _ _ _ h hw (lv_sub hl [0] rfl)

def f_X8_placed (o_me : Ob) (o_me_machine : Ob) (o_me_isles : Ob) (o_me_isles_now : Ob) (o_me_court : Ob) (o_pool : List CR) (p0 : Int32) (p1 : Int32) : Option (Int32 × Ob × Ob) :=
  (f_X8_isRace p0).bind fun z1 =>
  if z1 = (0 : Int32) then
  (some ((-1 : Int32), o_me_machine, o_me_court))
  else
  ((f_X2_lawInForce o_me_isles).bind fun z2 =>
  (f_X1_lineUp_Q o_me_court o_me_isles o_me_isles_now o_me_machine o_pool z2 p0).bind fun z3 =>
  if p1 = (0 : Int32) then
  (some (z3.1, z3.2.2, z3.2.1))
  else
  ((f_X1_at z3.2.1 p1).bind fun z4 =>
  some (z4, z3.2.2, z3.2.1)))
set_option maxHeartbeats 4000000 in
set_option maxRecDepth 100000 in
theorem m_X8_placed (l : Launch) (dC : Nat → ClassId) (dI : Nat → Nat → Nat) (sz : Nat) (h_me : Nat) (h_me_reader : Nat) (h_me_machine : Nat) (h_me_isles : Nat) (h_me_court : Nat) (h_me_study : Nat) (h_me_paper : Nat) (h_me_paperCourt : Nat) (h_me_past : Nat) (h_me_pastAhead : Nat) (h_me_movingAhead : Nat) (h_me_isles_now : Nat) (q_me : Nat → Nat) (k_me : Nat → ClassId) (q_me_machine : Nat → Nat) (k_me_machine : Nat → ClassId) (q_me_isles : Nat → Nat) (k_me_isles : Nat → ClassId) (q_me_isles_now : Nat → Nat) (k_me_isles_now : Nat → ClassId) (q_me_court : Nat → Nat) (k_me_court : Nat → ClassId) (o_me : Ob) (o_me_machine : Ob) (o_me_isles : Ob) (o_me_isles_now : Ob) (o_me_court : Ob) (o_pool : List CR) (p0 : Int32) (p1 : Int32) (y : Int32 × Ob × Ob) (h : f_X8_placed o_me o_me_machine o_me_isles o_me_isles_now o_me_court o_pool p0 p1 = some y) : CI l yX8_placed cX8_placed 4 (some .int) ({ frames := 5, cells := 0, slots := 0, locals := 133 } : Room) dC dI sz [.ref h_me, .int p0, .int p1] [wX8 h_me h_me_reader h_me_machine h_me_isles h_me_court h_me_study h_me_paper h_me_paperCourt h_me_past h_me_pastAhead h_me_movingAhead q_me k_me o_me, wX3 h_me_machine q_me_machine k_me_machine o_me_machine, wX2 h_me_isles h_me_isles_now q_me_isles k_me_isles o_me_isles, wX4 h_me_isles_now q_me_isles_now k_me_isles_now o_me_isles_now, wX1 h_me_court h_me_isles h_me_machine q_me_court k_me_court o_me_court, wPL o_pool] [tX8 k_me, tX3 k_me_machine, tX2 k_me_isles, tX4 k_me_isles_now, tX1 k_me_court, tPL o_pool] y.1 [wX8 h_me h_me_reader h_me_machine h_me_isles h_me_court h_me_study h_me_paper h_me_paperCourt h_me_past h_me_pastAhead h_me_movingAhead q_me k_me o_me, wX3 h_me_machine q_me_machine k_me_machine y.2.1, wX2 h_me_isles h_me_isles_now q_me_isles k_me_isles o_me_isles, wX4 h_me_isles_now q_me_isles_now k_me_isles_now o_me_isles_now, wX1 h_me_court h_me_isles h_me_machine q_me_court k_me_court y.2.2, wPL o_pool] := by
  refine CC_of (by decide) (Nat.le_of_ble_eq_true rfl) ?_
  intro p e s m below meth c A ls hx hb hml hr hlk hnm hown hts hX hK hP hD hA hl
  have hl : lv_has ls 4 [(0, .ref h_me), (1, .int p0), (2, .int p1)] := hl
  have hown : s.vm.findClass RX8 = some m.cls := hown
  have hw : Wd dC dI A s.heap [wX8 h_me h_me_reader h_me_machine h_me_isles h_me_court h_me_study h_me_paper h_me_paperCourt h_me_past h_me_pastAhead h_me_movingAhead q_me k_me o_me, wX3 h_me_machine q_me_machine k_me_machine o_me_machine, wX2 h_me_isles h_me_isles_now q_me_isles k_me_isles o_me_isles, wX4 h_me_isles_now q_me_isles_now k_me_isles_now o_me_isles_now, wX1 h_me_court h_me_isles h_me_machine q_me_court k_me_court o_me_court, wPL o_pool] s.heap [] := ⟨hP, hD, va_S.rf⟩
  generalize hQz : (MQ below (QI dC dI (fun r (_ : Unit) => r = y.1) (fun _ => Jn [wX8 h_me h_me_reader h_me_machine h_me_isles h_me_court h_me_study h_me_paper h_me_paperCourt h_me_past h_me_pastAhead h_me_movingAhead q_me k_me o_me, wX3 h_me_machine q_me_machine k_me_machine y.2.1, wX2 h_me_isles h_me_isles_now q_me_isles k_me_isles o_me_isles, wX4 h_me_isles_now q_me_isles_now k_me_isles_now o_me_isles_now, wX1 h_me_court h_me_isles h_me_machine q_me_court k_me_court y.2.2, wPL o_pool]) (fun _ => Jt [tX8 k_me, tX3 k_me_machine, tX2 k_me_isles, tX4 k_me_isles_now, tX1 k_me_court, tPL o_pool]) A) ([.ref h_me, .int p0, .int p1] : List Value).toArray s 0 0 A) = Qz
  clear hP hD hnm
  unfold f_X8_placed at h
  refine lv_iload_n hx hb dX8_placed_0 rfl (lv_at hl 1 rfl) ?_
  obtain ⟨z1, ez1, h⟩ := z_bd h
  refine xj_i (xrS (As := [.int p0]) (rest := []) ⟨hx, hb, hml, hown, hts⟩ (m_X8_isRace l dC dI _  p0 z1 ez1) kw527 kw525 kw526 kw110 hd_X8_isRace ⟨rfl, rfl⟩ rfl rfl ⟨rfl, rfl⟩ hX hK hw [] (by decide) rfl rfl hl.1 rfl rfl dX8_placed_1) hw hA [] (by decide) rfl rfl (fun H locs hw => ?_)
  refine lv_if_ne (tgt := 9) hx hb dX8_placed_4 (by decide) (fun c => ?_) (fun c => ?_)
  · have h := z_f h c
    refine lv_aload_n hx hb dX8_placed_9 rfl (lv_at hl 0 rfl) ?_
    refine fgX8_3 hx hb hts hown hK hw 0 rfl kw445 dX8_placed_10 ?_
    refine lv_aload_n hx hb dX8_placed_13 rfl (lv_at hl 0 rfl) ?_
    refine fgX8_2 hx hb hts hown hK hw 0 rfl kw444 dX8_placed_14 ?_
    obtain ⟨z2, ez2, h⟩ := z_bd h
    refine xj_q (xrV (As := []) (rest := [.ref h_me_court]) ⟨hx, hb, hml, hown, hts⟩ (m_X2_lawInForce l dC dI _ h_me_isles h_me_isles_now q_me_isles k_me_isles o_me_isles z2 ez2) kw531 kw528 kw529 kw530 kw115 hd_X2_lawInForce ⟨rfl, rfl⟩ rfl rfl ⟨rfl, rfl⟩ hX hK hw [2] (by decide) rfl rfl rfl rfl rfl hl.1 rfl rfl dX8_placed_17) hw hA [2] (by decide) rfl rfl (fun H locs hw => ?_)
    have hw : Wd dC dI A s.heap [wX8 h_me h_me_reader h_me_machine h_me_isles h_me_court h_me_study h_me_paper h_me_paperCourt h_me_past h_me_pastAhead h_me_movingAhead q_me k_me o_me, wX3 h_me_machine q_me_machine k_me_machine o_me_machine, wX2 h_me_isles h_me_isles_now q_me_isles k_me_isles o_me_isles, wX4 h_me_isles_now q_me_isles_now k_me_isles_now o_me_isles_now, wX1 h_me_court h_me_isles h_me_machine q_me_court k_me_court o_me_court, wPL o_pool] H locs := hw
    refine lv_iload_n hx hb dX8_placed_20 rfl (lv_at hl 1 rfl) ?_
    obtain ⟨z3, ez3, h⟩ := z_bd h
    refine xj_i (xrV (As := [va_rf z2, .int p0]) (rest := []) ⟨hx, hb, hml, hown, hts⟩ (m_X1_lineUp_Q l dC dI _ h_me_court h_me_isles h_me_machine h_me_isles_now q_me_court k_me_court q_me_isles k_me_isles q_me_isles_now k_me_isles_now q_me_machine k_me_machine o_me_court o_me_isles o_me_isles_now o_me_machine o_pool z2 p0 z3 ez3) kw605 kw602 kw603 kw604 kw117 hd_X1_lineUp ⟨rfl, rfl⟩ rfl rfl ⟨rfl, rfl⟩ hX hK hw [4, 2, 3, 1, 5] (by decide) rfl rfl rfl rfl rfl hl.1 rfl rfl dX8_placed_21) hw hA [4, 2, 3, 1, 5] (by decide) rfl rfl (fun H locs hw => ?_)
    have hw : Wd dC dI A s.heap [wX8 h_me h_me_reader h_me_machine h_me_isles h_me_court h_me_study h_me_paper h_me_paperCourt h_me_past h_me_pastAhead h_me_movingAhead q_me k_me o_me, wX3 h_me_machine q_me_machine k_me_machine z3.2.2, wX2 h_me_isles h_me_isles_now q_me_isles k_me_isles o_me_isles, wX4 h_me_isles_now q_me_isles_now k_me_isles_now o_me_isles_now, wX1 h_me_court h_me_isles h_me_machine q_me_court k_me_court z3.2.1, wPL o_pool] H locs := hw
    refine lv_istore_n (lv' := [(3, .int z3.1), (0, .ref h_me), (1, .int p0), (2, .int p1)]) hx hb dX8_placed_24 rfl hl (by decide) rfl (fun ls hl => ?_)
    refine lv_iload_n hx hb dX8_placed_25 rfl (lv_at hl 3 rfl) ?_
    refine lv_if_ne (tgt := 33) hx hb dX8_placed_26 (by decide) (fun c => ?_) (fun c => ?_)
    · have h := z_f h c
      refine lv_aload_n hx hb dX8_placed_33 rfl (lv_at hl 1 rfl) ?_
      refine fgX8_3 hx hb hts hown hK hw 0 rfl kw445 dX8_placed_34 ?_
      refine lv_iload_n hx hb dX8_placed_37 rfl (lv_at hl 3 rfl) ?_
      obtain ⟨z4, ez4, h⟩ := z_bd h
      refine xj_i (xrV (As := [.int p1]) (rest := []) ⟨hx, hb, hml, hown, hts⟩ (m_X1_at l dC dI _ h_me_court h_me_isles h_me_machine q_me_court k_me_court z3.2.1 p1 z4 ez4) kw615 kw612 kw613 kw614 kw117 hd_X1_at ⟨rfl, rfl⟩ rfl rfl ⟨rfl, rfl⟩ hX hK hw [4] (by decide) rfl rfl rfl rfl rfl hl.1 rfl rfl dX8_placed_38) hw hA [4] (by decide) rfl rfl (fun H locs hw => ?_)
      have hw : Wd dC dI A s.heap [wX8 h_me h_me_reader h_me_machine h_me_isles h_me_court h_me_study h_me_paper h_me_paperCourt h_me_past h_me_pastAhead h_me_movingAhead q_me k_me o_me, wX3 h_me_machine q_me_machine k_me_machine z3.2.2, wX2 h_me_isles h_me_isles_now q_me_isles k_me_isles o_me_isles, wX4 h_me_isles_now q_me_isles_now k_me_isles_now o_me_isles_now, wX1 h_me_court h_me_isles h_me_machine q_me_court k_me_court z3.2.1, wPL o_pool] H locs := hw
      have hy := Option.some.inj h
      rw [← hQz, ← hy]
      exact xr_i (v := z4) hx hb hr rfl hlk hK hw dX8_placed_41
    · have h := z_t h c
      refine lv_iload_n hx hb dX8_placed_29 rfl (lv_at hl 0 rfl) ?_
      refine lv_goto (tgt := 41) hx hb dX8_placed_30 (by decide) ?_
      have hy := Option.some.inj h
      rw [← hQz, ← hy]
      exact xr_i (v := z3.1) hx hb hr rfl hlk hK hw dX8_placed_41
  · have h := z_t h c
    refine lv_iconst (v := (-1)) hx hb dX8_placed_7 (by decide) ?_
    have hy := Option.some.inj h
    rw [← hQz, ← hy]
    exact xr_i (v := (-1 : Int32)) hx hb hr rfl hlk hK hw dX8_placed_8

def f_X8_race (o_me : Ob) (o_me_machine : Ob) (o_me_isles : Ob) (o_me_isles_now : Ob) (o_me_court : Ob) (o_me_past : Ob) (o_pool : List CR) (p0 : Int32) : Option (Int32 × Ob × Ob × Ob × Ob × Ob) :=
  (f_X1_moved_O o_me_court o_me_isles o_me_isles_now o_me_machine o_pool o_me_past (0 : Int32) p0).bind fun z1 =>
  (f_X8_answer o_me z1.1).bind fun z2 =>
  some (z2.1, z2.2, z1.2.2.2.1, z1.2.2.1, z1.2.1, z1.2.2.2.2)
set_option maxHeartbeats 4000000 in
set_option maxRecDepth 100000 in
theorem m_X8_race (l : Launch) (dC : Nat → ClassId) (dI : Nat → Nat → Nat) (sz : Nat) (h_me : Nat) (h_me_reader : Nat) (h_me_machine : Nat) (h_me_isles : Nat) (h_me_court : Nat) (h_me_study : Nat) (h_me_paper : Nat) (h_me_paperCourt : Nat) (h_me_past : Nat) (h_me_pastAhead : Nat) (h_me_movingAhead : Nat) (h_me_isles_now : Nat) (q_me : Nat → Nat) (k_me : Nat → ClassId) (q_me_machine : Nat → Nat) (k_me_machine : Nat → ClassId) (q_me_isles : Nat → Nat) (k_me_isles : Nat → ClassId) (q_me_isles_now : Nat → Nat) (k_me_isles_now : Nat → ClassId) (q_me_court : Nat → Nat) (k_me_court : Nat → ClassId) (q_me_past : Nat → Nat) (k_me_past : Nat → ClassId) (o_me : Ob) (o_me_machine : Ob) (o_me_isles : Ob) (o_me_isles_now : Ob) (o_me_court : Ob) (o_me_past : Ob) (o_pool : List CR) (p0 : Int32) (y : Int32 × Ob × Ob × Ob × Ob × Ob) (h : f_X8_race o_me o_me_machine o_me_isles o_me_isles_now o_me_court o_me_past o_pool p0 = some y) : CI l yX8_race cX8_race 2 (some .int) ({ frames := 6, cells := 0, slots := 0, locals := 163 } : Room) dC dI sz [.ref h_me, .int p0] [wX8 h_me h_me_reader h_me_machine h_me_isles h_me_court h_me_study h_me_paper h_me_paperCourt h_me_past h_me_pastAhead h_me_movingAhead q_me k_me o_me, wX3 h_me_machine q_me_machine k_me_machine o_me_machine, wX2 h_me_isles h_me_isles_now q_me_isles k_me_isles o_me_isles, wX4 h_me_isles_now q_me_isles_now k_me_isles_now o_me_isles_now, wX1 h_me_court h_me_isles h_me_machine q_me_court k_me_court o_me_court, wX5 h_me_past q_me_past k_me_past o_me_past, wPL o_pool] [tX8 k_me, tX3 k_me_machine, tX2 k_me_isles, tX4 k_me_isles_now, tX1 k_me_court, tX5 k_me_past, tPL o_pool] y.1 [wX8 h_me h_me_reader h_me_machine h_me_isles h_me_court h_me_study h_me_paper h_me_paperCourt h_me_past h_me_pastAhead h_me_movingAhead q_me k_me y.2.1, wX3 h_me_machine q_me_machine k_me_machine y.2.2.1, wX2 h_me_isles h_me_isles_now q_me_isles k_me_isles o_me_isles, wX4 h_me_isles_now q_me_isles_now k_me_isles_now y.2.2.2.1, wX1 h_me_court h_me_isles h_me_machine q_me_court k_me_court y.2.2.2.2.1, wX5 h_me_past q_me_past k_me_past y.2.2.2.2.2, wPL o_pool] := by
  refine CC_of (by decide) (Nat.le_of_ble_eq_true rfl) ?_
  intro p e s m below meth c A ls hx hb hml hr hlk hnm hown hts hX hK hP hD hA hl
  have hl : lv_has ls 2 [(0, .ref h_me), (1, .int p0)] := hl
  have hown : s.vm.findClass RX8 = some m.cls := hown
  have hw : Wd dC dI A s.heap [wX8 h_me h_me_reader h_me_machine h_me_isles h_me_court h_me_study h_me_paper h_me_paperCourt h_me_past h_me_pastAhead h_me_movingAhead q_me k_me o_me, wX3 h_me_machine q_me_machine k_me_machine o_me_machine, wX2 h_me_isles h_me_isles_now q_me_isles k_me_isles o_me_isles, wX4 h_me_isles_now q_me_isles_now k_me_isles_now o_me_isles_now, wX1 h_me_court h_me_isles h_me_machine q_me_court k_me_court o_me_court, wX5 h_me_past q_me_past k_me_past o_me_past, wPL o_pool] s.heap [] := ⟨hP, hD, va_S.rf⟩
  generalize hQz : (MQ below (QI dC dI (fun r (_ : Unit) => r = y.1) (fun _ => Jn [wX8 h_me h_me_reader h_me_machine h_me_isles h_me_court h_me_study h_me_paper h_me_paperCourt h_me_past h_me_pastAhead h_me_movingAhead q_me k_me y.2.1, wX3 h_me_machine q_me_machine k_me_machine y.2.2.1, wX2 h_me_isles h_me_isles_now q_me_isles k_me_isles o_me_isles, wX4 h_me_isles_now q_me_isles_now k_me_isles_now y.2.2.2.1, wX1 h_me_court h_me_isles h_me_machine q_me_court k_me_court y.2.2.2.2.1, wX5 h_me_past q_me_past k_me_past y.2.2.2.2.2, wPL o_pool]) (fun _ => Jt [tX8 k_me, tX3 k_me_machine, tX2 k_me_isles, tX4 k_me_isles_now, tX1 k_me_court, tX5 k_me_past, tPL o_pool]) A) ([.ref h_me, .int p0] : List Value).toArray s 0 0 A) = Qz
  clear hP hD hnm
  unfold f_X8_race at h
  refine lv_aload_n hx hb dX8_race_0 rfl (lv_at hl 0 rfl) ?_
  refine lv_aload_n hx hb dX8_race_1 rfl (lv_at hl 0 rfl) ?_
  refine fgX8_3 hx hb hts hown hK hw 0 rfl kw445 dX8_race_2 ?_
  refine lv_iconst (v := 0) hx hb dX8_race_5 (by decide) ?_
  refine lv_iload_n hx hb dX8_race_6 rfl (lv_at hl 1 rfl) ?_
  refine lv_aload_n hx hb dX8_race_7 rfl (lv_at hl 0 rfl) ?_
  refine fgX8_8 hx hb hts hown hK hw 0 rfl kw450 dX8_race_8 ?_
  obtain ⟨z1, ez1, h⟩ := z_bd h
  refine xj_i (xrV (As := [.int (0 : Int32), .int p0, .ref h_me_past]) (rest := [.ref h_me]) ⟨hx, hb, hml, hown, hts⟩ (m_X1_moved_O l dC dI _ h_me_court h_me_isles h_me_machine h_me_isles_now h_me_past q_me_court k_me_court q_me_isles k_me_isles q_me_isles_now k_me_isles_now q_me_machine k_me_machine q_me_past k_me_past o_me_court o_me_isles o_me_isles_now o_me_machine o_pool o_me_past (0 : Int32) p0 z1 ez1) kw852 kw849 kw850 kw851 kw117 hd_X1_moved ⟨rfl, rfl⟩ rfl rfl ⟨rfl, rfl⟩ hX hK hw [4, 2, 3, 1, 6, 5] (by decide) rfl rfl rfl rfl rfl hl.1 rfl rfl dX8_race_11) hw hA [4, 2, 3, 1, 6, 5] (by decide) rfl rfl (fun H locs hw => ?_)
  have hw : Wd dC dI A s.heap [wX8 h_me h_me_reader h_me_machine h_me_isles h_me_court h_me_study h_me_paper h_me_paperCourt h_me_past h_me_pastAhead h_me_movingAhead q_me k_me o_me, wX3 h_me_machine q_me_machine k_me_machine z1.2.2.2.1, wX2 h_me_isles h_me_isles_now q_me_isles k_me_isles o_me_isles, wX4 h_me_isles_now q_me_isles_now k_me_isles_now z1.2.2.1, wX1 h_me_court h_me_isles h_me_machine q_me_court k_me_court z1.2.1, wX5 h_me_past q_me_past k_me_past z1.2.2.2.2, wPL o_pool] H locs := hw
  obtain ⟨z2, ez2, h⟩ := z_bd h
  refine xj_i (xrV (As := [.int z1.1]) (rest := []) ⟨hx, hb, hml, hown, hts⟩ (m_X8_answer l dC dI _ h_me h_me_reader h_me_machine h_me_isles h_me_court h_me_study h_me_paper h_me_paperCourt h_me_past h_me_pastAhead h_me_movingAhead q_me k_me o_me z1.1 z2 ez2) kw918 kw915 kw917 kw26 kw110 hd_X8_answer ⟨rfl, rfl⟩ rfl rfl ⟨rfl, rfl⟩ hX hK hw [0] (by decide) rfl rfl rfl rfl rfl hl.1 rfl rfl dX8_race_14) hw hA [0] (by decide) rfl rfl (fun H locs hw => ?_)
  have hw : Wd dC dI A s.heap [wX8 h_me h_me_reader h_me_machine h_me_isles h_me_court h_me_study h_me_paper h_me_paperCourt h_me_past h_me_pastAhead h_me_movingAhead q_me k_me z2.2, wX3 h_me_machine q_me_machine k_me_machine z1.2.2.2.1, wX2 h_me_isles h_me_isles_now q_me_isles k_me_isles o_me_isles, wX4 h_me_isles_now q_me_isles_now k_me_isles_now z1.2.2.1, wX1 h_me_court h_me_isles h_me_machine q_me_court k_me_court z1.2.1, wX5 h_me_past q_me_past k_me_past z1.2.2.2.2, wPL o_pool] H locs := hw
  have hy := Option.some.inj h
  rw [← hQz, ← hy]
  exact xr_i (v := z2.1) hx hb hr rfl hlk hK hw dX8_race_17

def f_X7_brokenBy (o_me : Ob) (o_me_court_isles : Ob) (p0 : Int32) (p1 : Int32) : Option (Int32) :=
  zgd (zin p0 7) <|
  (f_J6_bitCount_0f7a4 ((gA o_me_court_isles 3 p0.toNatClampNeg) &&& p1)).bind fun z2 =>
  zgd (zin (p1 ||| ((1 : Int32) <<< (p0 &&& 31))) 640) <|
  some (z2 + (gA o_me 4 (p1 ||| ((1 : Int32) <<< (p0 &&& 31))).toNatClampNeg))
set_option maxHeartbeats 4000000 in
set_option maxRecDepth 100000 in
theorem m_X7_brokenBy (l : Launch) (dC : Nat → ClassId) (dI : Nat → Nat → Nat) (sz : Nat) (h_me : Nat) (h_me_court : Nat) (h_me_court_isles : Nat) (h_me_court_isles_now : Nat) (q_me : Nat → Nat) (k_me : Nat → ClassId) (q_me_court_isles : Nat → Nat) (k_me_court_isles : Nat → ClassId) (o_me : Ob) (o_me_court_isles : Ob) (p0 : Int32) (p1 : Int32) (y : Int32) (h : f_X7_brokenBy o_me o_me_court_isles p0 p1 = some y) : CI l yX7_brokenBy cX7_brokenBy 3 (some .int) ({ frames := 1, cells := 0, slots := 0, locals := 20 } : Room) dC dI sz [.ref h_me, .int p0, .int p1] [wX7 h_me h_me_court h_me_court_isles q_me k_me o_me, wX2 h_me_court_isles h_me_court_isles_now q_me_court_isles k_me_court_isles o_me_court_isles] [tX7 k_me, tX2 k_me_court_isles] y [wX7 h_me h_me_court h_me_court_isles q_me k_me o_me, wX2 h_me_court_isles h_me_court_isles_now q_me_court_isles k_me_court_isles o_me_court_isles] := by
  refine CC_of (by decide) (Nat.le_of_ble_eq_true rfl) ?_
  intro p e s m below meth c A ls hx hb hml hr hlk hnm hown hts hX hK hP hD hA hl
  have hl : lv_has ls 3 [(0, .ref h_me), (1, .int p0), (2, .int p1)] := hl
  have hown : s.vm.findClass RX7 = some m.cls := hown
  have hw : Wd dC dI A s.heap [wX7 h_me h_me_court h_me_court_isles q_me k_me o_me, wX2 h_me_court_isles h_me_court_isles_now q_me_court_isles k_me_court_isles o_me_court_isles] s.heap [] := ⟨hP, hD, va_S.rf⟩
  generalize hQz : (MQ below (QI dC dI (fun r (_ : Unit) => r = y) (fun _ => Jn [wX7 h_me h_me_court h_me_court_isles q_me k_me o_me, wX2 h_me_court_isles h_me_court_isles_now q_me_court_isles k_me_court_isles o_me_court_isles]) (fun _ => Jt [tX7 k_me, tX2 k_me_court_isles]) A) ([.ref h_me, .int p0, .int p1] : List Value).toArray s 0 0 A) = Qz
  clear hP hD hnm
  unfold f_X7_brokenBy at h
  refine lv_aload_n hx hb dX7_brokenBy_0 rfl (lv_at hl 0 rfl) ?_
  refine fgX7_1 hx hb hts hown hK hw 0 rfl kw387 dX7_brokenBy_1 ?_
  refine fgX2_3 hx hb hts hown hK hw 1 rfl kw309 dX7_brokenBy_4 ?_
  refine lv_iload_n hx hb dX7_brokenBy_7 rfl (lv_at hl 1 rfl) ?_
  obtain ⟨g1, h⟩ := z_gd h
  refine faX2_3 hx hb hK hw 1 rfl rfl g1 dX7_brokenBy_8 ?_
  refine lv_iload_n hx hb dX7_brokenBy_9 rfl (lv_at hl 2 rfl) ?_
  refine lv_iand hx hb dX7_brokenBy_10 ?_
  obtain ⟨z2, ez2, h⟩ := z_bd h
  refine xj_i (xrS (As := [.int ((gA o_me_court_isles 3 p0.toNatClampNeg) &&& p1)]) (rest := []) ⟨hx, hb, hml, hown, hts⟩ (m_J6_bitCount_0f7a4 l dC dI _  ((gA o_me_court_isles 3 p0.toNatClampNeg) &&& p1) z2 ez2) kw842 kw962 kw841 kw126 hd_J6_bitCount_0f7a4 ⟨rfl, rfl⟩ rfl rfl ⟨rfl, rfl⟩ hX hK hw [] (by decide) rfl rfl hl.1 rfl rfl dX7_brokenBy_11) hw hA [] (by decide) rfl rfl (fun H locs hw => ?_)
  refine lv_aload_n hx hb dX7_brokenBy_14 rfl (lv_at hl 0 rfl) ?_
  refine fgX7_4 hx hb hts hown hK hw 0 rfl kw391 dX7_brokenBy_15 ?_
  refine lv_iload_n hx hb dX7_brokenBy_18 rfl (lv_at hl 2 rfl) ?_
  refine lv_iconst (v := 1) hx hb dX7_brokenBy_19 (by decide) ?_
  refine lv_iload_n hx hb dX7_brokenBy_20 rfl (lv_at hl 1 rfl) ?_
  refine lv_ishl hx hb dX7_brokenBy_21 ?_
  refine lv_ior hx hb dX7_brokenBy_22 ?_
  obtain ⟨g3, h⟩ := z_gd h
  refine faX7_4 hx hb hK hw 0 rfl rfl g3 dX7_brokenBy_23 ?_
  refine lv_iadd hx hb dX7_brokenBy_24 ?_
  have hy := Option.some.inj h
  rw [← hQz, ← hy]
  exact xr_i (v := z2 + (gA o_me 4 (p1 ||| ((1 : Int32) <<< (p0 &&& 31))).toNatClampNeg)) hx hb hr rfl hlk hK hw dX7_brokenBy_25

def bk_X7_firstNext_38 (o_me : Ob) (o_me_court_isles : Ob) (rec_2_0 : Int32 × Int32 → Option (Int32)) (v1 : Int32) (v2 : Int32) : Option (Int32) :=
  zlt (v2 + (1 : Int32)) fun x1 =>
  rec_2_0 (v1, x1)
def lb_X7_firstNext_2 (o_me : Ob) (o_me_court_isles : Ob)  (rec_2_0 : Int32 × Int32 → Option (Int32)) (v1 : Int32) (v2 : Int32) : Option (Int32) :=
  if (gI o_me_court_isles 7) ≤ v2 then
  (some (0 : Int32))
  else
  (if ((v1 >>> (v2 &&& 31)) &&& (1 : Int32)) = (0 : Int32) then
  ((f_X7_brokenBy o_me o_me_court_isles v2 v1).bind fun z2 =>
  zgd (zin v1 640) <|
  if z2 = (gA o_me 4 v1.toNatClampNeg) then
  (some v2)
  else
  (bk_X7_firstNext_38 o_me o_me_court_isles rec_2_0 v1 v2))
  else
  (bk_X7_firstNext_38 o_me o_me_court_isles rec_2_0 v1 v2))
def lp_X7_firstNext_2 (o_me : Ob) (o_me_court_isles : Ob)  : Nat → (Int32 × Int32) → Option (Int32) := zit (fun rec a => lb_X7_firstNext_2 o_me o_me_court_isles  rec a.1 a.2)
def f_X7_firstNext (o_me : Ob) (o_me_court_isles : Ob) (p0 : Int32) : Option (Int32) :=
  lp_X7_firstNext_2 o_me o_me_court_isles  zfu (p0, (0 : Int32))
set_option maxHeartbeats 4000000 in
set_option maxRecDepth 100000 in
theorem m_X7_firstNext (l : Launch) (dC : Nat → ClassId) (dI : Nat → Nat → Nat) (sz : Nat) (h_me : Nat) (h_me_court : Nat) (h_me_court_isles : Nat) (h_me_court_isles_now : Nat) (q_me : Nat → Nat) (k_me : Nat → ClassId) (q_me_court_isles : Nat → Nat) (k_me_court_isles : Nat → ClassId) (o_me : Ob) (o_me_court_isles : Ob) (p0 : Int32) (y : Int32) (h : f_X7_firstNext o_me o_me_court_isles p0 = some y) : CI l yX7_firstNext cX7_firstNext 3 (some .int) ({ frames := 2, cells := 0, slots := 0, locals := 42 } : Room) dC dI sz [.ref h_me, .int p0] [wX7 h_me h_me_court h_me_court_isles q_me k_me o_me, wX2 h_me_court_isles h_me_court_isles_now q_me_court_isles k_me_court_isles o_me_court_isles] [tX7 k_me, tX2 k_me_court_isles] y [wX7 h_me h_me_court h_me_court_isles q_me k_me o_me, wX2 h_me_court_isles h_me_court_isles_now q_me_court_isles k_me_court_isles o_me_court_isles] := by
  refine CC_of (by decide) (Nat.le_of_ble_eq_true rfl) ?_
  intro p e s m below meth c A ls hx hb hml hr hlk hnm hown hts hX hK hP hD hA hl
  have hl : lv_has ls 3 [(0, .ref h_me), (1, .int p0)] := hl
  have hown : s.vm.findClass RX7 = some m.cls := hown
  have hw : Wd dC dI A s.heap [wX7 h_me h_me_court h_me_court_isles q_me k_me o_me, wX2 h_me_court_isles h_me_court_isles_now q_me_court_isles k_me_court_isles o_me_court_isles] s.heap [] := ⟨hP, hD, va_S.rf⟩
  generalize hQz : (MQ below (QI dC dI (fun r (_ : Unit) => r = y) (fun _ => Jn [wX7 h_me h_me_court h_me_court_isles q_me k_me o_me, wX2 h_me_court_isles h_me_court_isles_now q_me_court_isles k_me_court_isles o_me_court_isles]) (fun _ => Jt [tX7 k_me, tX2 k_me_court_isles]) A) ([.ref h_me, .int p0] : List Value).toArray s 0 0 A) = Qz
  clear hP hD hnm
  have bk_38_1 : ∀ (rec_2_0 : Int32 × Int32 → Option (Int32)) (hrec_2_0 : ∀ (v1 : Int32) (v2 : Int32) (H : Heap) (locs : List Loc) (ls : Array Slot), rec_2_0 (v1, v2) = some y → Wd dC dI A s.heap [wX7 h_me h_me_court h_me_court_isles q_me k_me o_me, wX2 h_me_court_isles h_me_court_isles_now q_me_court_isles k_me_court_isles o_me_court_isles] H locs → lv_has ls 3 [(0, .ref h_me), (1, .int v1), (2, .int v2)] → W p l e ({ frames := 2, cells := 0, slots := 0, locals := 42 } : Room) s m ([.ref h_me, .int p0] : List Value).toArray below meth c H locs 0 0 Qz (F0 m 2 ls [])), ∀ (v1 : Int32) (v2 : Int32) (H : Heap) (locs : List Loc) (ls : Array Slot), bk_X7_firstNext_38 o_me o_me_court_isles rec_2_0 v1 v2 = some y → Wd dC dI A s.heap [wX7 h_me h_me_court h_me_court_isles q_me k_me o_me, wX2 h_me_court_isles h_me_court_isles_now q_me_court_isles k_me_court_isles o_me_court_isles] H locs → lv_has ls 3 [(0, .ref h_me), (1, .int v1), (2, .int v2)] → W p l e ({ frames := 2, cells := 0, slots := 0, locals := 42 } : Room) s m ([.ref h_me, .int p0] : List Value).toArray below meth c H locs 0 0 Qz (F0 m 38 ls []) := by
    intro rec_2_0 hrec_2_0
    intro v1 v2 H locs ls h hw hl
    unfold bk_X7_firstNext_38 at h
    obtain ⟨x1, ex1, h⟩ := z_lt h
    refine lv_iinc (v := x1) (lv' := [(2, .int x1), (0, .ref h_me), (1, .int v1)]) hx hb dX7_firstNext_38 hl (k := 2) rfl ((congrArg (v2 + ·) (show Int32.ofInt 1 = (1 : Int32) from by decide)).trans ex1.symm) (by decide) rfl (fun ls hl => ?_)
    refine lv_goto (tgt := 2) hx hb dX7_firstNext_41 (by decide) ?_
    exact hrec_2_0 v1 x1 _ _ _ h hw (lv_sub hl [1, 2, 0] rfl)
  have lp_2_0 : ∀ (N : Nat), ∀ (v1 : Int32) (v2 : Int32) (H : Heap) (locs : List Loc) (ls : Array Slot), lp_X7_firstNext_2 o_me o_me_court_isles  N (v1, v2) = some y → Wd dC dI A s.heap [wX7 h_me h_me_court h_me_court_isles q_me k_me o_me, wX2 h_me_court_isles h_me_court_isles_now q_me_court_isles k_me_court_isles o_me_court_isles] H locs → lv_has ls 3 [(0, .ref h_me), (1, .int v1), (2, .int v2)] → W p l e ({ frames := 2, cells := 0, slots := 0, locals := 42 } : Room) s m ([.ref h_me, .int p0] : List Value).toArray below meth c H locs 0 0 Qz (F0 m 2 ls []) := by
    intro N
    induction N with
    | zero =>
      intro v1 v2 H locs ls h hw hl
      exact absurd (show (none : Option (Int32)) = some y from h) (by simp)
    | succ N ih =>
      intro v1 v2 H locs ls h hw hl
      have h : lb_X7_firstNext_2 o_me o_me_court_isles  (lp_X7_firstNext_2 o_me o_me_court_isles  N) v1 v2 = some y := h
      unfold lb_X7_firstNext_2 at h
      refine lv_iload_n hx hb dX7_firstNext_2 rfl (lv_at hl 2 rfl) ?_
      refine lv_aload_n hx hb dX7_firstNext_3 rfl (lv_at hl 0 rfl) ?_
      refine fgX7_1 hx hb hts hown hK hw 0 rfl kw387 dX7_firstNext_4 ?_
      refine fgX2_7 hx hb hts hown hK hw 1 rfl kw316 dX7_firstNext_7 ?_
      refine lv_icmp_ge (tgt := 44) hx hb dX7_firstNext_10 (by decide) (fun c => ?_) (fun c => ?_)
      · have h := z_t h c
        refine lv_iconst (v := 0) hx hb dX7_firstNext_44 (by decide) ?_
        have hy := Option.some.inj h
        rw [← hQz, ← hy]
        exact xr_i (v := (0 : Int32)) hx hb hr rfl hlk hK hw dX7_firstNext_45
      · have h := z_f h c
        refine lv_iload_n hx hb dX7_firstNext_13 rfl (lv_at hl 1 rfl) ?_
        refine lv_iload_n hx hb dX7_firstNext_14 rfl (lv_at hl 2 rfl) ?_
        refine lv_ishr hx hb dX7_firstNext_15 ?_
        refine lv_iconst (v := 1) hx hb dX7_firstNext_16 (by decide) ?_
        refine lv_iand hx hb dX7_firstNext_17 ?_
        refine lv_if_ne (tgt := 38) hx hb dX7_firstNext_18 (by decide) (fun c => ?_) (fun c => ?_)
        · have h := z_f h c
          exact bk_38_1 (lp_X7_firstNext_2 o_me o_me_court_isles  N) ih v1 v2 _ _ _ h hw (lv_sub hl [0, 1, 2] rfl)
        · have h := z_t h c
          refine lv_aload_n hx hb dX7_firstNext_21 rfl (lv_at hl 0 rfl) ?_
          refine lv_iload_n hx hb dX7_firstNext_22 rfl (lv_at hl 2 rfl) ?_
          refine lv_iload_n hx hb dX7_firstNext_23 rfl (lv_at hl 1 rfl) ?_
          obtain ⟨z2, ez2, h⟩ := z_bd h
          refine xj_i (xrV (As := [.int v2, .int v1]) (rest := []) ⟨hx, hb, hml, hown, hts⟩ (m_X7_brokenBy l dC dI _ h_me h_me_court h_me_court_isles h_me_court_isles_now q_me k_me q_me_court_isles k_me_court_isles o_me o_me_court_isles v2 v1 z2 ez2) kw1020 kw1017 kw1019 kw31 kw118 hd_X7_brokenBy ⟨rfl, rfl⟩ rfl rfl ⟨rfl, rfl⟩ hX hK hw [0, 1] (by decide) rfl rfl rfl rfl rfl hl.1 rfl rfl dX7_firstNext_24) hw hA [0, 1] (by decide) rfl rfl (fun H locs hw => ?_)
          have hw : Wd dC dI A s.heap [wX7 h_me h_me_court h_me_court_isles q_me k_me o_me, wX2 h_me_court_isles h_me_court_isles_now q_me_court_isles k_me_court_isles o_me_court_isles] H locs := hw
          refine lv_aload_n hx hb dX7_firstNext_27 rfl (lv_at hl 0 rfl) ?_
          refine fgX7_4 hx hb hts hown hK hw 0 rfl kw391 dX7_firstNext_28 ?_
          refine lv_iload_n hx hb dX7_firstNext_31 rfl (lv_at hl 1 rfl) ?_
          obtain ⟨g3, h⟩ := z_gd h
          refine faX7_4 hx hb hK hw 0 rfl rfl g3 dX7_firstNext_32 ?_
          refine lv_icmp_ne (tgt := 38) hx hb dX7_firstNext_33 (by decide) (fun c => ?_) (fun c => ?_)
          · have h := z_f h c
            exact bk_38_1 (lp_X7_firstNext_2 o_me o_me_court_isles  N) ih v1 v2 _ _ _ h hw (lv_sub hl [0, 1, 2] rfl)
          · have h := z_t h c
            refine lv_iload_n hx hb dX7_firstNext_36 rfl (lv_at hl 2 rfl) ?_
            have hy := Option.some.inj h
            rw [← hQz, ← hy]
            exact xr_i (v := v2) hx hb hr rfl hlk hK hw dX7_firstNext_37
  unfold f_X7_firstNext at h
  refine lv_iconst (v := 0) hx hb dX7_firstNext_0 (by decide) ?_
  refine lv_istore_n (lv' := [(2, .int (0 : Int32)), (0, .ref h_me), (1, .int p0)]) hx hb dX7_firstNext_1 rfl hl (by decide) rfl (fun ls hl => ?_)
  exact lp_2_0  zfu p0 (0 : Int32) _ _ _ h hw (lv_sub hl [1, 2, 0] rfl)

def lb_X7_rankAll_90 (o_me_court_isles : Ob)  (rec_90_1 : Int32 × Int32 × Ob → Option (Int32 × Ob)) (v2 : Int32) (v3 : Int32) (o_me : Ob) : Option (Int32 × Ob) :=
  if (gI o_me_court_isles 7) ≤ v3 then
  (some (gA o_me 4 (0 : Int32).toNatClampNeg, o_me))
  else
  ((f_X7_firstNext o_me o_me_court_isles v2).bind fun z5 =>
  zgd (zin v3 7) <|
  zlt (tA o_me 2 v3.toNatClampNeg z5) fun o7 =>
  zlt (v2 ||| ((1 : Int32) <<< (z5 &&& 31))) fun x8 =>
  zlt (v3 + (1 : Int32)) fun x9 =>
  rec_90_1 (x8, x9, o7))
def lp_X7_rankAll_90 (o_me_court_isles : Ob)  : Nat → (Int32 × Int32 × Ob) → Option (Int32 × Ob) := zit (fun rec a => lb_X7_rankAll_90 o_me_court_isles  rec a.1 a.2.1 a.2.2)
def bk_X7_rankAll_67 (o_me_court_isles : Ob) (rec_23_0 : Int32 × Ob → Option (Int32 × Ob)) (rec_34_2 : Int32 × Int32 × Int32 × Ob → Option (Int32 × Ob)) (v2 : Int32) (v3 : Int32) (v4 : Int32) (o_me : Ob) : Option (Int32 × Ob) :=
  zlt (v4 + (1 : Int32)) fun x13 =>
  rec_34_2 (v2, v3, x13, o_me)
def lb_X7_rankAll_34 (o_me_court_isles : Ob) (rec_23_0 : Int32 × Ob → Option (Int32 × Ob)) (rec_34_2 : Int32 × Int32 × Int32 × Ob → Option (Int32 × Ob)) (v2 : Int32) (v3 : Int32) (v4 : Int32) (o_me : Ob) : Option (Int32 × Ob) :=
  if (gI o_me_court_isles 7) ≤ v4 then
  (zgd (zin v2 640) <|
  zlt (tA o_me 4 v2.toNatClampNeg v3) fun o11 =>
  zlt (v2 + (-1 : Int32)) fun x12 =>
  rec_23_0 (x12, o11))
  else
  (if ((v2 >>> (v4 &&& 31)) &&& (1 : Int32)) = (0 : Int32) then
  ((f_X7_brokenBy o_me o_me_court_isles v4 v2).bind fun z14 =>
  zlt (if z14 < v3 then z14 else v3) fun x15 =>
  bk_X7_rankAll_67 o_me_court_isles rec_23_0 rec_34_2 v2 x15 v4 o_me)
  else
  (bk_X7_rankAll_67 o_me_court_isles rec_23_0 rec_34_2 v2 v3 v4 o_me))
def lp_X7_rankAll_34 (o_me_court_isles : Ob) (rec_23_0 : Int32 × Ob → Option (Int32 × Ob)) : Nat → (Int32 × Int32 × Int32 × Ob) → Option (Int32 × Ob) := zit (fun rec a => lb_X7_rankAll_34 o_me_court_isles rec_23_0 rec a.1 a.2.1 a.2.2.1 a.2.2.2)
def lb_X7_rankAll_23 (o_me_court_isles : Ob)  (rec_23_0 : Int32 × Ob → Option (Int32 × Ob)) (v2 : Int32) (o_me : Ob) : Option (Int32 × Ob) :=
  if v2 < (0 : Int32) then
  (lp_X7_rankAll_90 o_me_court_isles  zfu ((0 : Int32), (0 : Int32), o_me))
  else
  (lp_X7_rankAll_34 o_me_court_isles rec_23_0 zfu (v2, (1000 : Int32), (0 : Int32), o_me))
def lp_X7_rankAll_23 (o_me_court_isles : Ob)  : Nat → (Int32 × Ob) → Option (Int32 × Ob) := zit (fun rec a => lb_X7_rankAll_23 o_me_court_isles  rec a.1 a.2)
def f_X7_rankAll (o_me : Ob) (o_me_court_isles : Ob) : Option (Int32 × Ob) :=
  zlt (((1 : Int32) <<< ((gI o_me_court_isles 7) &&& 31)) - (1 : Int32)) fun x1 =>
  zgd (zin x1 640) <|
  zlt (tA o_me 4 x1.toNatClampNeg (0 : Int32)) fun o3 =>
  zlt (x1 - (1 : Int32)) fun x4 =>
  lp_X7_rankAll_23 o_me_court_isles  zfu (x4, o3)
set_option maxHeartbeats 4000000 in
set_option maxRecDepth 100000 in
theorem m_X7_rankAll (l : Launch) (dC : Nat → ClassId) (dI : Nat → Nat → Nat) (sz : Nat) (h_me : Nat) (h_me_court : Nat) (h_me_court_isles : Nat) (h_me_court_isles_now : Nat) (q_me : Nat → Nat) (k_me : Nat → ClassId) (q_me_court_isles : Nat → Nat) (k_me_court_isles : Nat → ClassId) (o_me : Ob) (o_me_court_isles : Ob) (y : Int32 × Ob) (h : f_X7_rankAll o_me o_me_court_isles = some y) : CI l yX7_rankAll cX7_rankAll 5 (some .int) ({ frames := 3, cells := 0, slots := 0, locals := 64 } : Room) dC dI sz [.ref h_me] [wX7 h_me h_me_court h_me_court_isles q_me k_me o_me, wX2 h_me_court_isles h_me_court_isles_now q_me_court_isles k_me_court_isles o_me_court_isles] [tX7 k_me, tX2 k_me_court_isles] y.1 [wX7 h_me h_me_court h_me_court_isles q_me k_me y.2, wX2 h_me_court_isles h_me_court_isles_now q_me_court_isles k_me_court_isles o_me_court_isles] := by
  refine CC_of (by decide) (Nat.le_of_ble_eq_true rfl) ?_
  intro p e s m below meth c A ls hx hb hml hr hlk hnm hown hts hX hK hP hD hA hl
  have hl : lv_has ls 5 [(0, .ref h_me)] := hl
  have hown : s.vm.findClass RX7 = some m.cls := hown
  have hw : Wd dC dI A s.heap [wX7 h_me h_me_court h_me_court_isles q_me k_me o_me, wX2 h_me_court_isles h_me_court_isles_now q_me_court_isles k_me_court_isles o_me_court_isles] s.heap [] := ⟨hP, hD, va_S.rf⟩
  generalize hQz : (MQ below (QI dC dI (fun r (_ : Unit) => r = y.1) (fun _ => Jn [wX7 h_me h_me_court h_me_court_isles q_me k_me y.2, wX2 h_me_court_isles h_me_court_isles_now q_me_court_isles k_me_court_isles o_me_court_isles]) (fun _ => Jt [tX7 k_me, tX2 k_me_court_isles]) A) ([.ref h_me] : List Value).toArray s 0 0 A) = Qz
  clear hP hD hnm
  have lp_90_1 : ∀ (N : Nat), ∀ (v2 : Int32) (v3 : Int32) (o_me : Ob) (H : Heap) (locs : List Loc) (ls : Array Slot), lp_X7_rankAll_90 o_me_court_isles  N (v2, v3, o_me) = some y → Wd dC dI A s.heap [wX7 h_me h_me_court h_me_court_isles q_me k_me o_me, wX2 h_me_court_isles h_me_court_isles_now q_me_court_isles k_me_court_isles o_me_court_isles] H locs → lv_has ls 5 [(0, .ref h_me), (2, .int v2), (3, .int v3)] → W p l e ({ frames := 3, cells := 0, slots := 0, locals := 64 } : Room) s m ([.ref h_me] : List Value).toArray below meth c H locs 0 0 Qz (F0 m 90 ls []) := by
    intro N
    induction N with
    | zero =>
      intro v2 v3 o_me H locs ls h hw hl
      exact absurd (show (none : Option (Int32 × Ob)) = some y from h) (by simp)
    | succ N ih =>
      intro v2 v3 o_me H locs ls h hw hl
      have h : lb_X7_rankAll_90 o_me_court_isles  (lp_X7_rankAll_90 o_me_court_isles  N) v2 v3 o_me = some y := h
      unfold lb_X7_rankAll_90 at h
      refine lv_iload_n hx hb dX7_rankAll_90 rfl (lv_at hl 2 rfl) ?_
      refine lv_aload_n hx hb dX7_rankAll_91 rfl (lv_at hl 0 rfl) ?_
      refine fgX7_1 hx hb hts hown hK hw 0 rfl kw387 dX7_rankAll_92 ?_
      refine fgX2_7 hx hb hts hown hK hw 1 rfl kw316 dX7_rankAll_95 ?_
      refine lv_icmp_ge (tgt := 129) hx hb dX7_rankAll_98 (by decide) (fun c => ?_) (fun c => ?_)
      · have h := z_t h c
        refine lv_aload_n hx hb dX7_rankAll_129 rfl (lv_at hl 0 rfl) ?_
        refine fgX7_4 hx hb hts hown hK hw 0 rfl kw391 dX7_rankAll_130 ?_
        refine lv_iconst (v := 0) hx hb dX7_rankAll_133 (by decide) ?_
        refine faX7_4 hx hb hK hw 0 rfl rfl (by decide) dX7_rankAll_134 ?_
        have hy := Option.some.inj h
        rw [← hQz, ← hy]
        exact xr_i (v := gA o_me 4 (0 : Int32).toNatClampNeg) hx hb hr rfl hlk hK hw dX7_rankAll_135
      · have h := z_f h c
        refine lv_aload_n hx hb dX7_rankAll_101 rfl (lv_at hl 0 rfl) ?_
        refine lv_iload_n hx hb dX7_rankAll_102 rfl (lv_at hl 1 rfl) ?_
        obtain ⟨z5, ez5, h⟩ := z_bd h
        refine xj_i (xrV (As := [.int v2]) (rest := []) ⟨hx, hb, hml, hown, hts⟩ (m_X7_firstNext l dC dI _ h_me h_me_court h_me_court_isles h_me_court_isles_now q_me k_me q_me_court_isles k_me_court_isles o_me o_me_court_isles v2 z5 ez5) kw1025 kw1022 kw1024 kw32 kw118 hd_X7_firstNext ⟨rfl, rfl⟩ rfl rfl ⟨rfl, rfl⟩ hX hK hw [0, 1] (by decide) rfl rfl rfl rfl rfl hl.1 rfl rfl dX7_rankAll_103) hw hA [0, 1] (by decide) rfl rfl (fun H locs hw => ?_)
        have hw : Wd dC dI A s.heap [wX7 h_me h_me_court h_me_court_isles q_me k_me o_me, wX2 h_me_court_isles h_me_court_isles_now q_me_court_isles k_me_court_isles o_me_court_isles] H locs := hw
        refine lv_istore (lv' := [(4, .int z5), (0, .ref h_me), (2, .int v2), (3, .int v3)]) hx hb dX7_rankAll_106 hl (by decide) rfl (fun ls hl => ?_)
        refine lv_aload_n hx hb dX7_rankAll_108 rfl (lv_at hl 1 rfl) ?_
        refine fgX7_2 hx hb hts hown hK hw 0 rfl kw388 dX7_rankAll_109 ?_
        refine lv_iload_n hx hb dX7_rankAll_112 rfl (lv_at hl 3 rfl) ?_
        refine lv_iload hx hb dX7_rankAll_113 (lv_at hl 0 rfl) ?_
        obtain ⟨g6, h⟩ := z_gd h
        refine fbX7_2 hx hb hK hw 0 rfl rfl g6 dX7_rankAll_115 (fun H locs hw => ?_)
        obtain ⟨o7, eo7, h⟩ := z_lt h
        have hw : Wd dC dI A s.heap [wX7 h_me h_me_court h_me_court_isles q_me k_me o7, wX2 h_me_court_isles h_me_court_isles_now q_me_court_isles k_me_court_isles o_me_court_isles] H locs := by rw [eo7]; exact hw
        refine lv_iload_n hx hb dX7_rankAll_116 rfl (lv_at hl 2 rfl) ?_
        refine lv_iconst (v := 1) hx hb dX7_rankAll_117 (by decide) ?_
        refine lv_iload hx hb dX7_rankAll_118 (lv_at hl 0 rfl) ?_
        refine lv_ishl hx hb dX7_rankAll_120 ?_
        refine lv_ior hx hb dX7_rankAll_121 ?_
        obtain ⟨x8, ex8, h⟩ := z_lt h
        refine lv_fi (v := x8) ex8.symm ?_
        refine lv_istore_n (lv' := [(2, .int x8), (4, .int z5), (0, .ref h_me), (3, .int v3)]) hx hb dX7_rankAll_122 rfl hl (by decide) rfl (fun ls hl => ?_)
        obtain ⟨x9, ex9, h⟩ := z_lt h
        refine lv_iinc (v := x9) (lv' := [(3, .int x9), (2, .int x8), (4, .int z5), (0, .ref h_me)]) hx hb dX7_rankAll_123 hl (k := 3) rfl ((congrArg (v3 + ·) (show Int32.ofInt 1 = (1 : Int32) from by decide)).trans ex9.symm) (by decide) rfl (fun ls hl => ?_)
        refine lv_goto (tgt := 90) hx hb dX7_rankAll_126 (by decide) ?_
        exact ih x8 x9 o7 _ _ _ h hw (lv_sub hl [3, 1, 0] rfl)
  have bk_67_3 : ∀ (rec_23_0 : Int32 × Ob → Option (Int32 × Ob)) (hrec_23_0 : ∀ (v2 : Int32) (o_me : Ob) (H : Heap) (locs : List Loc) (ls : Array Slot), rec_23_0 (v2, o_me) = some y → Wd dC dI A s.heap [wX7 h_me h_me_court h_me_court_isles q_me k_me o_me, wX2 h_me_court_isles h_me_court_isles_now q_me_court_isles k_me_court_isles o_me_court_isles] H locs → lv_has ls 5 [(0, .ref h_me), (2, .int v2)] → W p l e ({ frames := 3, cells := 0, slots := 0, locals := 64 } : Room) s m ([.ref h_me] : List Value).toArray below meth c H locs 0 0 Qz (F0 m 23 ls [])) (rec_34_2 : Int32 × Int32 × Int32 × Ob → Option (Int32 × Ob)) (hrec_34_2 : ∀ (v2 : Int32) (v3 : Int32) (v4 : Int32) (o_me : Ob) (H : Heap) (locs : List Loc) (ls : Array Slot), rec_34_2 (v2, v3, v4, o_me) = some y → Wd dC dI A s.heap [wX7 h_me h_me_court h_me_court_isles q_me k_me o_me, wX2 h_me_court_isles h_me_court_isles_now q_me_court_isles k_me_court_isles o_me_court_isles] H locs → lv_has ls 5 [(0, .ref h_me), (2, .int v2), (3, .int v3), (4, .int v4)] → W p l e ({ frames := 3, cells := 0, slots := 0, locals := 64 } : Room) s m ([.ref h_me] : List Value).toArray below meth c H locs 0 0 Qz (F0 m 34 ls [])), ∀ (v2 : Int32) (v3 : Int32) (v4 : Int32) (o_me : Ob) (H : Heap) (locs : List Loc) (ls : Array Slot), bk_X7_rankAll_67 o_me_court_isles rec_23_0 rec_34_2 v2 v3 v4 o_me = some y → Wd dC dI A s.heap [wX7 h_me h_me_court h_me_court_isles q_me k_me o_me, wX2 h_me_court_isles h_me_court_isles_now q_me_court_isles k_me_court_isles o_me_court_isles] H locs → lv_has ls 5 [(0, .ref h_me), (2, .int v2), (3, .int v3), (4, .int v4)] → W p l e ({ frames := 3, cells := 0, slots := 0, locals := 64 } : Room) s m ([.ref h_me] : List Value).toArray below meth c H locs 0 0 Qz (F0 m 67 ls []) := by
    intro rec_23_0 hrec_23_0 rec_34_2 hrec_34_2
    intro v2 v3 v4 o_me H locs ls h hw hl
    unfold bk_X7_rankAll_67 at h
    obtain ⟨x13, ex13, h⟩ := z_lt h
    refine lv_iinc (v := x13) (lv' := [(4, .int x13), (0, .ref h_me), (2, .int v2), (3, .int v3)]) hx hb dX7_rankAll_67 hl (k := 3) rfl ((congrArg (v4 + ·) (show Int32.ofInt 1 = (1 : Int32) from by decide)).trans ex13.symm) (by decide) rfl (fun ls hl => ?_)
    refine lv_goto (tgt := 34) hx hb dX7_rankAll_70 (by decide) ?_
    exact hrec_34_2 v2 v3 x13 o_me _ _ _ h hw (lv_sub hl [1, 2, 3, 0] rfl)
  have lp_34_2 : ∀ (rec_23_0 : Int32 × Ob → Option (Int32 × Ob)) (hrec_23_0 : ∀ (v2 : Int32) (o_me : Ob) (H : Heap) (locs : List Loc) (ls : Array Slot), rec_23_0 (v2, o_me) = some y → Wd dC dI A s.heap [wX7 h_me h_me_court h_me_court_isles q_me k_me o_me, wX2 h_me_court_isles h_me_court_isles_now q_me_court_isles k_me_court_isles o_me_court_isles] H locs → lv_has ls 5 [(0, .ref h_me), (2, .int v2)] → W p l e ({ frames := 3, cells := 0, slots := 0, locals := 64 } : Room) s m ([.ref h_me] : List Value).toArray below meth c H locs 0 0 Qz (F0 m 23 ls [])) (N : Nat), ∀ (v2 : Int32) (v3 : Int32) (v4 : Int32) (o_me : Ob) (H : Heap) (locs : List Loc) (ls : Array Slot), lp_X7_rankAll_34 o_me_court_isles rec_23_0 N (v2, v3, v4, o_me) = some y → Wd dC dI A s.heap [wX7 h_me h_me_court h_me_court_isles q_me k_me o_me, wX2 h_me_court_isles h_me_court_isles_now q_me_court_isles k_me_court_isles o_me_court_isles] H locs → lv_has ls 5 [(0, .ref h_me), (2, .int v2), (3, .int v3), (4, .int v4)] → W p l e ({ frames := 3, cells := 0, slots := 0, locals := 64 } : Room) s m ([.ref h_me] : List Value).toArray below meth c H locs 0 0 Qz (F0 m 34 ls []) := by
    intro rec_23_0 hrec_23_0
    intro N
    induction N with
    | zero =>
      intro v2 v3 v4 o_me H locs ls h hw hl
      exact absurd (show (none : Option (Int32 × Ob)) = some y from h) (by simp)
    | succ N ih =>
      intro v2 v3 v4 o_me H locs ls h hw hl
      have h : lb_X7_rankAll_34 o_me_court_isles rec_23_0 (lp_X7_rankAll_34 o_me_court_isles rec_23_0 N) v2 v3 v4 o_me = some y := h
      unfold lb_X7_rankAll_34 at h
      refine lv_iload hx hb dX7_rankAll_34 (lv_at hl 3 rfl) ?_
      refine lv_aload_n hx hb dX7_rankAll_36 rfl (lv_at hl 0 rfl) ?_
      refine fgX7_1 hx hb hts hown hK hw 0 rfl kw387 dX7_rankAll_37 ?_
      refine fgX2_7 hx hb hts hown hK hw 1 rfl kw316 dX7_rankAll_40 ?_
      refine lv_icmp_ge (tgt := 73) hx hb dX7_rankAll_43 (by decide) (fun c => ?_) (fun c => ?_)
      · have h := z_t h c
        refine lv_aload_n hx hb dX7_rankAll_73 rfl (lv_at hl 0 rfl) ?_
        refine fgX7_4 hx hb hts hown hK hw 0 rfl kw391 dX7_rankAll_74 ?_
        refine lv_iload_n hx hb dX7_rankAll_77 rfl (lv_at hl 1 rfl) ?_
        refine lv_iload_n hx hb dX7_rankAll_78 rfl (lv_at hl 2 rfl) ?_
        obtain ⟨g10, h⟩ := z_gd h
        refine fbX7_4 hx hb hK hw 0 rfl rfl g10 dX7_rankAll_79 (fun H locs hw => ?_)
        obtain ⟨o11, eo11, h⟩ := z_lt h
        have hw : Wd dC dI A s.heap [wX7 h_me h_me_court h_me_court_isles q_me k_me o11, wX2 h_me_court_isles h_me_court_isles_now q_me_court_isles k_me_court_isles o_me_court_isles] H locs := by rw [eo11]; exact hw
        obtain ⟨x12, ex12, h⟩ := z_lt h
        refine lv_iinc (v := x12) (lv' := [(2, .int x12), (0, .ref h_me), (3, .int v3), (4, .int v4)]) hx hb dX7_rankAll_80 hl (k := 1) rfl ((congrArg (v2 + ·) (show Int32.ofInt (-1) = (-1 : Int32) from by decide)).trans ex12.symm) (by decide) rfl (fun ls hl => ?_)
        refine lv_goto (tgt := 23) hx hb dX7_rankAll_83 (by decide) ?_
        exact hrec_23_0 x12 o11 _ _ _ h hw (lv_sub hl [1, 0] rfl)
      · have h := z_f h c
        refine lv_iload_n hx hb dX7_rankAll_46 rfl (lv_at hl 1 rfl) ?_
        refine lv_iload hx hb dX7_rankAll_47 (lv_at hl 3 rfl) ?_
        refine lv_ishr hx hb dX7_rankAll_49 ?_
        refine lv_iconst (v := 1) hx hb dX7_rankAll_50 (by decide) ?_
        refine lv_iand hx hb dX7_rankAll_51 ?_
        refine lv_if_ne (tgt := 67) hx hb dX7_rankAll_52 (by decide) (fun c => ?_) (fun c => ?_)
        · have h := z_f h c
          exact bk_67_3 rec_23_0 hrec_23_0 (lp_X7_rankAll_34 o_me_court_isles rec_23_0 N) ih v2 v3 v4 o_me _ _ _ h hw (lv_sub hl [0, 1, 2, 3] rfl)
        · have h := z_t h c
          refine lv_iload_n hx hb dX7_rankAll_55 rfl (lv_at hl 2 rfl) ?_
          refine lv_aload_n hx hb dX7_rankAll_56 rfl (lv_at hl 0 rfl) ?_
          refine lv_iload hx hb dX7_rankAll_57 (lv_at hl 3 rfl) ?_
          refine lv_iload_n hx hb dX7_rankAll_59 rfl (lv_at hl 1 rfl) ?_
          obtain ⟨z14, ez14, h⟩ := z_bd h
          refine xj_i (xrV (As := [.int v4, .int v2]) (rest := [.int v3]) ⟨hx, hb, hml, hown, hts⟩ (m_X7_brokenBy l dC dI _ h_me h_me_court h_me_court_isles h_me_court_isles_now q_me k_me q_me_court_isles k_me_court_isles o_me o_me_court_isles v4 v2 z14 ez14) kw1020 kw1017 kw1019 kw31 kw118 hd_X7_brokenBy ⟨rfl, rfl⟩ rfl rfl ⟨rfl, rfl⟩ hX hK hw [0, 1] (by decide) rfl rfl rfl rfl rfl hl.1 rfl rfl dX7_rankAll_60) hw hA [0, 1] (by decide) rfl rfl (fun H locs hw => ?_)
          have hw : Wd dC dI A s.heap [wX7 h_me h_me_court h_me_court_isles q_me k_me o_me, wX2 h_me_court_isles h_me_court_isles_now q_me_court_isles k_me_court_isles o_me_court_isles] H locs := hw
          refine va_mmin hx hb (hml.trans hl.1.symm) hown (hts _ kw1021) (hts _ kw561) (hts _ kw113) (hts _ kw562) (Nat.le_of_ble_eq_true rfl) (Nat.le_of_ble_eq_true rfl) (Nat.le_of_ble_eq_true rfl) (Nat.le_of_ble_eq_true rfl) dX7_rankAll_63 ?_
          obtain ⟨x15, ex15, h⟩ := z_lt h
          refine lv_fi (v := x15) ex15.symm ?_
          refine lv_istore_n (lv' := [(3, .int x15), (0, .ref h_me), (2, .int v2), (4, .int v4)]) hx hb dX7_rankAll_66 rfl hl (by decide) rfl (fun ls hl => ?_)
          exact bk_67_3 rec_23_0 hrec_23_0 (lp_X7_rankAll_34 o_me_court_isles rec_23_0 N) ih v2 x15 v4 o_me _ _ _ h hw (lv_sub hl [1, 2, 0, 3] rfl)
  have lp_23_0 : ∀ (N : Nat), ∀ (v2 : Int32) (o_me : Ob) (H : Heap) (locs : List Loc) (ls : Array Slot), lp_X7_rankAll_23 o_me_court_isles  N (v2, o_me) = some y → Wd dC dI A s.heap [wX7 h_me h_me_court h_me_court_isles q_me k_me o_me, wX2 h_me_court_isles h_me_court_isles_now q_me_court_isles k_me_court_isles o_me_court_isles] H locs → lv_has ls 5 [(0, .ref h_me), (2, .int v2)] → W p l e ({ frames := 3, cells := 0, slots := 0, locals := 64 } : Room) s m ([.ref h_me] : List Value).toArray below meth c H locs 0 0 Qz (F0 m 23 ls []) := by
    intro N
    induction N with
    | zero =>
      intro v2 o_me H locs ls h hw hl
      exact absurd (show (none : Option (Int32 × Ob)) = some y from h) (by simp)
    | succ N ih =>
      intro v2 o_me H locs ls h hw hl
      have h : lb_X7_rankAll_23 o_me_court_isles  (lp_X7_rankAll_23 o_me_court_isles  N) v2 o_me = some y := h
      unfold lb_X7_rankAll_23 at h
      refine lv_iload_n hx hb dX7_rankAll_23 rfl (lv_at hl 1 rfl) ?_
      refine lv_if_lt (tgt := 86) hx hb dX7_rankAll_24 (by decide) (fun c => ?_) (fun c => ?_)
      · have h := z_t h c
        refine lv_iconst (v := 0) hx hb dX7_rankAll_86 (by decide) ?_
        refine lv_istore_n (lv' := [(2, .int (0 : Int32)), (0, .ref h_me)]) hx hb dX7_rankAll_87 rfl hl (by decide) rfl (fun ls hl => ?_)
        refine lv_iconst (v := 0) hx hb dX7_rankAll_88 (by decide) ?_
        refine lv_istore_n (lv' := [(3, .int (0 : Int32)), (2, .int (0 : Int32)), (0, .ref h_me)]) hx hb dX7_rankAll_89 rfl hl (by decide) rfl (fun ls hl => ?_)
        exact lp_90_1  zfu (0 : Int32) (0 : Int32) o_me _ _ _ h hw (lv_sub hl [2, 1, 0] rfl)
      · have h := z_f h c
        refine lv_sipush (v := 1000) hx hb dX7_rankAll_27 (by decide) ?_
        refine lv_istore_n (lv' := [(3, .int (1000 : Int32)), (0, .ref h_me), (2, .int v2)]) hx hb dX7_rankAll_30 rfl hl (by decide) rfl (fun ls hl => ?_)
        refine lv_iconst (v := 0) hx hb dX7_rankAll_31 (by decide) ?_
        refine lv_istore (lv' := [(4, .int (0 : Int32)), (3, .int (1000 : Int32)), (0, .ref h_me), (2, .int v2)]) hx hb dX7_rankAll_32 hl (by decide) rfl (fun ls hl => ?_)
        exact lp_34_2 (lp_X7_rankAll_23 o_me_court_isles  N) ih zfu v2 (1000 : Int32) (0 : Int32) o_me _ _ _ h hw (lv_sub hl [2, 3, 1, 0] rfl)
  unfold f_X7_rankAll at h
  refine lv_iconst (v := 1) hx hb dX7_rankAll_0 (by decide) ?_
  refine lv_aload_n hx hb dX7_rankAll_1 rfl (lv_at hl 0 rfl) ?_
  refine fgX7_1 hx hb hts hown hK hw 0 rfl kw387 dX7_rankAll_2 ?_
  refine fgX2_7 hx hb hts hown hK hw 1 rfl kw316 dX7_rankAll_5 ?_
  refine lv_ishl hx hb dX7_rankAll_8 ?_
  refine lv_iconst (v := 1) hx hb dX7_rankAll_9 (by decide) ?_
  refine lv_isub hx hb dX7_rankAll_10 ?_
  obtain ⟨x1, ex1, h⟩ := z_lt h
  refine lv_fi (v := x1) ex1.symm ?_
  refine lv_istore_n (lv' := [(1, .int x1), (0, .ref h_me)]) hx hb dX7_rankAll_11 rfl hl (by decide) rfl (fun ls hl => ?_)
  refine lv_aload_n hx hb dX7_rankAll_12 rfl (lv_at hl 1 rfl) ?_
  refine fgX7_4 hx hb hts hown hK hw 0 rfl kw391 dX7_rankAll_13 ?_
  refine lv_iload_n hx hb dX7_rankAll_16 rfl (lv_at hl 0 rfl) ?_
  refine lv_iconst (v := 0) hx hb dX7_rankAll_17 (by decide) ?_
  obtain ⟨g2, h⟩ := z_gd h
  refine fbX7_4 hx hb hK hw 0 rfl rfl g2 dX7_rankAll_18 (fun H locs hw => ?_)
  obtain ⟨o3, eo3, h⟩ := z_lt h
  have hw : Wd dC dI A s.heap [wX7 h_me h_me_court h_me_court_isles q_me k_me o3, wX2 h_me_court_isles h_me_court_isles_now q_me_court_isles k_me_court_isles o_me_court_isles] H locs := by rw [eo3]; exact hw
  refine lv_iload_n hx hb dX7_rankAll_19 rfl (lv_at hl 0 rfl) ?_
  refine lv_iconst (v := 1) hx hb dX7_rankAll_20 (by decide) ?_
  refine lv_isub hx hb dX7_rankAll_21 ?_
  obtain ⟨x4, ex4, h⟩ := z_lt h
  refine lv_fi (v := x4) ex4.symm ?_
  refine lv_istore_n (lv' := [(2, .int x4), (1, .int x1), (0, .ref h_me)]) hx hb dX7_rankAll_22 rfl hl (by decide) rfl (fun ls hl => ?_)
  exact lp_23_0  zfu x4 o3 _ _ _ h hw (lv_sub hl [2, 0] rfl)

def f_X8_ranking (o_me : Ob) (o_me_isles : Ob) (o_me_study : Ob) (p0 : Int32) : Option (Int32 × Ob) :=
  if p0 < (0 : Int32) then
  (some ((-1 : Int32), o_me_study))
  else
  (if p0 ≤ (gI o_me_isles 7) then
  ((f_X7_rankAll o_me_study o_me_isles).bind fun z1 =>
  if p0 = (0 : Int32) then
  (some (z1.1, z1.2))
  else
  (zgd (zin (p0 - (1 : Int32)) 7) <|
  some (gA z1.2 2 (p0 - (1 : Int32)).toNatClampNeg, z1.2)))
  else
  (some ((-1 : Int32), o_me_study)))
set_option maxHeartbeats 4000000 in
set_option maxRecDepth 100000 in
theorem m_X8_ranking (l : Launch) (dC : Nat → ClassId) (dI : Nat → Nat → Nat) (sz : Nat) (h_me : Nat) (h_me_reader : Nat) (h_me_machine : Nat) (h_me_isles : Nat) (h_me_court : Nat) (h_me_study : Nat) (h_me_paper : Nat) (h_me_paperCourt : Nat) (h_me_past : Nat) (h_me_pastAhead : Nat) (h_me_movingAhead : Nat) (h_me_isles_now : Nat) (q_me : Nat → Nat) (k_me : Nat → ClassId) (q_me_isles : Nat → Nat) (k_me_isles : Nat → ClassId) (q_me_study : Nat → Nat) (k_me_study : Nat → ClassId) (o_me : Ob) (o_me_isles : Ob) (o_me_study : Ob) (p0 : Int32) (y : Int32 × Ob) (h : f_X8_ranking o_me o_me_isles o_me_study p0 = some y) : CI l yX8_ranking cX8_ranking 3 (some .int) ({ frames := 4, cells := 0, slots := 0, locals := 88 } : Room) dC dI sz [.ref h_me, .int p0] [wX8 h_me h_me_reader h_me_machine h_me_isles h_me_court h_me_study h_me_paper h_me_paperCourt h_me_past h_me_pastAhead h_me_movingAhead q_me k_me o_me, wX2 h_me_isles h_me_isles_now q_me_isles k_me_isles o_me_isles, wX7 h_me_study h_me_court h_me_isles q_me_study k_me_study o_me_study] [tX8 k_me, tX2 k_me_isles, tX7 k_me_study] y.1 [wX8 h_me h_me_reader h_me_machine h_me_isles h_me_court h_me_study h_me_paper h_me_paperCourt h_me_past h_me_pastAhead h_me_movingAhead q_me k_me o_me, wX2 h_me_isles h_me_isles_now q_me_isles k_me_isles o_me_isles, wX7 h_me_study h_me_court h_me_isles q_me_study k_me_study y.2] := by
  refine CC_of (by decide) (Nat.le_of_ble_eq_true rfl) ?_
  intro p e s m below meth c A ls hx hb hml hr hlk hnm hown hts hX hK hP hD hA hl
  have hl : lv_has ls 3 [(0, .ref h_me), (1, .int p0)] := hl
  have hown : s.vm.findClass RX8 = some m.cls := hown
  have hw : Wd dC dI A s.heap [wX8 h_me h_me_reader h_me_machine h_me_isles h_me_court h_me_study h_me_paper h_me_paperCourt h_me_past h_me_pastAhead h_me_movingAhead q_me k_me o_me, wX2 h_me_isles h_me_isles_now q_me_isles k_me_isles o_me_isles, wX7 h_me_study h_me_court h_me_isles q_me_study k_me_study o_me_study] s.heap [] := ⟨hP, hD, va_S.rf⟩
  generalize hQz : (MQ below (QI dC dI (fun r (_ : Unit) => r = y.1) (fun _ => Jn [wX8 h_me h_me_reader h_me_machine h_me_isles h_me_court h_me_study h_me_paper h_me_paperCourt h_me_past h_me_pastAhead h_me_movingAhead q_me k_me o_me, wX2 h_me_isles h_me_isles_now q_me_isles k_me_isles o_me_isles, wX7 h_me_study h_me_court h_me_isles q_me_study k_me_study y.2]) (fun _ => Jt [tX8 k_me, tX2 k_me_isles, tX7 k_me_study]) A) ([.ref h_me, .int p0] : List Value).toArray s 0 0 A) = Qz
  clear hP hD hnm
  unfold f_X8_ranking at h
  refine lv_iload_n hx hb dX8_ranking_0 rfl (lv_at hl 1 rfl) ?_
  refine lv_if_lt (tgt := 15) hx hb dX8_ranking_1 (by decide) (fun c => ?_) (fun c => ?_)
  · have h := z_t h c
    refine lv_iconst (v := (-1)) hx hb dX8_ranking_15 (by decide) ?_
    have hy := Option.some.inj h
    rw [← hQz, ← hy]
    exact xr_i (v := (-1 : Int32)) hx hb hr rfl hlk hK hw dX8_ranking_16
  · have h := z_f h c
    refine lv_iload_n hx hb dX8_ranking_4 rfl (lv_at hl 1 rfl) ?_
    refine lv_aload_n hx hb dX8_ranking_5 rfl (lv_at hl 0 rfl) ?_
    refine fgX8_2 hx hb hts hown hK hw 0 rfl kw444 dX8_ranking_6 ?_
    refine fgX2_7 hx hb hts hown hK hw 1 rfl kw317 dX8_ranking_9 ?_
    refine lv_icmp_le (tgt := 17) hx hb dX8_ranking_12 (by decide) (fun c => ?_) (fun c => ?_)
    · have h := z_t h c
      refine lv_aload_n hx hb dX8_ranking_17 rfl (lv_at hl 0 rfl) ?_
      refine fgX8_4 hx hb hts hown hK hw 0 rfl kw446 dX8_ranking_18 ?_
      obtain ⟨z1, ez1, h⟩ := z_bd h
      refine xj_i (xrV (As := []) (rest := []) ⟨hx, hb, hml, hown, hts⟩ (m_X7_rankAll l dC dI _ h_me_study h_me_court h_me_isles h_me_isles_now q_me_study k_me_study q_me_isles k_me_isles o_me_study o_me_isles z1 ez1) kw1016 kw1013 kw1014 kw1015 kw118 hd_X7_rankAll ⟨rfl, rfl⟩ rfl rfl ⟨rfl, rfl⟩ hX hK hw [2, 1] (by decide) rfl rfl rfl rfl rfl hl.1 rfl rfl dX8_ranking_21) hw hA [2, 1] (by decide) rfl rfl (fun H locs hw => ?_)
      have hw : Wd dC dI A s.heap [wX8 h_me h_me_reader h_me_machine h_me_isles h_me_court h_me_study h_me_paper h_me_paperCourt h_me_past h_me_pastAhead h_me_movingAhead q_me k_me o_me, wX2 h_me_isles h_me_isles_now q_me_isles k_me_isles o_me_isles, wX7 h_me_study h_me_court h_me_isles q_me_study k_me_study z1.2] H locs := hw
      refine lv_istore_n (lv' := [(2, .int z1.1), (0, .ref h_me), (1, .int p0)]) hx hb dX8_ranking_24 rfl hl (by decide) rfl (fun ls hl => ?_)
      refine lv_iload_n hx hb dX8_ranking_25 rfl (lv_at hl 2 rfl) ?_
      refine lv_if_ne (tgt := 33) hx hb dX8_ranking_26 (by decide) (fun c => ?_) (fun c => ?_)
      · have h := z_f h c
        refine lv_aload_n hx hb dX8_ranking_33 rfl (lv_at hl 1 rfl) ?_
        refine fgX8_4 hx hb hts hown hK hw 0 rfl kw446 dX8_ranking_34 ?_
        refine fgX7_2 hx hb hts hown hK hw 2 rfl kw389 dX8_ranking_37 ?_
        refine lv_iload_n hx hb dX8_ranking_40 rfl (lv_at hl 2 rfl) ?_
        refine lv_iconst (v := 1) hx hb dX8_ranking_41 (by decide) ?_
        refine lv_isub hx hb dX8_ranking_42 ?_
        obtain ⟨g2, h⟩ := z_gd h
        refine faX7_2 hx hb hK hw 2 rfl rfl g2 dX8_ranking_43 ?_
        have hy := Option.some.inj h
        rw [← hQz, ← hy]
        exact xr_i (v := gA z1.2 2 (p0 - (1 : Int32)).toNatClampNeg) hx hb hr rfl hlk hK hw dX8_ranking_44
      · have h := z_t h c
        refine lv_iload_n hx hb dX8_ranking_29 rfl (lv_at hl 0 rfl) ?_
        refine lv_goto (tgt := 44) hx hb dX8_ranking_30 (by decide) ?_
        have hy := Option.some.inj h
        rw [← hQz, ← hy]
        exact xr_i (v := z1.1) hx hb hr rfl hlk hK hw dX8_ranking_44
    · have h := z_f h c
      refine lv_iconst (v := (-1)) hx hb dX8_ranking_15 (by decide) ?_
      have hy := Option.some.inj h
      rw [← hQz, ← hy]
      exact xr_i (v := (-1 : Int32)) hx hb hr rfl hlk hK hw dX8_ranking_16

def lb_X8_tellRow_65 (o_me : Ob) (o_me_reader : Ob)  (rec_65_1 : Int32 × Int32 × Int32 × Ob → Option (Int32 × Ob)) (v1 : Int32) (v2 : Int32) (v3 : Int32) (o_me_isles : Ob) : Option (Int32 × Ob) :=
  if (4 : Int32) ≤ v3 then
  (some ((1 : Int32), o_me_isles))
  else
  ((f_X6_byteAt o_me_reader ((v1 + (1 : Int32)) + v3)).bind fun z3 =>
  zgd (zin ((v2 * (4 : Int32)) + v3) 28) <|
  zlt (tA o_me_isles 2 ((v2 * (4 : Int32)) + v3).toNatClampNeg z3) fun o5 =>
  zlt (v3 + (1 : Int32)) fun x6 =>
  rec_65_1 (v1, v2, x6, o5))
def lp_X8_tellRow_65 (o_me : Ob) (o_me_reader : Ob)  : Nat → (Int32 × Int32 × Int32 × Ob) → Option (Int32 × Ob) := zit (fun rec a => lb_X8_tellRow_65 o_me o_me_reader  rec a.1 a.2.1 a.2.2.1 a.2.2.2)
def lb_X8_tellRow_24 (o_me : Ob) (o_me_reader : Ob)  (rec_24_0 : Int32 × Int32 × Int32 × Ob → Option (Int32 × Ob)) (v1 : Int32) (v2 : Int32) (v3 : Int32) (o_me_isles : Ob) : Option (Int32 × Ob) :=
  if (4 : Int32) ≤ v3 then
  (lp_X8_tellRow_65 o_me o_me_reader  zfu (v1, v2, (0 : Int32), o_me_isles))
  else
  ((f_X6_byteAt o_me_reader ((v1 + (1 : Int32)) + v3)).bind fun z7 =>
  if z7 < (0 : Int32) then
  (some ((0 : Int32), o_me_isles))
  else
  (if z7 ≤ (9 : Int32) then
  (zlt (v3 + (1 : Int32)) fun x8 =>
  rec_24_0 (v1, v2, x8, o_me_isles))
  else
  (some ((0 : Int32), o_me_isles))))
def lp_X8_tellRow_24 (o_me : Ob) (o_me_reader : Ob)  : Nat → (Int32 × Int32 × Int32 × Ob) → Option (Int32 × Ob) := zit (fun rec a => lb_X8_tellRow_24 o_me o_me_reader  rec a.1 a.2.1 a.2.2.1 a.2.2.2)
def f_X8_tellRow (o_me : Ob) (o_me_reader : Ob) (o_me_isles : Ob) (p0 : Int32) : Option (Int32 × Ob) :=
  (f_X6_byteAt o_me_reader p0).bind fun z1 =>
  (f_X2_isPerson o_me_isles z1).bind fun z2 =>
  if z2 = (0 : Int32) then
  (some ((0 : Int32), o_me_isles))
  else
  (lp_X8_tellRow_24 o_me o_me_reader  zfu (p0, z1, (0 : Int32), o_me_isles))
set_option maxHeartbeats 4000000 in
set_option maxRecDepth 100000 in
theorem m_X8_tellRow (l : Launch) (dC : Nat → ClassId) (dI : Nat → Nat → Nat) (sz : Nat) (h_me : Nat) (h_me_reader : Nat) (h_me_machine : Nat) (h_me_isles : Nat) (h_me_court : Nat) (h_me_study : Nat) (h_me_paper : Nat) (h_me_paperCourt : Nat) (h_me_past : Nat) (h_me_pastAhead : Nat) (h_me_movingAhead : Nat) (h_me_reader_code : Nat) (h_me_isles_now : Nat) (q_me : Nat → Nat) (k_me : Nat → ClassId) (q_me_reader : Nat → Nat) (k_me_reader : Nat → ClassId) (q_me_isles : Nat → Nat) (k_me_isles : Nat → ClassId) (o_me : Ob) (o_me_reader : Ob) (o_me_isles : Ob) (p0 : Int32) (y : Int32 × Ob) (h : f_X8_tellRow o_me o_me_reader o_me_isles p0 = some y) : CI l yX8_tellRow cX8_tellRow 5 (some .boolean) ({ frames := 1, cells := 0, slots := 0, locals := 21 } : Room) dC dI sz [.ref h_me, .int p0] [wX8 h_me h_me_reader h_me_machine h_me_isles h_me_court h_me_study h_me_paper h_me_paperCourt h_me_past h_me_pastAhead h_me_movingAhead q_me k_me o_me, wX6 h_me_reader h_me_reader_code q_me_reader k_me_reader o_me_reader, wX2 h_me_isles h_me_isles_now q_me_isles k_me_isles o_me_isles] [tX8 k_me, tX6 k_me_reader, tX2 k_me_isles] y.1 [wX8 h_me h_me_reader h_me_machine h_me_isles h_me_court h_me_study h_me_paper h_me_paperCourt h_me_past h_me_pastAhead h_me_movingAhead q_me k_me o_me, wX6 h_me_reader h_me_reader_code q_me_reader k_me_reader o_me_reader, wX2 h_me_isles h_me_isles_now q_me_isles k_me_isles y.2] := by
  refine CC_of (by decide) (Nat.le_of_ble_eq_true rfl) ?_
  intro p e s m below meth c A ls hx hb hml hr hlk hnm hown hts hX hK hP hD hA hl
  have hl : lv_has ls 5 [(0, .ref h_me), (1, .int p0)] := hl
  have hown : s.vm.findClass RX8 = some m.cls := hown
  have hw : Wd dC dI A s.heap [wX8 h_me h_me_reader h_me_machine h_me_isles h_me_court h_me_study h_me_paper h_me_paperCourt h_me_past h_me_pastAhead h_me_movingAhead q_me k_me o_me, wX6 h_me_reader h_me_reader_code q_me_reader k_me_reader o_me_reader, wX2 h_me_isles h_me_isles_now q_me_isles k_me_isles o_me_isles] s.heap [] := ⟨hP, hD, va_S.rf⟩
  generalize hQz : (MQ below (QI dC dI (fun r (_ : Unit) => r = y.1) (fun _ => Jn [wX8 h_me h_me_reader h_me_machine h_me_isles h_me_court h_me_study h_me_paper h_me_paperCourt h_me_past h_me_pastAhead h_me_movingAhead q_me k_me o_me, wX6 h_me_reader h_me_reader_code q_me_reader k_me_reader o_me_reader, wX2 h_me_isles h_me_isles_now q_me_isles k_me_isles y.2]) (fun _ => Jt [tX8 k_me, tX6 k_me_reader, tX2 k_me_isles]) A) ([.ref h_me, .int p0] : List Value).toArray s 0 0 A) = Qz
  clear hP hD hnm
  have lp_65_1 : ∀ (N : Nat), ∀ (v1 : Int32) (v2 : Int32) (v3 : Int32) (o_me_isles : Ob) (H : Heap) (locs : List Loc) (ls : Array Slot), lp_X8_tellRow_65 o_me o_me_reader  N (v1, v2, v3, o_me_isles) = some y → Wd dC dI A s.heap [wX8 h_me h_me_reader h_me_machine h_me_isles h_me_court h_me_study h_me_paper h_me_paperCourt h_me_past h_me_pastAhead h_me_movingAhead q_me k_me o_me, wX6 h_me_reader h_me_reader_code q_me_reader k_me_reader o_me_reader, wX2 h_me_isles h_me_isles_now q_me_isles k_me_isles o_me_isles] H locs → lv_has ls 5 [(0, .ref h_me), (1, .int v1), (2, .int v2), (3, .int v3)] → W p l e ({ frames := 1, cells := 0, slots := 0, locals := 21 } : Room) s m ([.ref h_me, .int p0] : List Value).toArray below meth c H locs 0 0 Qz (F0 m 65 ls []) := by
    intro N
    induction N with
    | zero =>
      intro v1 v2 v3 o_me_isles H locs ls h hw hl
      exact absurd (show (none : Option (Int32 × Ob)) = some y from h) (by simp)
    | succ N ih =>
      intro v1 v2 v3 o_me_isles H locs ls h hw hl
      have h : lb_X8_tellRow_65 o_me o_me_reader  (lp_X8_tellRow_65 o_me o_me_reader  N) v1 v2 v3 o_me_isles = some y := h
      unfold lb_X8_tellRow_65 at h
      refine lv_iload_n hx hb dX8_tellRow_65 rfl (lv_at hl 3 rfl) ?_
      refine lv_iconst (v := 4) hx hb dX8_tellRow_66 (by decide) ?_
      refine lv_icmp_ge (tgt := 101) hx hb dX8_tellRow_67 (by decide) (fun c => ?_) (fun c => ?_)
      · have h := z_t h c
        refine lv_iconst (v := 1) hx hb dX8_tellRow_101 (by decide) ?_
        have hy := Option.some.inj h
        rw [← hQz, ← hy]
        exact xr_i (v := (1 : Int32)) hx hb hr rfl hlk hK hw dX8_tellRow_102
      · have h := z_f h c
        refine lv_aload_n hx hb dX8_tellRow_70 rfl (lv_at hl 0 rfl) ?_
        refine fgX8_2 hx hb hts hown hK hw 0 rfl kw444 dX8_tellRow_71 ?_
        refine fgX2_2 hx hb hts hown hK hw 2 rfl kw305 dX8_tellRow_74 ?_
        refine lv_iload_n hx hb dX8_tellRow_77 rfl (lv_at hl 2 rfl) ?_
        refine lv_iconst (v := 4) hx hb dX8_tellRow_78 (by decide) ?_
        refine lv_imul hx hb dX8_tellRow_79 ?_
        refine lv_iload_n hx hb dX8_tellRow_80 rfl (lv_at hl 3 rfl) ?_
        refine lv_iadd hx hb dX8_tellRow_81 ?_
        refine lv_aload_n hx hb dX8_tellRow_82 rfl (lv_at hl 0 rfl) ?_
        refine fgX8_0 hx hb hts hown hK hw 0 rfl kw442 dX8_tellRow_83 ?_
        refine lv_iload_n hx hb dX8_tellRow_86 rfl (lv_at hl 1 rfl) ?_
        refine lv_iconst (v := 1) hx hb dX8_tellRow_87 (by decide) ?_
        refine lv_iadd hx hb dX8_tellRow_88 ?_
        refine lv_iload_n hx hb dX8_tellRow_89 rfl (lv_at hl 3 rfl) ?_
        refine lv_iadd hx hb dX8_tellRow_90 ?_
        obtain ⟨z3, ez3, h⟩ := z_bd h
        refine xj_i (xrV (As := [.int ((v1 + (1 : Int32)) + v3)]) (rest := [.int ((v2 * (4 : Int32)) + v3), .ref (q_me_isles 2)]) ⟨hx, hb, hml, hown, hts⟩ (m_X6_byteAt l dC dI _ h_me_reader h_me_reader_code q_me_reader k_me_reader o_me_reader ((v1 + (1 : Int32)) + v3) z3 ez3) kw655 kw652 kw653 kw654 kw111 hd_X6_byteAt ⟨rfl, rfl⟩ rfl rfl ⟨rfl, rfl⟩ hX hK hw [1] (by decide) rfl rfl rfl rfl rfl hl.1 rfl rfl dX8_tellRow_91) hw hA [1] (by decide) rfl rfl (fun H locs hw => ?_)
        have hw : Wd dC dI A s.heap [wX8 h_me h_me_reader h_me_machine h_me_isles h_me_court h_me_study h_me_paper h_me_paperCourt h_me_past h_me_pastAhead h_me_movingAhead q_me k_me o_me, wX6 h_me_reader h_me_reader_code q_me_reader k_me_reader o_me_reader, wX2 h_me_isles h_me_isles_now q_me_isles k_me_isles o_me_isles] H locs := hw
        obtain ⟨g4, h⟩ := z_gd h
        refine fbX2_2 hx hb hK hw 2 rfl rfl g4 dX8_tellRow_94 (fun H locs hw => ?_)
        obtain ⟨o5, eo5, h⟩ := z_lt h
        have hw : Wd dC dI A s.heap [wX8 h_me h_me_reader h_me_machine h_me_isles h_me_court h_me_study h_me_paper h_me_paperCourt h_me_past h_me_pastAhead h_me_movingAhead q_me k_me o_me, wX6 h_me_reader h_me_reader_code q_me_reader k_me_reader o_me_reader, wX2 h_me_isles h_me_isles_now q_me_isles k_me_isles o5] H locs := by rw [eo5]; exact hw
        obtain ⟨x6, ex6, h⟩ := z_lt h
        refine lv_iinc (v := x6) (lv' := [(3, .int x6), (0, .ref h_me), (1, .int v1), (2, .int v2)]) hx hb dX8_tellRow_95 hl (k := 3) rfl ((congrArg (v3 + ·) (show Int32.ofInt 1 = (1 : Int32) from by decide)).trans ex6.symm) (by decide) rfl (fun ls hl => ?_)
        refine lv_goto (tgt := 65) hx hb dX8_tellRow_98 (by decide) ?_
        exact ih v1 v2 x6 o5 _ _ _ h hw (lv_sub hl [1, 2, 3, 0] rfl)
  have lp_24_0 : ∀ (N : Nat), ∀ (v1 : Int32) (v2 : Int32) (v3 : Int32) (o_me_isles : Ob) (H : Heap) (locs : List Loc) (ls : Array Slot), lp_X8_tellRow_24 o_me o_me_reader  N (v1, v2, v3, o_me_isles) = some y → Wd dC dI A s.heap [wX8 h_me h_me_reader h_me_machine h_me_isles h_me_court h_me_study h_me_paper h_me_paperCourt h_me_past h_me_pastAhead h_me_movingAhead q_me k_me o_me, wX6 h_me_reader h_me_reader_code q_me_reader k_me_reader o_me_reader, wX2 h_me_isles h_me_isles_now q_me_isles k_me_isles o_me_isles] H locs → lv_has ls 5 [(0, .ref h_me), (1, .int v1), (2, .int v2), (3, .int v3)] → W p l e ({ frames := 1, cells := 0, slots := 0, locals := 21 } : Room) s m ([.ref h_me, .int p0] : List Value).toArray below meth c H locs 0 0 Qz (F0 m 24 ls []) := by
    intro N
    induction N with
    | zero =>
      intro v1 v2 v3 o_me_isles H locs ls h hw hl
      exact absurd (show (none : Option (Int32 × Ob)) = some y from h) (by simp)
    | succ N ih =>
      intro v1 v2 v3 o_me_isles H locs ls h hw hl
      have h : lb_X8_tellRow_24 o_me o_me_reader  (lp_X8_tellRow_24 o_me o_me_reader  N) v1 v2 v3 o_me_isles = some y := h
      unfold lb_X8_tellRow_24 at h
      refine lv_iload_n hx hb dX8_tellRow_24 rfl (lv_at hl 3 rfl) ?_
      refine lv_iconst (v := 4) hx hb dX8_tellRow_25 (by decide) ?_
      refine lv_icmp_ge (tgt := 63) hx hb dX8_tellRow_26 (by decide) (fun c => ?_) (fun c => ?_)
      · have h := z_t h c
        refine lv_iconst (v := 0) hx hb dX8_tellRow_63 (by decide) ?_
        refine lv_istore_n (lv' := [(3, .int (0 : Int32)), (0, .ref h_me), (1, .int v1), (2, .int v2)]) hx hb dX8_tellRow_64 rfl hl (by decide) rfl (fun ls hl => ?_)
        exact lp_65_1  zfu v1 v2 (0 : Int32) o_me_isles _ _ _ h hw (lv_sub hl [1, 2, 3, 0] rfl)
      · have h := z_f h c
        refine lv_aload_n hx hb dX8_tellRow_29 rfl (lv_at hl 0 rfl) ?_
        refine fgX8_0 hx hb hts hown hK hw 0 rfl kw442 dX8_tellRow_30 ?_
        refine lv_iload_n hx hb dX8_tellRow_33 rfl (lv_at hl 1 rfl) ?_
        refine lv_iconst (v := 1) hx hb dX8_tellRow_34 (by decide) ?_
        refine lv_iadd hx hb dX8_tellRow_35 ?_
        refine lv_iload_n hx hb dX8_tellRow_36 rfl (lv_at hl 3 rfl) ?_
        refine lv_iadd hx hb dX8_tellRow_37 ?_
        obtain ⟨z7, ez7, h⟩ := z_bd h
        refine xj_i (xrV (As := [.int ((v1 + (1 : Int32)) + v3)]) (rest := []) ⟨hx, hb, hml, hown, hts⟩ (m_X6_byteAt l dC dI _ h_me_reader h_me_reader_code q_me_reader k_me_reader o_me_reader ((v1 + (1 : Int32)) + v3) z7 ez7) kw655 kw652 kw653 kw654 kw111 hd_X6_byteAt ⟨rfl, rfl⟩ rfl rfl ⟨rfl, rfl⟩ hX hK hw [1] (by decide) rfl rfl rfl rfl rfl hl.1 rfl rfl dX8_tellRow_38) hw hA [1] (by decide) rfl rfl (fun H locs hw => ?_)
        have hw : Wd dC dI A s.heap [wX8 h_me h_me_reader h_me_machine h_me_isles h_me_court h_me_study h_me_paper h_me_paperCourt h_me_past h_me_pastAhead h_me_movingAhead q_me k_me o_me, wX6 h_me_reader h_me_reader_code q_me_reader k_me_reader o_me_reader, wX2 h_me_isles h_me_isles_now q_me_isles k_me_isles o_me_isles] H locs := hw
        refine lv_istore (lv' := [(4, .int z7), (0, .ref h_me), (1, .int v1), (2, .int v2), (3, .int v3)]) hx hb dX8_tellRow_41 hl (by decide) rfl (fun ls hl => ?_)
        refine lv_iload hx hb dX8_tellRow_43 (lv_at hl 0 rfl) ?_
        refine lv_if_lt (tgt := 55) hx hb dX8_tellRow_45 (by decide) (fun c => ?_) (fun c => ?_)
        · have h := z_t h c
          refine lv_iconst (v := 0) hx hb dX8_tellRow_55 (by decide) ?_
          have hy := Option.some.inj h
          rw [← hQz, ← hy]
          exact xr_i (v := (0 : Int32)) hx hb hr rfl hlk hK hw dX8_tellRow_56
        · have h := z_f h c
          refine lv_iload hx hb dX8_tellRow_48 (lv_at hl 0 rfl) ?_
          refine lv_bipush (v := 9) hx hb dX8_tellRow_50 (by decide) ?_
          refine lv_icmp_le (tgt := 57) hx hb dX8_tellRow_52 (by decide) (fun c => ?_) (fun c => ?_)
          · have h := z_t h c
            obtain ⟨x8, ex8, h⟩ := z_lt h
            refine lv_iinc (v := x8) (lv' := [(3, .int x8), (4, .int z7), (0, .ref h_me), (1, .int v1), (2, .int v2)]) hx hb dX8_tellRow_57 hl (k := 4) rfl ((congrArg (v3 + ·) (show Int32.ofInt 1 = (1 : Int32) from by decide)).trans ex8.symm) (by decide) rfl (fun ls hl => ?_)
            refine lv_goto (tgt := 24) hx hb dX8_tellRow_60 (by decide) ?_
            exact ih v1 v2 x8 o_me_isles _ _ _ h hw (lv_sub hl [2, 3, 4, 0] rfl)
          · have h := z_f h c
            refine lv_iconst (v := 0) hx hb dX8_tellRow_55 (by decide) ?_
            have hy := Option.some.inj h
            rw [← hQz, ← hy]
            exact xr_i (v := (0 : Int32)) hx hb hr rfl hlk hK hw dX8_tellRow_56
  unfold f_X8_tellRow at h
  refine lv_aload_n hx hb dX8_tellRow_0 rfl (lv_at hl 0 rfl) ?_
  refine fgX8_0 hx hb hts hown hK hw 0 rfl kw442 dX8_tellRow_1 ?_
  refine lv_iload_n hx hb dX8_tellRow_4 rfl (lv_at hl 1 rfl) ?_
  obtain ⟨z1, ez1, h⟩ := z_bd h
  refine xj_i (xrV (As := [.int p0]) (rest := []) ⟨hx, hb, hml, hown, hts⟩ (m_X6_byteAt l dC dI _ h_me_reader h_me_reader_code q_me_reader k_me_reader o_me_reader p0 z1 ez1) kw655 kw652 kw653 kw654 kw111 hd_X6_byteAt ⟨rfl, rfl⟩ rfl rfl ⟨rfl, rfl⟩ hX hK hw [1] (by decide) rfl rfl rfl rfl rfl hl.1 rfl rfl dX8_tellRow_5) hw hA [1] (by decide) rfl rfl (fun H locs hw => ?_)
  have hw : Wd dC dI A s.heap [wX8 h_me h_me_reader h_me_machine h_me_isles h_me_court h_me_study h_me_paper h_me_paperCourt h_me_past h_me_pastAhead h_me_movingAhead q_me k_me o_me, wX6 h_me_reader h_me_reader_code q_me_reader k_me_reader o_me_reader, wX2 h_me_isles h_me_isles_now q_me_isles k_me_isles o_me_isles] H locs := hw
  refine lv_istore_n (lv' := [(2, .int z1), (0, .ref h_me), (1, .int p0)]) hx hb dX8_tellRow_8 rfl hl (by decide) rfl (fun ls hl => ?_)
  refine lv_aload_n hx hb dX8_tellRow_9 rfl (lv_at hl 1 rfl) ?_
  refine fgX8_2 hx hb hts hown hK hw 0 rfl kw444 dX8_tellRow_10 ?_
  refine lv_iload_n hx hb dX8_tellRow_13 rfl (lv_at hl 0 rfl) ?_
  obtain ⟨z2, ez2, h⟩ := z_bd h
  refine xj_i (xrV (As := [.int z1]) (rest := []) ⟨hx, hb, hml, hown, hts⟩ (m_X2_isPerson l dC dI _ h_me_isles h_me_isles_now q_me_isles k_me_isles o_me_isles z1 z2 ez2) kw504 kw501 kw502 kw503 kw115 hd_X2_isPerson ⟨rfl, rfl⟩ rfl rfl ⟨rfl, rfl⟩ hX hK hw [2] (by decide) rfl rfl rfl rfl rfl hl.1 rfl rfl dX8_tellRow_14) hw hA [2] (by decide) rfl rfl (fun H locs hw => ?_)
  have hw : Wd dC dI A s.heap [wX8 h_me h_me_reader h_me_machine h_me_isles h_me_court h_me_study h_me_paper h_me_paperCourt h_me_past h_me_pastAhead h_me_movingAhead q_me k_me o_me, wX6 h_me_reader h_me_reader_code q_me_reader k_me_reader o_me_reader, wX2 h_me_isles h_me_isles_now q_me_isles k_me_isles o_me_isles] H locs := hw
  refine lv_if_ne (tgt := 22) hx hb dX8_tellRow_17 (by decide) (fun c => ?_) (fun c => ?_)
  · have h := z_f h c
    refine lv_iconst (v := 0) hx hb dX8_tellRow_22 (by decide) ?_
    refine lv_istore_n (lv' := [(3, .int (0 : Int32)), (2, .int z1), (0, .ref h_me), (1, .int p0)]) hx hb dX8_tellRow_23 rfl hl (by decide) rfl (fun ls hl => ?_)
    exact lp_24_0  zfu p0 z1 (0 : Int32) o_me_isles _ _ _ h hw (lv_sub hl [2, 3, 1, 0] rfl)
  · have h := z_t h c
    refine lv_iconst (v := 0) hx hb dX8_tellRow_20 (by decide) ?_
    have hy := Option.some.inj h
    rw [← hQz, ← hy]
    exact xr_i (v := (0 : Int32)) hx hb hr rfl hlk hK hw dX8_tellRow_21

def bk_X8_row_61  (rec_26_0 : Int32 × Int32 × Ob × Ob × Ob → Option (Int32 × Ob × Ob × Ob)) (v1 : Int32) (v2 : Int32) (o_me : Ob) (o_me_reader : Ob) (o_me_isles : Ob) : Option (Int32 × Ob × Ob × Ob) :=
  zlt (v2 + (5 : Int32)) fun x6 =>
  rec_26_0 (v1, x6, o_me, o_me_reader, o_me_isles)
def lb_X8_row_26   (rec_26_0 : Int32 × Int32 × Ob × Ob × Ob → Option (Int32 × Ob × Ob × Ob)) (v1 : Int32) (v2 : Int32) (o_me : Ob) (o_me_reader : Ob) (o_me_isles : Ob) : Option (Int32 × Ob × Ob × Ob) :=
  if (gI o_me_reader 2) ≤ v2 then
  (zlt (sI o_me_reader 2 (0 : Int32)) fun o2 =>
  (f_X8_grant o_me v1).bind fun z3 =>
  some (z3.1, z3.2, o2, o_me_isles))
  else
  ((f_X8_tellRow o_me o_me_reader o_me_isles v2).bind fun z4 =>
  if z4.1 = (0 : Int32) then
  (zlt (sI o_me 13 ((gI o_me 13) + (1 : Int32))) fun o5 =>
  bk_X8_row_61  rec_26_0 v1 v2 o5 o_me_reader z4.2)
  else
  (zlt (v1 + (1 : Int32)) fun x7 =>
  bk_X8_row_61  rec_26_0 x7 v2 o_me o_me_reader z4.2))
def lp_X8_row_26   : Nat → (Int32 × Int32 × Ob × Ob × Ob) → Option (Int32 × Ob × Ob × Ob) := zit (fun rec a => lb_X8_row_26   rec a.1 a.2.1 a.2.2.1 a.2.2.2.1 a.2.2.2.2)
def f_X8_row (o_me : Ob) (o_me_reader : Ob) (o_me_isles : Ob) : Option (Int32 × Ob × Ob × Ob) :=
  if (gI o_me_reader 2) = (0 : Int32) then
  ((f_X8_refuse o_me (-6 : Int32)).bind fun z8 =>
  some (z8.1, z8.2, o_me_reader, o_me_isles))
  else
  (zlt (sI o_me 13 (0 : Int32)) fun o1 =>
  lp_X8_row_26   zfu ((0 : Int32), (0 : Int32), o1, o_me_reader, o_me_isles))
set_option maxHeartbeats 4000000 in
set_option maxRecDepth 100000 in
theorem m_X8_row (l : Launch) (dC : Nat → ClassId) (dI : Nat → Nat → Nat) (sz : Nat) (h_me : Nat) (h_me_reader : Nat) (h_me_machine : Nat) (h_me_isles : Nat) (h_me_court : Nat) (h_me_study : Nat) (h_me_paper : Nat) (h_me_paperCourt : Nat) (h_me_past : Nat) (h_me_pastAhead : Nat) (h_me_movingAhead : Nat) (h_me_reader_code : Nat) (h_me_isles_now : Nat) (q_me : Nat → Nat) (k_me : Nat → ClassId) (q_me_reader : Nat → Nat) (k_me_reader : Nat → ClassId) (q_me_isles : Nat → Nat) (k_me_isles : Nat → ClassId) (o_me : Ob) (o_me_reader : Ob) (o_me_isles : Ob) (y : Int32 × Ob × Ob × Ob) (h : f_X8_row o_me o_me_reader o_me_isles = some y) : CI l yX8_row cX8_row 3 (some .int) ({ frames := 2, cells := 0, slots := 0, locals := 45 } : Room) dC dI sz [.ref h_me] [wX8 h_me h_me_reader h_me_machine h_me_isles h_me_court h_me_study h_me_paper h_me_paperCourt h_me_past h_me_pastAhead h_me_movingAhead q_me k_me o_me, wX6 h_me_reader h_me_reader_code q_me_reader k_me_reader o_me_reader, wX2 h_me_isles h_me_isles_now q_me_isles k_me_isles o_me_isles] [tX8 k_me, tX6 k_me_reader, tX2 k_me_isles] y.1 [wX8 h_me h_me_reader h_me_machine h_me_isles h_me_court h_me_study h_me_paper h_me_paperCourt h_me_past h_me_pastAhead h_me_movingAhead q_me k_me y.2.1, wX6 h_me_reader h_me_reader_code q_me_reader k_me_reader y.2.2.1, wX2 h_me_isles h_me_isles_now q_me_isles k_me_isles y.2.2.2] := by
  refine CC_of (by decide) (Nat.le_of_ble_eq_true rfl) ?_
  intro p e s m below meth c A ls hx hb hml hr hlk hnm hown hts hX hK hP hD hA hl
  have hl : lv_has ls 3 [(0, .ref h_me)] := hl
  have hown : s.vm.findClass RX8 = some m.cls := hown
  have hw : Wd dC dI A s.heap [wX8 h_me h_me_reader h_me_machine h_me_isles h_me_court h_me_study h_me_paper h_me_paperCourt h_me_past h_me_pastAhead h_me_movingAhead q_me k_me o_me, wX6 h_me_reader h_me_reader_code q_me_reader k_me_reader o_me_reader, wX2 h_me_isles h_me_isles_now q_me_isles k_me_isles o_me_isles] s.heap [] := ⟨hP, hD, va_S.rf⟩
  generalize hQz : (MQ below (QI dC dI (fun r (_ : Unit) => r = y.1) (fun _ => Jn [wX8 h_me h_me_reader h_me_machine h_me_isles h_me_court h_me_study h_me_paper h_me_paperCourt h_me_past h_me_pastAhead h_me_movingAhead q_me k_me y.2.1, wX6 h_me_reader h_me_reader_code q_me_reader k_me_reader y.2.2.1, wX2 h_me_isles h_me_isles_now q_me_isles k_me_isles y.2.2.2]) (fun _ => Jt [tX8 k_me, tX6 k_me_reader, tX2 k_me_isles]) A) ([.ref h_me] : List Value).toArray s 0 0 A) = Qz
  clear hP hD hnm
  have bk_61_1 : ∀ (rec_26_0 : Int32 × Int32 × Ob × Ob × Ob → Option (Int32 × Ob × Ob × Ob)) (hrec_26_0 : ∀ (v1 : Int32) (v2 : Int32) (o_me : Ob) (o_me_reader : Ob) (o_me_isles : Ob) (H : Heap) (locs : List Loc) (ls : Array Slot), rec_26_0 (v1, v2, o_me, o_me_reader, o_me_isles) = some y → Wd dC dI A s.heap [wX8 h_me h_me_reader h_me_machine h_me_isles h_me_court h_me_study h_me_paper h_me_paperCourt h_me_past h_me_pastAhead h_me_movingAhead q_me k_me o_me, wX6 h_me_reader h_me_reader_code q_me_reader k_me_reader o_me_reader, wX2 h_me_isles h_me_isles_now q_me_isles k_me_isles o_me_isles] H locs → lv_has ls 3 [(0, .ref h_me), (1, .int v1), (2, .int v2)] → W p l e ({ frames := 2, cells := 0, slots := 0, locals := 45 } : Room) s m ([.ref h_me] : List Value).toArray below meth c H locs 0 0 Qz (F0 m 26 ls [])), ∀ (v1 : Int32) (v2 : Int32) (o_me : Ob) (o_me_reader : Ob) (o_me_isles : Ob) (H : Heap) (locs : List Loc) (ls : Array Slot), bk_X8_row_61  rec_26_0 v1 v2 o_me o_me_reader o_me_isles = some y → Wd dC dI A s.heap [wX8 h_me h_me_reader h_me_machine h_me_isles h_me_court h_me_study h_me_paper h_me_paperCourt h_me_past h_me_pastAhead h_me_movingAhead q_me k_me o_me, wX6 h_me_reader h_me_reader_code q_me_reader k_me_reader o_me_reader, wX2 h_me_isles h_me_isles_now q_me_isles k_me_isles o_me_isles] H locs → lv_has ls 3 [(0, .ref h_me), (1, .int v1), (2, .int v2)] → W p l e ({ frames := 2, cells := 0, slots := 0, locals := 45 } : Room) s m ([.ref h_me] : List Value).toArray below meth c H locs 0 0 Qz (F0 m 61 ls []) := by
    intro rec_26_0 hrec_26_0
    intro v1 v2 o_me o_me_reader o_me_isles H locs ls h hw hl
    unfold bk_X8_row_61 at h
    obtain ⟨x6, ex6, h⟩ := z_lt h
    refine lv_iinc (v := x6) (lv' := [(2, .int x6), (0, .ref h_me), (1, .int v1)]) hx hb dX8_row_61 hl (k := 2) rfl ((congrArg (v2 + ·) (show Int32.ofInt 5 = (5 : Int32) from by decide)).trans ex6.symm) (by decide) rfl (fun ls hl => ?_)
    refine lv_goto (tgt := 26) hx hb dX8_row_64 (by decide) ?_
    exact hrec_26_0 v1 x6 o_me o_me_reader o_me_isles _ _ _ h hw (lv_sub hl [1, 2, 0] rfl)
  have lp_26_0 : ∀ (N : Nat), ∀ (v1 : Int32) (v2 : Int32) (o_me : Ob) (o_me_reader : Ob) (o_me_isles : Ob) (H : Heap) (locs : List Loc) (ls : Array Slot), lp_X8_row_26   N (v1, v2, o_me, o_me_reader, o_me_isles) = some y → Wd dC dI A s.heap [wX8 h_me h_me_reader h_me_machine h_me_isles h_me_court h_me_study h_me_paper h_me_paperCourt h_me_past h_me_pastAhead h_me_movingAhead q_me k_me o_me, wX6 h_me_reader h_me_reader_code q_me_reader k_me_reader o_me_reader, wX2 h_me_isles h_me_isles_now q_me_isles k_me_isles o_me_isles] H locs → lv_has ls 3 [(0, .ref h_me), (1, .int v1), (2, .int v2)] → W p l e ({ frames := 2, cells := 0, slots := 0, locals := 45 } : Room) s m ([.ref h_me] : List Value).toArray below meth c H locs 0 0 Qz (F0 m 26 ls []) := by
    intro N
    induction N with
    | zero =>
      intro v1 v2 o_me o_me_reader o_me_isles H locs ls h hw hl
      exact absurd (show (none : Option (Int32 × Ob × Ob × Ob)) = some y from h) (by simp)
    | succ N ih =>
      intro v1 v2 o_me o_me_reader o_me_isles H locs ls h hw hl
      have h : lb_X8_row_26   (lp_X8_row_26   N) v1 v2 o_me o_me_reader o_me_isles = some y := h
      unfold lb_X8_row_26 at h
      refine lv_iload_n hx hb dX8_row_26 rfl (lv_at hl 2 rfl) ?_
      refine lv_aload_n hx hb dX8_row_27 rfl (lv_at hl 0 rfl) ?_
      refine fgX8_0 hx hb hts hown hK hw 0 rfl kw442 dX8_row_28 ?_
      refine fgX6_2 hx hb hts hown hK hw 1 rfl kw205 dX8_row_31 ?_
      refine lv_icmp_ge (tgt := 67) hx hb dX8_row_34 (by decide) (fun c => ?_) (fun c => ?_)
      · have h := z_t h c
        refine lv_aload_n hx hb dX8_row_67 rfl (lv_at hl 0 rfl) ?_
        refine fgX8_0 hx hb hts hown hK hw 0 rfl kw442 dX8_row_68 ?_
        refine lv_iconst (v := 0) hx hb dX8_row_71 (by decide) ?_
        refine fpX6_2 hx hb hts hown hK hw 1 rfl kw205 dX8_row_72 (fun H locs hw => ?_)
        obtain ⟨o2, eo2, h⟩ := z_lt h
        have hw : Wd dC dI A s.heap [wX8 h_me h_me_reader h_me_machine h_me_isles h_me_court h_me_study h_me_paper h_me_paperCourt h_me_past h_me_pastAhead h_me_movingAhead q_me k_me o_me, wX6 h_me_reader h_me_reader_code q_me_reader k_me_reader o2, wX2 h_me_isles h_me_isles_now q_me_isles k_me_isles o_me_isles] H locs := by rw [eo2]; exact hw
        refine lv_aload_n hx hb dX8_row_75 rfl (lv_at hl 0 rfl) ?_
        refine lv_iload_n hx hb dX8_row_76 rfl (lv_at hl 1 rfl) ?_
        obtain ⟨z3, ez3, h⟩ := z_bd h
        refine xj_i (xrV (As := [.int v1]) (rest := []) ⟨hx, hb, hml, hown, hts⟩ (m_X8_grant l dC dI _ h_me h_me_reader h_me_machine h_me_isles h_me_court h_me_study h_me_paper h_me_paperCourt h_me_past h_me_pastAhead h_me_movingAhead q_me k_me o_me v1 z3 ez3) kw520 kw517 kw519 kw1 kw110 hd_X8_grant ⟨rfl, rfl⟩ rfl rfl ⟨rfl, rfl⟩ hX hK hw [0] (by decide) rfl rfl rfl rfl rfl hl.1 rfl rfl dX8_row_77) hw hA [0] (by decide) rfl rfl (fun H locs hw => ?_)
        have hw : Wd dC dI A s.heap [wX8 h_me h_me_reader h_me_machine h_me_isles h_me_court h_me_study h_me_paper h_me_paperCourt h_me_past h_me_pastAhead h_me_movingAhead q_me k_me z3.2, wX6 h_me_reader h_me_reader_code q_me_reader k_me_reader o2, wX2 h_me_isles h_me_isles_now q_me_isles k_me_isles o_me_isles] H locs := hw
        have hy := Option.some.inj h
        rw [← hQz, ← hy]
        exact xr_i (v := z3.1) hx hb hr rfl hlk hK hw dX8_row_80
      · have h := z_f h c
        refine lv_aload_n hx hb dX8_row_37 rfl (lv_at hl 0 rfl) ?_
        refine lv_iload_n hx hb dX8_row_38 rfl (lv_at hl 2 rfl) ?_
        obtain ⟨z4, ez4, h⟩ := z_bd h
        refine xj_i (xrV (As := [.int v2]) (rest := []) ⟨hx, hb, hml, hown, hts⟩ (m_X8_tellRow l dC dI _ h_me h_me_reader h_me_machine h_me_isles h_me_court h_me_study h_me_paper h_me_paperCourt h_me_past h_me_pastAhead h_me_movingAhead h_me_reader_code h_me_isles_now q_me k_me q_me_reader k_me_reader q_me_isles k_me_isles o_me o_me_reader o_me_isles v2 z4 ez4) kw651 kw648 kw650 kw4 kw110 hd_X8_tellRow ⟨rfl, rfl⟩ rfl rfl ⟨rfl, rfl⟩ hX hK hw [0, 1, 2] (by decide) rfl rfl rfl rfl rfl hl.1 rfl rfl dX8_row_39) hw hA [0, 1, 2] (by decide) rfl rfl (fun H locs hw => ?_)
        have hw : Wd dC dI A s.heap [wX8 h_me h_me_reader h_me_machine h_me_isles h_me_court h_me_study h_me_paper h_me_paperCourt h_me_past h_me_pastAhead h_me_movingAhead q_me k_me o_me, wX6 h_me_reader h_me_reader_code q_me_reader k_me_reader o_me_reader, wX2 h_me_isles h_me_isles_now q_me_isles k_me_isles z4.2] H locs := hw
        refine lv_if_eq (tgt := 51) hx hb dX8_row_42 (by decide) (fun c => ?_) (fun c => ?_)
        · have h := z_t h c
          refine lv_aload_n hx hb dX8_row_51 rfl (lv_at hl 0 rfl) ?_
          refine lv_dup hx hb dX8_row_52 rfl ?_
          refine fgX8_13 hx hb hts hown hK hw 0 rfl kw455 dX8_row_53 ?_
          refine lv_iconst (v := 1) hx hb dX8_row_56 (by decide) ?_
          refine lv_iadd hx hb dX8_row_57 ?_
          refine fpX8_13 hx hb hts hown hK hw 0 rfl kw455 dX8_row_58 (fun H locs hw => ?_)
          obtain ⟨o5, eo5, h⟩ := z_lt h
          have hw : Wd dC dI A s.heap [wX8 h_me h_me_reader h_me_machine h_me_isles h_me_court h_me_study h_me_paper h_me_paperCourt h_me_past h_me_pastAhead h_me_movingAhead q_me k_me o5, wX6 h_me_reader h_me_reader_code q_me_reader k_me_reader o_me_reader, wX2 h_me_isles h_me_isles_now q_me_isles k_me_isles z4.2] H locs := by rw [eo5]; exact hw
          exact bk_61_1 (lp_X8_row_26   N) ih v1 v2 o5 o_me_reader z4.2 _ _ _ h hw (lv_sub hl [0, 1, 2] rfl)
        · have h := z_f h c
          obtain ⟨x7, ex7, h⟩ := z_lt h
          refine lv_iinc (v := x7) (lv' := [(1, .int x7), (0, .ref h_me), (2, .int v2)]) hx hb dX8_row_45 hl (k := 1) rfl ((congrArg (v1 + ·) (show Int32.ofInt 1 = (1 : Int32) from by decide)).trans ex7.symm) (by decide) rfl (fun ls hl => ?_)
          refine lv_goto (tgt := 61) hx hb dX8_row_48 (by decide) ?_
          exact bk_61_1 (lp_X8_row_26   N) ih x7 v2 o_me o_me_reader z4.2 _ _ _ h hw (lv_sub hl [1, 0, 2] rfl)
  unfold f_X8_row at h
  refine lv_aload_n hx hb dX8_row_0 rfl (lv_at hl 0 rfl) ?_
  refine fgX8_0 hx hb hts hown hK hw 0 rfl kw442 dX8_row_1 ?_
  refine fgX6_2 hx hb hts hown hK hw 1 rfl kw205 dX8_row_4 ?_
  refine lv_if_ne (tgt := 17) hx hb dX8_row_7 (by decide) (fun c => ?_) (fun c => ?_)
  · have h := z_f h c
    refine lv_iconst (v := 0) hx hb dX8_row_17 (by decide) ?_
    refine lv_istore_n (lv' := [(1, .int (0 : Int32)), (0, .ref h_me)]) hx hb dX8_row_18 rfl hl (by decide) rfl (fun ls hl => ?_)
    refine lv_aload_n hx hb dX8_row_19 rfl (lv_at hl 1 rfl) ?_
    refine lv_iconst (v := 0) hx hb dX8_row_20 (by decide) ?_
    refine fpX8_13 hx hb hts hown hK hw 0 rfl kw455 dX8_row_21 (fun H locs hw => ?_)
    obtain ⟨o1, eo1, h⟩ := z_lt h
    have hw : Wd dC dI A s.heap [wX8 h_me h_me_reader h_me_machine h_me_isles h_me_court h_me_study h_me_paper h_me_paperCourt h_me_past h_me_pastAhead h_me_movingAhead q_me k_me o1, wX6 h_me_reader h_me_reader_code q_me_reader k_me_reader o_me_reader, wX2 h_me_isles h_me_isles_now q_me_isles k_me_isles o_me_isles] H locs := by rw [eo1]; exact hw
    refine lv_iconst (v := 0) hx hb dX8_row_24 (by decide) ?_
    refine lv_istore_n (lv' := [(2, .int (0 : Int32)), (1, .int (0 : Int32)), (0, .ref h_me)]) hx hb dX8_row_25 rfl hl (by decide) rfl (fun ls hl => ?_)
    exact lp_26_0  zfu (0 : Int32) (0 : Int32) o1 o_me_reader o_me_isles _ _ _ h hw (lv_sub hl [2, 1, 0] rfl)
  · have h := z_t h c
    refine lv_aload_n hx hb dX8_row_10 rfl (lv_at hl 0 rfl) ?_
    refine lv_bipush (v := (-6)) hx hb dX8_row_11 (by decide) ?_
    obtain ⟨z8, ez8, h⟩ := z_bd h
    refine xj_i (xrV (As := [.int (-6 : Int32)]) (rest := []) ⟨hx, hb, hml, hown, hts⟩ (m_X8_refuse l dC dI _ h_me h_me_reader h_me_machine h_me_isles h_me_court h_me_study h_me_paper h_me_paperCourt h_me_past h_me_pastAhead h_me_movingAhead q_me k_me o_me (-6 : Int32) z8 ez8) kw508 kw505 kw507 kw0 kw110 hd_X8_refuse ⟨rfl, rfl⟩ rfl rfl ⟨rfl, rfl⟩ hX hK hw [0] (by decide) rfl rfl rfl rfl rfl hl.1 rfl rfl dX8_row_13) hw hA [0] (by decide) rfl rfl (fun H locs hw => ?_)
    have hw : Wd dC dI A s.heap [wX8 h_me h_me_reader h_me_machine h_me_isles h_me_court h_me_study h_me_paper h_me_paperCourt h_me_past h_me_pastAhead h_me_movingAhead q_me k_me z8.2, wX6 h_me_reader h_me_reader_code q_me_reader k_me_reader o_me_reader, wX2 h_me_isles h_me_isles_now q_me_isles k_me_isles o_me_isles] H locs := hw
    have hy := Option.some.inj h
    rw [← hQz, ← hy]
    exact xr_i (v := z8.1) hx hb hr rfl hlk hK hw dX8_row_16

