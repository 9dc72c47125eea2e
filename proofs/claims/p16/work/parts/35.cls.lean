def f_X8_crowned (o_me : Ob) (o_me_machine : Ob) (o_me_isles : Ob) (o_me_isles_now : Ob) (o_me_court : Ob) (o_me_study : Ob) (o_pool : List CR) (p0 : Int32) : Option (Int32 × Ob × Ob) :=
  if p0 < (0 : Int32) then
  (some ((-1 : Int32), o_me_machine, o_me_study))
  else
  (if p0 ≤ (4 : Int32) then
  ((f_X7_crownAll o_me_study o_me_court o_me_isles o_me_isles_now o_me_machine o_pool).bind fun z1 =>
  if p0 = (0 : Int32) then
  (some (z1.1, z1.2.2, z1.2.1))
  else
  (zgd (zin (p0 - (1 : Int32)) 7) <|
  some (gA z1.2.1 2 (p0 - (1 : Int32)).toNatClampNeg, z1.2.2, z1.2.1)))
  else
  (some ((-1 : Int32), o_me_machine, o_me_study)))
set_option maxHeartbeats 4000000 in
set_option maxRecDepth 100000 in
theorem m_X8_crowned (l : Launch) (dC : Nat → ClassId) (dI : Nat → Nat → Nat) (sz : Nat) (h_me : Nat) (h_me_reader : Nat) (h_me_machine : Nat) (h_me_isles : Nat) (h_me_court : Nat) (h_me_study : Nat) (h_me_paper : Nat) (h_me_paperCourt : Nat) (h_me_past : Nat) (h_me_pastAhead : Nat) (h_me_movingAhead : Nat) (h_me_isles_now : Nat) (q_me : Nat → Nat) (k_me : Nat → ClassId) (q_me_machine : Nat → Nat) (k_me_machine : Nat → ClassId) (q_me_isles : Nat → Nat) (k_me_isles : Nat → ClassId) (q_me_isles_now : Nat → Nat) (k_me_isles_now : Nat → ClassId) (q_me_court : Nat → Nat) (k_me_court : Nat → ClassId) (q_me_study : Nat → Nat) (k_me_study : Nat → ClassId) (o_me : Ob) (o_me_machine : Ob) (o_me_isles : Ob) (o_me_isles_now : Ob) (o_me_court : Ob) (o_me_study : Ob) (o_pool : List CR) (p0 : Int32) (y : Int32 × Ob × Ob) (h : f_X8_crowned o_me o_me_machine o_me_isles o_me_isles_now o_me_court o_me_study o_pool p0 = some y) : CI l yX8_crowned cX8_crowned 3 (some .int) ({ frames := 6, cells := 0, slots := 0, locals := 155 } : Room) dC dI sz [.ref h_me, .int p0] [wX8 h_me h_me_reader h_me_machine h_me_isles h_me_court h_me_study h_me_paper h_me_paperCourt h_me_past h_me_pastAhead h_me_movingAhead q_me k_me o_me, wX3 h_me_machine q_me_machine k_me_machine o_me_machine, wX2 h_me_isles h_me_isles_now q_me_isles k_me_isles o_me_isles, wX4 h_me_isles_now q_me_isles_now k_me_isles_now o_me_isles_now, wX1 h_me_court h_me_isles h_me_machine q_me_court k_me_court o_me_court, wX7 h_me_study h_me_court h_me_isles q_me_study k_me_study o_me_study, wPL o_pool] [tX8 k_me, tX3 k_me_machine, tX2 k_me_isles, tX4 k_me_isles_now, tX1 k_me_court, tX7 k_me_study, tPL o_pool] y.1 [wX8 h_me h_me_reader h_me_machine h_me_isles h_me_court h_me_study h_me_paper h_me_paperCourt h_me_past h_me_pastAhead h_me_movingAhead q_me k_me o_me, wX3 h_me_machine q_me_machine k_me_machine y.2.1, wX2 h_me_isles h_me_isles_now q_me_isles k_me_isles o_me_isles, wX4 h_me_isles_now q_me_isles_now k_me_isles_now o_me_isles_now, wX1 h_me_court h_me_isles h_me_machine q_me_court k_me_court o_me_court, wX7 h_me_study h_me_court h_me_isles q_me_study k_me_study y.2.2, wPL o_pool] := by
  refine CC_of (by decide) (Nat.le_of_ble_eq_true rfl) ?_
  intro p e s m below meth c A ls hx hb hml hr hlk hnm hown hts hX hK hP hD hA hl
  have hl : lv_has ls 3 [(0, .ref h_me), (1, .int p0)] := hl
  have hown : s.vm.findClass RX8 = some m.cls := hown
  have hw : Wd dC dI A s.heap [wX8 h_me h_me_reader h_me_machine h_me_isles h_me_court h_me_study h_me_paper h_me_paperCourt h_me_past h_me_pastAhead h_me_movingAhead q_me k_me o_me, wX3 h_me_machine q_me_machine k_me_machine o_me_machine, wX2 h_me_isles h_me_isles_now q_me_isles k_me_isles o_me_isles, wX4 h_me_isles_now q_me_isles_now k_me_isles_now o_me_isles_now, wX1 h_me_court h_me_isles h_me_machine q_me_court k_me_court o_me_court, wX7 h_me_study h_me_court h_me_isles q_me_study k_me_study o_me_study, wPL o_pool] s.heap [] := ⟨hP, hD, va_S.rf⟩
  generalize hQz : (MQ below (QI dC dI (fun r (_ : Unit) => r = y.1) (fun _ => Jn [wX8 h_me h_me_reader h_me_machine h_me_isles h_me_court h_me_study h_me_paper h_me_paperCourt h_me_past h_me_pastAhead h_me_movingAhead q_me k_me o_me, wX3 h_me_machine q_me_machine k_me_machine y.2.1, wX2 h_me_isles h_me_isles_now q_me_isles k_me_isles o_me_isles, wX4 h_me_isles_now q_me_isles_now k_me_isles_now o_me_isles_now, wX1 h_me_court h_me_isles h_me_machine q_me_court k_me_court o_me_court, wX7 h_me_study h_me_court h_me_isles q_me_study k_me_study y.2.2, wPL o_pool]) (fun _ => Jt [tX8 k_me, tX3 k_me_machine, tX2 k_me_isles, tX4 k_me_isles_now, tX1 k_me_court, tX7 k_me_study, tPL o_pool]) A) ([.ref h_me, .int p0] : List Value).toArray s 0 0 A) = Qz
  clear hP hD hnm
  unfold f_X8_crowned at h
  refine lv_iload_n hx hb dX8_crowned_0 rfl (lv_at hl 1 rfl) ?_
  refine lv_if_lt (tgt := 9) hx hb dX8_crowned_1 (by decide) (fun c => ?_) (fun c => ?_)
  · have h := z_t h c
    refine lv_iconst (v := (-1)) hx hb dX8_crowned_9 (by decide) ?_
    have hy := Option.some.inj h
    rw [← hQz, ← hy]
    exact xr_i (v := (-1 : Int32)) hx hb hr rfl hlk hK hw dX8_crowned_10
  · have h := z_f h c
    refine lv_iload_n hx hb dX8_crowned_4 rfl (lv_at hl 1 rfl) ?_
    refine lv_iconst (v := 4) hx hb dX8_crowned_5 (by decide) ?_
    refine lv_icmp_le (tgt := 11) hx hb dX8_crowned_6 (by decide) (fun c => ?_) (fun c => ?_)
    · have h := z_t h c
      refine lv_aload_n hx hb dX8_crowned_11 rfl (lv_at hl 0 rfl) ?_
      refine fgX8_4 hx hb hts hown hK hw 0 rfl kw446 dX8_crowned_12 ?_
      obtain ⟨z1, ez1, h⟩ := z_bd h
      refine xj_i (xrV (As := []) (rest := []) ⟨hx, hb, hml, hown, hts⟩ (m_X7_crownAll l dC dI _ h_me_study h_me_court h_me_isles h_me_machine h_me_isles_now q_me_study k_me_study q_me_court k_me_court q_me_isles k_me_isles q_me_isles_now k_me_isles_now q_me_machine k_me_machine o_me_study o_me_court o_me_isles o_me_isles_now o_me_machine o_pool z1 ez1) kw1045 kw1042 kw1043 kw1044 kw118 hd_X7_crownAll ⟨rfl, rfl⟩ rfl rfl ⟨rfl, rfl⟩ hX hK hw [5, 4, 2, 3, 1, 6] (by decide) rfl rfl rfl rfl rfl hl.1 rfl rfl dX8_crowned_15) hw hA [5, 4, 2, 3, 1, 6] (by decide) rfl rfl (fun H locs hw => ?_)
      have hw : Wd dC dI A s.heap [wX8 h_me h_me_reader h_me_machine h_me_isles h_me_court h_me_study h_me_paper h_me_paperCourt h_me_past h_me_pastAhead h_me_movingAhead q_me k_me o_me, wX3 h_me_machine q_me_machine k_me_machine z1.2.2, wX2 h_me_isles h_me_isles_now q_me_isles k_me_isles o_me_isles, wX4 h_me_isles_now q_me_isles_now k_me_isles_now o_me_isles_now, wX1 h_me_court h_me_isles h_me_machine q_me_court k_me_court o_me_court, wX7 h_me_study h_me_court h_me_isles q_me_study k_me_study z1.2.1, wPL o_pool] H locs := hw
      refine lv_istore_n (lv' := [(2, .int z1.1), (0, .ref h_me), (1, .int p0)]) hx hb dX8_crowned_18 rfl hl (by decide) rfl (fun ls hl => ?_)
      refine lv_iload_n hx hb dX8_crowned_19 rfl (lv_at hl 2 rfl) ?_
      refine lv_if_ne (tgt := 27) hx hb dX8_crowned_20 (by decide) (fun c => ?_) (fun c => ?_)
      · have h := z_f h c
        refine lv_aload_n hx hb dX8_crowned_27 rfl (lv_at hl 1 rfl) ?_
        refine fgX8_4 hx hb hts hown hK hw 0 rfl kw446 dX8_crowned_28 ?_
        refine fgX7_2 hx hb hts hown hK hw 5 rfl kw389 dX8_crowned_31 ?_
        refine lv_iload_n hx hb dX8_crowned_34 rfl (lv_at hl 2 rfl) ?_
        refine lv_iconst (v := 1) hx hb dX8_crowned_35 (by decide) ?_
        refine lv_isub hx hb dX8_crowned_36 ?_
        obtain ⟨g2, h⟩ := z_gd h
        refine faX7_2 hx hb hK hw 5 rfl rfl g2 dX8_crowned_37 ?_
        have hy := Option.some.inj h
        rw [← hQz, ← hy]
        exact xr_i (v := gA z1.2.1 2 (p0 - (1 : Int32)).toNatClampNeg) hx hb hr rfl hlk hK hw dX8_crowned_38
      · have h := z_t h c
        refine lv_iload_n hx hb dX8_crowned_23 rfl (lv_at hl 0 rfl) ?_
        refine lv_goto (tgt := 38) hx hb dX8_crowned_24 (by decide) ?_
        have hy := Option.some.inj h
        rw [← hQz, ← hy]
        exact xr_i (v := z1.1) hx hb hr rfl hlk hK hw dX8_crowned_38
    · have h := z_f h c
      refine lv_iconst (v := (-1)) hx hb dX8_crowned_9 (by decide) ?_
      have hy := Option.some.inj h
      rw [← hQz, ← hy]
      exact xr_i (v := (-1 : Int32)) hx hb hr rfl hlk hK hw dX8_crowned_10

def f_X4_told (o_me : Ob) (p0 : Int32) (p1 : Int32) : Option (Int32) :=
  if p1 = (0 : Int32) then
  (zgd (zin p0 7) <|
  some (gA o_me 0 p0.toNatClampNeg))
  else
  (if p1 = (1 : Int32) then
  (zgd (zin p0 7) <|
  some (gA o_me 1 p0.toNatClampNeg))
  else
  (if p1 = (2 : Int32) then
  (some (((gI o_me 2) >>> (p0 &&& 31)) &&& (1 : Int32)))
  else
  (some (-1 : Int32))))
set_option maxHeartbeats 4000000 in
set_option maxRecDepth 100000 in
theorem m_X4_told (l : Launch) (dC : Nat → ClassId) (dI : Nat → Nat → Nat) (sz : Nat) (h_me : Nat) (q_me : Nat → Nat) (k_me : Nat → ClassId) (o_me : Ob) (p0 : Int32) (p1 : Int32) (y : Int32) (h : f_X4_told o_me p0 p1 = some y) : CI l yX4_told cX4_told 3 (some .int) ({ frames := 0, cells := 0, slots := 0, locals := 0 } : Room) dC dI sz [.ref h_me, .int p0, .int p1] [wX4 h_me q_me k_me o_me] [tX4 k_me] y [wX4 h_me q_me k_me o_me] := by
  refine CC_of (by decide) (Nat.le_of_ble_eq_true rfl) ?_
  intro p e s m below meth c A ls hx hb hml hr hlk hnm hown hts hX hK hP hD hA hl
  have hl : lv_has ls 3 [(0, .ref h_me), (1, .int p0), (2, .int p1)] := hl
  have hown : s.vm.findClass RX4 = some m.cls := hown
  have hw : Wd dC dI A s.heap [wX4 h_me q_me k_me o_me] s.heap [] := ⟨hP, hD, va_S.rf⟩
  generalize hQz : (MQ below (QI dC dI (fun r (_ : Unit) => r = y) (fun _ => Jn [wX4 h_me q_me k_me o_me]) (fun _ => Jt [tX4 k_me]) A) ([.ref h_me, .int p0, .int p1] : List Value).toArray s 0 0 A) = Qz
  clear hP hD hnm
  unfold f_X4_told at h
  refine lv_iload_n hx hb dX4_told_0 rfl (lv_at hl 2 rfl) ?_
  refine lv_if_ne (tgt := 11) hx hb dX4_told_1 (by decide) (fun c => ?_) (fun c => ?_)
  · have h := z_f h c
    refine lv_iload_n hx hb dX4_told_11 rfl (lv_at hl 2 rfl) ?_
    refine lv_iconst (v := 1) hx hb dX4_told_12 (by decide) ?_
    refine lv_icmp_ne (tgt := 23) hx hb dX4_told_13 (by decide) (fun c => ?_) (fun c => ?_)
    · have h := z_f h c
      refine lv_iload_n hx hb dX4_told_23 rfl (lv_at hl 2 rfl) ?_
      refine lv_iconst (v := 2) hx hb dX4_told_24 (by decide) ?_
      refine lv_icmp_ne (tgt := 39) hx hb dX4_told_25 (by decide) (fun c => ?_) (fun c => ?_)
      · have h := z_f h c
        refine lv_iconst (v := (-1)) hx hb dX4_told_39 (by decide) ?_
        have hy := Option.some.inj h
        rw [← hQz, ← hy]
        exact xr_i (v := (-1 : Int32)) hx hb hr rfl hlk hK hw dX4_told_40
      · have h := z_t h c
        refine lv_aload_n hx hb dX4_told_28 rfl (lv_at hl 0 rfl) ?_
        refine fgX4_2 hx hb hts hown hK hw 0 rfl kw268 dX4_told_29 ?_
        refine lv_iload_n hx hb dX4_told_32 rfl (lv_at hl 1 rfl) ?_
        refine lv_ishr hx hb dX4_told_33 ?_
        refine lv_iconst (v := 1) hx hb dX4_told_34 (by decide) ?_
        refine lv_iand hx hb dX4_told_35 ?_
        refine lv_goto (tgt := 40) hx hb dX4_told_36 (by decide) ?_
        have hy := Option.some.inj h
        rw [← hQz, ← hy]
        exact xr_i (v := ((gI o_me 2) >>> (p0 &&& 31)) &&& (1 : Int32)) hx hb hr rfl hlk hK hw dX4_told_40
    · have h := z_t h c
      refine lv_aload_n hx hb dX4_told_16 rfl (lv_at hl 0 rfl) ?_
      refine fgX4_1 hx hb hts hown hK hw 0 rfl kw265 dX4_told_17 ?_
      refine lv_iload_n hx hb dX4_told_20 rfl (lv_at hl 1 rfl) ?_
      obtain ⟨g1, h⟩ := z_gd h
      refine faX4_1 hx hb hK hw 0 rfl rfl g1 dX4_told_21 ?_
      have hy := Option.some.inj h
      rw [← hQz, ← hy]
      exact xr_i (v := gA o_me 1 p0.toNatClampNeg) hx hb hr rfl hlk hK hw dX4_told_22
  · have h := z_t h c
    refine lv_aload_n hx hb dX4_told_4 rfl (lv_at hl 0 rfl) ?_
    refine fgX4_0 hx hb hts hown hK hw 0 rfl kw261 dX4_told_5 ?_
    refine lv_iload_n hx hb dX4_told_8 rfl (lv_at hl 1 rfl) ?_
    obtain ⟨g2, h⟩ := z_gd h
    refine faX4_0 hx hb hK hw 0 rfl rfl g2 dX4_told_9 ?_
    have hy := Option.some.inj h
    rw [← hQz, ← hy]
    exact xr_i (v := gA o_me 0 p0.toNatClampNeg) hx hb hr rfl hlk hK hw dX4_told_10

def f_X8_drawn (o_me : Ob) (o_me_paper : Ob) (o_me_paper_now : Ob) (p0 : Int32) (p1 : Int32) : Option (Int32) :=
  (f_X2_isPerson o_me_paper p0).bind fun z1 =>
  if z1 = (0 : Int32) then
  (some (-1 : Int32))
  else
  ((f_X4_told o_me_paper_now p0 p1).bind fun z2 =>
  some z2)
set_option maxHeartbeats 4000000 in
set_option maxRecDepth 100000 in
theorem m_X8_drawn (l : Launch) (dC : Nat → ClassId) (dI : Nat → Nat → Nat) (sz : Nat) (h_me : Nat) (h_me_reader : Nat) (h_me_machine : Nat) (h_me_isles : Nat) (h_me_court : Nat) (h_me_study : Nat) (h_me_paper : Nat) (h_me_paperCourt : Nat) (h_me_past : Nat) (h_me_pastAhead : Nat) (h_me_movingAhead : Nat) (h_me_paper_now : Nat) (q_me : Nat → Nat) (k_me : Nat → ClassId) (q_me_paper : Nat → Nat) (k_me_paper : Nat → ClassId) (q_me_paper_now : Nat → Nat) (k_me_paper_now : Nat → ClassId) (o_me : Ob) (o_me_paper : Ob) (o_me_paper_now : Ob) (p0 : Int32) (p1 : Int32) (y : Int32) (h : f_X8_drawn o_me o_me_paper o_me_paper_now p0 p1 = some y) : CI l yX8_drawn cX8_drawn 3 (some .int) ({ frames := 1, cells := 0, slots := 0, locals := 22 } : Room) dC dI sz [.ref h_me, .int p0, .int p1] [wX8 h_me h_me_reader h_me_machine h_me_isles h_me_court h_me_study h_me_paper h_me_paperCourt h_me_past h_me_pastAhead h_me_movingAhead q_me k_me o_me, wX2 h_me_paper h_me_paper_now q_me_paper k_me_paper o_me_paper, wX4 h_me_paper_now q_me_paper_now k_me_paper_now o_me_paper_now] [tX8 k_me, tX2 k_me_paper, tX4 k_me_paper_now] y [wX8 h_me h_me_reader h_me_machine h_me_isles h_me_court h_me_study h_me_paper h_me_paperCourt h_me_past h_me_pastAhead h_me_movingAhead q_me k_me o_me, wX2 h_me_paper h_me_paper_now q_me_paper k_me_paper o_me_paper, wX4 h_me_paper_now q_me_paper_now k_me_paper_now o_me_paper_now] := by
  refine CC_of (by decide) (Nat.le_of_ble_eq_true rfl) ?_
  intro p e s m below meth c A ls hx hb hml hr hlk hnm hown hts hX hK hP hD hA hl
  have hl : lv_has ls 3 [(0, .ref h_me), (1, .int p0), (2, .int p1)] := hl
  have hown : s.vm.findClass RX8 = some m.cls := hown
  have hw : Wd dC dI A s.heap [wX8 h_me h_me_reader h_me_machine h_me_isles h_me_court h_me_study h_me_paper h_me_paperCourt h_me_past h_me_pastAhead h_me_movingAhead q_me k_me o_me, wX2 h_me_paper h_me_paper_now q_me_paper k_me_paper o_me_paper, wX4 h_me_paper_now q_me_paper_now k_me_paper_now o_me_paper_now] s.heap [] := ⟨hP, hD, va_S.rf⟩
  generalize hQz : (MQ below (QI dC dI (fun r (_ : Unit) => r = y) (fun _ => Jn [wX8 h_me h_me_reader h_me_machine h_me_isles h_me_court h_me_study h_me_paper h_me_paperCourt h_me_past h_me_pastAhead h_me_movingAhead q_me k_me o_me, wX2 h_me_paper h_me_paper_now q_me_paper k_me_paper o_me_paper, wX4 h_me_paper_now q_me_paper_now k_me_paper_now o_me_paper_now]) (fun _ => Jt [tX8 k_me, tX2 k_me_paper, tX4 k_me_paper_now]) A) ([.ref h_me, .int p0, .int p1] : List Value).toArray s 0 0 A) = Qz
  clear hP hD hnm
  unfold f_X8_drawn at h
  refine lv_aload_n hx hb dX8_drawn_0 rfl (lv_at hl 0 rfl) ?_
  refine fgX8_5 hx hb hts hown hK hw 0 rfl kw447 dX8_drawn_1 ?_
  refine lv_iload_n hx hb dX8_drawn_4 rfl (lv_at hl 1 rfl) ?_
  obtain ⟨z1, ez1, h⟩ := z_bd h
  refine xj_i (xrV (As := [.int p0]) (rest := []) ⟨hx, hb, hml, hown, hts⟩ (m_X2_isPerson l dC dI _ h_me_paper h_me_paper_now q_me_paper k_me_paper o_me_paper p0 z1 ez1) kw504 kw501 kw502 kw503 kw115 hd_X2_isPerson ⟨rfl, rfl⟩ rfl rfl ⟨rfl, rfl⟩ hX hK hw [1] (by decide) rfl rfl rfl rfl rfl hl.1 rfl rfl dX8_drawn_5) hw hA [1] (by decide) rfl rfl (fun H locs hw => ?_)
  have hw : Wd dC dI A s.heap [wX8 h_me h_me_reader h_me_machine h_me_isles h_me_court h_me_study h_me_paper h_me_paperCourt h_me_past h_me_pastAhead h_me_movingAhead q_me k_me o_me, wX2 h_me_paper h_me_paper_now q_me_paper k_me_paper o_me_paper, wX4 h_me_paper_now q_me_paper_now k_me_paper_now o_me_paper_now] H locs := hw
  refine lv_if_eq (tgt := 26) hx hb dX8_drawn_8 (by decide) (fun c => ?_) (fun c => ?_)
  · have h := z_t h c
    refine lv_iconst (v := (-1)) hx hb dX8_drawn_26 (by decide) ?_
    have hy := Option.some.inj h
    rw [← hQz, ← hy]
    exact xr_i (v := (-1 : Int32)) hx hb hr rfl hlk hK hw dX8_drawn_27
  · have h := z_f h c
    refine lv_aload_n hx hb dX8_drawn_11 rfl (lv_at hl 0 rfl) ?_
    refine fgX8_5 hx hb hts hown hK hw 0 rfl kw447 dX8_drawn_12 ?_
    refine fgX2_0 hx hb hts hown hK hw 1 rfl kw297 dX8_drawn_15 ?_
    refine lv_iload_n hx hb dX8_drawn_18 rfl (lv_at hl 1 rfl) ?_
    refine lv_iload_n hx hb dX8_drawn_19 rfl (lv_at hl 2 rfl) ?_
    obtain ⟨z2, ez2, h⟩ := z_bd h
    refine xj_i (xrV (As := [.int p0, .int p1]) (rest := []) ⟨hx, hb, hml, hown, hts⟩ (m_X4_told l dC dI _ h_me_paper_now q_me_paper_now k_me_paper_now o_me_paper_now p0 p1 z2 ez2) kw589 kw586 kw587 kw588 kw116 hd_X4_told ⟨rfl, rfl⟩ rfl rfl ⟨rfl, rfl⟩ hX hK hw [2] (by decide) rfl rfl rfl rfl rfl hl.1 rfl rfl dX8_drawn_20) hw hA [2] (by decide) rfl rfl (fun H locs hw => ?_)
    have hw : Wd dC dI A s.heap [wX8 h_me h_me_reader h_me_machine h_me_isles h_me_court h_me_study h_me_paper h_me_paperCourt h_me_past h_me_pastAhead h_me_movingAhead q_me k_me o_me, wX2 h_me_paper h_me_paper_now q_me_paper k_me_paper o_me_paper, wX4 h_me_paper_now q_me_paper_now k_me_paper_now o_me_paper_now] H locs := hw
    refine lv_goto (tgt := 27) hx hb dX8_drawn_23 (by decide) ?_
    have hy := Option.some.inj h
    rw [← hQz, ← hy]
    exact xr_i (v := z2) hx hb hr rfl hlk hK hw dX8_drawn_27

def f_X8_end (o_me : Ob) (o_me_reader : Ob) (p0 : Int32) : Option (Int32 × Ob) :=
  if p0 < (0 : Int32) then
  (some ((-1 : Int32), o_me_reader))
  else
  (if p0 ≤ (gI o_me_reader 2) then
  (zlt (sI o_me_reader 2 p0) fun o1 =>
  some (p0, o1))
  else
  (some ((-1 : Int32), o_me_reader)))
set_option maxHeartbeats 4000000 in
set_option maxRecDepth 100000 in
theorem m_X8_end (l : Launch) (dC : Nat → ClassId) (dI : Nat → Nat → Nat) (sz : Nat) (h_me : Nat) (h_me_reader : Nat) (h_me_machine : Nat) (h_me_isles : Nat) (h_me_court : Nat) (h_me_study : Nat) (h_me_paper : Nat) (h_me_paperCourt : Nat) (h_me_past : Nat) (h_me_pastAhead : Nat) (h_me_movingAhead : Nat) (h_me_reader_code : Nat) (q_me : Nat → Nat) (k_me : Nat → ClassId) (q_me_reader : Nat → Nat) (k_me_reader : Nat → ClassId) (o_me : Ob) (o_me_reader : Ob) (p0 : Int32) (y : Int32 × Ob) (h : f_X8_end o_me o_me_reader p0 = some y) : CI l yX8_end cX8_end 2 (some .int) ({ frames := 0, cells := 0, slots := 0, locals := 0 } : Room) dC dI sz [.ref h_me, .int p0] [wX8 h_me h_me_reader h_me_machine h_me_isles h_me_court h_me_study h_me_paper h_me_paperCourt h_me_past h_me_pastAhead h_me_movingAhead q_me k_me o_me, wX6 h_me_reader h_me_reader_code q_me_reader k_me_reader o_me_reader] [tX8 k_me, tX6 k_me_reader] y.1 [wX8 h_me h_me_reader h_me_machine h_me_isles h_me_court h_me_study h_me_paper h_me_paperCourt h_me_past h_me_pastAhead h_me_movingAhead q_me k_me o_me, wX6 h_me_reader h_me_reader_code q_me_reader k_me_reader y.2] := by
  refine CC_of (by decide) (Nat.le_of_ble_eq_true rfl) ?_
  intro p e s m below meth c A ls hx hb hml hr hlk hnm hown hts hX hK hP hD hA hl
  have hl : lv_has ls 2 [(0, .ref h_me), (1, .int p0)] := hl
  have hown : s.vm.findClass RX8 = some m.cls := hown
  have hw : Wd dC dI A s.heap [wX8 h_me h_me_reader h_me_machine h_me_isles h_me_court h_me_study h_me_paper h_me_paperCourt h_me_past h_me_pastAhead h_me_movingAhead q_me k_me o_me, wX6 h_me_reader h_me_reader_code q_me_reader k_me_reader o_me_reader] s.heap [] := ⟨hP, hD, va_S.rf⟩
  generalize hQz : (MQ below (QI dC dI (fun r (_ : Unit) => r = y.1) (fun _ => Jn [wX8 h_me h_me_reader h_me_machine h_me_isles h_me_court h_me_study h_me_paper h_me_paperCourt h_me_past h_me_pastAhead h_me_movingAhead q_me k_me o_me, wX6 h_me_reader h_me_reader_code q_me_reader k_me_reader y.2]) (fun _ => Jt [tX8 k_me, tX6 k_me_reader]) A) ([.ref h_me, .int p0] : List Value).toArray s 0 0 A) = Qz
  clear hP hD hnm
  unfold f_X8_end at h
  refine lv_iload_n hx hb dX8_end_0 rfl (lv_at hl 1 rfl) ?_
  refine lv_if_lt (tgt := 15) hx hb dX8_end_1 (by decide) (fun c => ?_) (fun c => ?_)
  · have h := z_t h c
    refine lv_iconst (v := (-1)) hx hb dX8_end_15 (by decide) ?_
    have hy := Option.some.inj h
    rw [← hQz, ← hy]
    exact xr_i (v := (-1 : Int32)) hx hb hr rfl hlk hK hw dX8_end_16
  · have h := z_f h c
    refine lv_iload_n hx hb dX8_end_4 rfl (lv_at hl 1 rfl) ?_
    refine lv_aload_n hx hb dX8_end_5 rfl (lv_at hl 0 rfl) ?_
    refine fgX8_0 hx hb hts hown hK hw 0 rfl kw442 dX8_end_6 ?_
    refine fgX6_2 hx hb hts hown hK hw 1 rfl kw205 dX8_end_9 ?_
    refine lv_icmp_le (tgt := 17) hx hb dX8_end_12 (by decide) (fun c => ?_) (fun c => ?_)
    · have h := z_t h c
      refine lv_aload_n hx hb dX8_end_17 rfl (lv_at hl 0 rfl) ?_
      refine fgX8_0 hx hb hts hown hK hw 0 rfl kw442 dX8_end_18 ?_
      refine lv_iload_n hx hb dX8_end_21 rfl (lv_at hl 1 rfl) ?_
      refine fpX6_2 hx hb hts hown hK hw 1 rfl kw205 dX8_end_22 (fun H locs hw => ?_)
      obtain ⟨o1, eo1, h⟩ := z_lt h
      have hw : Wd dC dI A s.heap [wX8 h_me h_me_reader h_me_machine h_me_isles h_me_court h_me_study h_me_paper h_me_paperCourt h_me_past h_me_pastAhead h_me_movingAhead q_me k_me o_me, wX6 h_me_reader h_me_reader_code q_me_reader k_me_reader o1] H locs := by rw [eo1]; exact hw
      refine lv_iload_n hx hb dX8_end_25 rfl (lv_at hl 1 rfl) ?_
      have hy := Option.some.inj h
      rw [← hQz, ← hy]
      exact xr_i (v := p0) hx hb hr rfl hlk hK hw dX8_end_26
    · have h := z_f h c
      refine lv_iconst (v := (-1)) hx hb dX8_end_15 (by decide) ?_
      have hy := Option.some.inj h
      rw [← hQz, ← hy]
      exact xr_i (v := (-1 : Int32)) hx hb hr rfl hlk hK hw dX8_end_16

def f_X4_writeTo_AX5_1 (o_me : Ob) (o_a0 : Ob) (p1 : Int32) : Option (Ob) :=
  if p1 < (0 : Int32) then
  (some o_a0)
  else
  (if p1 ≤ (255 : Int32) then
  (zgd (zcp (0 : Int32) p1 (7 : Int32) 7 272) <|
  zlt (cA o_a0 1 (gA o_me 0) (0 : Int32) p1 (7 : Int32)) fun o2 =>
  zgd (zcp (0 : Int32) (p1 + (7 : Int32)) (7 : Int32) 7 272) <|
  zlt (cA o2 1 (gA o_me 1) (0 : Int32) (p1 + (7 : Int32)) (7 : Int32)) fun o4 =>
  zgd (zin ((p1 + (17 : Int32)) - (3 : Int32)) 272) <|
  zlt (tA o4 1 ((p1 + (17 : Int32)) - (3 : Int32)).toNatClampNeg (gI o_me 2)) fun o6 =>
  zgd (zin ((p1 + (17 : Int32)) - (2 : Int32)) 272) <|
  zlt (tA o6 1 ((p1 + (17 : Int32)) - (2 : Int32)).toNatClampNeg (gI o_me 3)) fun o8 =>
  zgd (zin ((p1 + (17 : Int32)) - (1 : Int32)) 272) <|
  zlt (tA o8 1 ((p1 + (17 : Int32)) - (1 : Int32)).toNatClampNeg (gI o_me 4)) fun o10 =>
  some o10)
  else
  (some o_a0))
set_option maxHeartbeats 4000000 in
set_option maxRecDepth 100000 in
theorem m_X4_writeTo_AX5_1 (l : Launch) (dC : Nat → ClassId) (dI : Nat → Nat → Nat) (sz : Nat) (h_me : Nat) (h_a0 : Nat) (q_me : Nat → Nat) (k_me : Nat → ClassId) (q_a0 : Nat → Nat) (k_a0 : Nat → ClassId) (o_me : Ob) (o_a0 : Ob) (p1 : Int32) (y : Ob) (h : f_X4_writeTo_AX5_1 o_me o_a0 p1 = some y) : CV l yX4_writeTo cX4_writeTo 3 none ({ frames := 1, cells := 0, slots := 0, locals := 60 } : Room) dC dI sz [.ref h_me, .ref (q_a0 1), .int p1] [wX4 h_me q_me k_me o_me, wX5 h_a0 q_a0 k_a0 o_a0] [tX4 k_me, tX5 k_a0] [wX4 h_me q_me k_me o_me, wX5 h_a0 q_a0 k_a0 y] := by
  refine CC_of (by decide) (Nat.le_of_ble_eq_true rfl) ?_
  intro p e s m below meth c A ls hx hb hml hr hlk hnm hown hts hX hK hP hD hA hl
  have hl : lv_has ls 3 [(0, .ref h_me), (1, .ref (q_a0 1)), (2, .int p1)] := hl
  have hown : s.vm.findClass RX4 = some m.cls := hown
  have hw : Wd dC dI A s.heap [wX4 h_me q_me k_me o_me, wX5 h_a0 q_a0 k_a0 o_a0] s.heap [] := ⟨hP, hD, va_S.rf⟩
  generalize hQz : (MQ below (QV dC dI (fun (_ : Unit) => True) (fun _ => Jn [wX4 h_me q_me k_me o_me, wX5 h_a0 q_a0 k_a0 y]) (fun _ => Jt [tX4 k_me, tX5 k_a0]) A) ([.ref h_me, .ref (q_a0 1), .int p1] : List Value).toArray s 0 0 A) = Qz
  clear hP hD hnm
  unfold f_X4_writeTo_AX5_1 at h
  refine lv_iload_n hx hb dX4_writeTo_0 rfl (lv_at hl 2 rfl) ?_
  refine lv_if_lt (tgt := 13) hx hb dX4_writeTo_1 (by decide) (fun c => ?_) (fun c => ?_)
  · have h := z_t h c
    have hy := Option.some.inj h
    rw [← hQz, ← hy]
    exact xr_v hx hb hr hlk hK hw dX4_writeTo_13
  · have h := z_f h c
    refine lv_iload_n hx hb dX4_writeTo_4 rfl (lv_at hl 2 rfl) ?_
    refine lv_aload_n hx hb dX4_writeTo_5 rfl (lv_at hl 1 rfl) ?_
    refine fnX5_1 hx hb hK hw 1 rfl rfl dX4_writeTo_6 ?_
    refine lv_fi (v := 272) (by decide) ?_
    refine lv_bipush (v := 17) hx hb dX4_writeTo_7 (by decide) ?_
    refine lv_isub hx hb dX4_writeTo_9 ?_
    refine lv_fi (v := 255) (by decide) ?_
    refine lv_icmp_le (tgt := 14) hx hb dX4_writeTo_10 (by decide) (fun c => ?_) (fun c => ?_)
    · have h := z_t h c
      refine lv_aload_n hx hb dX4_writeTo_14 rfl (lv_at hl 0 rfl) ?_
      refine fgX4_0 hx hb hts hown hK hw 0 rfl kw261 dX4_writeTo_15 ?_
      refine lv_iconst (v := 0) hx hb dX4_writeTo_18 (by decide) ?_
      refine lv_aload_n hx hb dX4_writeTo_19 rfl (lv_at hl 1 rfl) ?_
      refine lv_iload_n hx hb dX4_writeTo_20 rfl (lv_at hl 2 rfl) ?_
      refine lv_bipush (v := 7) hx hb dX4_writeTo_21 (by decide) ?_
      obtain ⟨g1, h⟩ := z_gd h
      refine xcopy (n0 := 0) (j0 := 1) (u0 := 0) (n1 := 1) (j1 := 2) (u1 := 1) hx hb (hml.trans hl.1.symm) hown hts kw826 kw812 kw811 kw125 hK hw rfl rfl rfl rfl rfl rfl rfl rfl g1 (Nat.le_of_ble_eq_true rfl) (Nat.le_of_ble_eq_true rfl) dX4_writeTo_23 (fun H locs hw => ?_)
      obtain ⟨o2, eo2, h⟩ := z_lt h
      have hw : Wd dC dI A s.heap [wX4 h_me q_me k_me o_me, wX5 h_a0 q_a0 k_a0 o2] H locs := by rw [eo2]; exact hw
      refine lv_aload_n hx hb dX4_writeTo_26 rfl (lv_at hl 0 rfl) ?_
      refine fgX4_1 hx hb hts hown hK hw 0 rfl kw265 dX4_writeTo_27 ?_
      refine lv_iconst (v := 0) hx hb dX4_writeTo_30 (by decide) ?_
      refine lv_aload_n hx hb dX4_writeTo_31 rfl (lv_at hl 1 rfl) ?_
      refine lv_iload_n hx hb dX4_writeTo_32 rfl (lv_at hl 2 rfl) ?_
      refine lv_bipush (v := 7) hx hb dX4_writeTo_33 (by decide) ?_
      refine lv_iadd hx hb dX4_writeTo_35 ?_
      refine lv_bipush (v := 7) hx hb dX4_writeTo_36 (by decide) ?_
      obtain ⟨g3, h⟩ := z_gd h
      refine xcopy (n0 := 0) (j0 := 2) (u0 := 1) (n1 := 1) (j1 := 2) (u1 := 1) hx hb (hml.trans hl.1.symm) hown hts kw826 kw812 kw811 kw125 hK hw rfl rfl rfl rfl rfl rfl rfl rfl g3 (Nat.le_of_ble_eq_true rfl) (Nat.le_of_ble_eq_true rfl) dX4_writeTo_38 (fun H locs hw => ?_)
      obtain ⟨o4, eo4, h⟩ := z_lt h
      have hw : Wd dC dI A s.heap [wX4 h_me q_me k_me o_me, wX5 h_a0 q_a0 k_a0 o4] H locs := by rw [eo4]; exact hw
      refine lv_aload_n hx hb dX4_writeTo_41 rfl (lv_at hl 1 rfl) ?_
      refine lv_iload_n hx hb dX4_writeTo_42 rfl (lv_at hl 2 rfl) ?_
      refine lv_bipush (v := 17) hx hb dX4_writeTo_43 (by decide) ?_
      refine lv_iadd hx hb dX4_writeTo_45 ?_
      refine lv_iconst (v := 3) hx hb dX4_writeTo_46 (by decide) ?_
      refine lv_isub hx hb dX4_writeTo_47 ?_
      refine lv_aload_n hx hb dX4_writeTo_48 rfl (lv_at hl 0 rfl) ?_
      refine fgX4_2 hx hb hts hown hK hw 0 rfl kw268 dX4_writeTo_49 ?_
      obtain ⟨g5, h⟩ := z_gd h
      refine fbX5_1 hx hb hK hw 1 rfl rfl g5 dX4_writeTo_52 (fun H locs hw => ?_)
      obtain ⟨o6, eo6, h⟩ := z_lt h
      have hw : Wd dC dI A s.heap [wX4 h_me q_me k_me o_me, wX5 h_a0 q_a0 k_a0 o6] H locs := by rw [eo6]; exact hw
      refine lv_aload_n hx hb dX4_writeTo_53 rfl (lv_at hl 1 rfl) ?_
      refine lv_iload_n hx hb dX4_writeTo_54 rfl (lv_at hl 2 rfl) ?_
      refine lv_bipush (v := 17) hx hb dX4_writeTo_55 (by decide) ?_
      refine lv_iadd hx hb dX4_writeTo_57 ?_
      refine lv_iconst (v := 2) hx hb dX4_writeTo_58 (by decide) ?_
      refine lv_isub hx hb dX4_writeTo_59 ?_
      refine lv_aload_n hx hb dX4_writeTo_60 rfl (lv_at hl 0 rfl) ?_
      refine fgX4_3 hx hb hts hown hK hw 0 rfl kw273 dX4_writeTo_61 ?_
      obtain ⟨g7, h⟩ := z_gd h
      refine fbX5_1 hx hb hK hw 1 rfl rfl g7 dX4_writeTo_64 (fun H locs hw => ?_)
      obtain ⟨o8, eo8, h⟩ := z_lt h
      have hw : Wd dC dI A s.heap [wX4 h_me q_me k_me o_me, wX5 h_a0 q_a0 k_a0 o8] H locs := by rw [eo8]; exact hw
      refine lv_aload_n hx hb dX4_writeTo_65 rfl (lv_at hl 1 rfl) ?_
      refine lv_iload_n hx hb dX4_writeTo_66 rfl (lv_at hl 2 rfl) ?_
      refine lv_bipush (v := 17) hx hb dX4_writeTo_67 (by decide) ?_
      refine lv_iadd hx hb dX4_writeTo_69 ?_
      refine lv_iconst (v := 1) hx hb dX4_writeTo_70 (by decide) ?_
      refine lv_isub hx hb dX4_writeTo_71 ?_
      refine lv_aload_n hx hb dX4_writeTo_72 rfl (lv_at hl 0 rfl) ?_
      refine fgX4_4 hx hb hts hown hK hw 0 rfl kw277 dX4_writeTo_73 ?_
      obtain ⟨g9, h⟩ := z_gd h
      refine fbX5_1 hx hb hK hw 1 rfl rfl g9 dX4_writeTo_76 (fun H locs hw => ?_)
      obtain ⟨o10, eo10, h⟩ := z_lt h
      have hw : Wd dC dI A s.heap [wX4 h_me q_me k_me o_me, wX5 h_a0 q_a0 k_a0 o10] H locs := by rw [eo10]; exact hw
      have hy := Option.some.inj h
      rw [← hQz, ← hy]
      exact xr_v hx hb hr hlk hK hw dX4_writeTo_77
    · have h := z_f h c
      have hy := Option.some.inj h
      rw [← hQz, ← hy]
      exact xr_v hx hb hr hlk hK hw dX4_writeTo_13

def bk_X5_keep_O_32 (o_a1 : Ob)  (v1 : Int32) (o_me : Ob) : Option (Ob) :=
  zlt (((gI o_me 2) + (gI o_me 3)) - ((gI o_me 2) + (gI o_me 3)) / (16 : Int32) * (16 : Int32)) fun x1 =>
  zgd (zin x1 16) <|
  zlt (tA o_me 0 x1.toNatClampNeg v1) fun o3 =>
  (f_X4_writeTo_AX5_1 o_a1 o3 (x1 * (17 : Int32))).bind fun z4 =>
  zlt (sI z4 3 ((gI z4 3) + (1 : Int32))) fun o5 =>
  some o5
def f_X5_keep_O (o_me : Ob) (o_a1 : Ob) (p0 : Int32) : Option (Ob) :=
  if (gI o_me 3) = (16 : Int32) then
  (zlt (sI o_me 2 (((gI o_me 2) + (1 : Int32)) - ((gI o_me 2) + (1 : Int32)) / (16 : Int32) * (16 : Int32))) fun o6 =>
  zlt (sI o6 3 ((gI o6 3) - (1 : Int32))) fun o7 =>
  bk_X5_keep_O_32 o_a1  p0 o7)
  else
  (bk_X5_keep_O_32 o_a1  p0 o_me)
set_option maxHeartbeats 4000000 in
set_option maxRecDepth 100000 in
theorem m_X5_keep_O (l : Launch) (dC : Nat → ClassId) (dI : Nat → Nat → Nat) (sz : Nat) (h_me : Nat) (h_a1 : Nat) (q_me : Nat → Nat) (k_me : Nat → ClassId) (q_a1 : Nat → Nat) (k_a1 : Nat → ClassId) (o_me : Ob) (o_a1 : Ob) (p0 : Int32) (y : Ob) (h : f_X5_keep_O o_me o_a1 p0 = some y) : CV l yX5_keep cX5_keep 4 none ({ frames := 2, cells := 0, slots := 0, locals := 82 } : Room) dC dI sz [.ref h_me, .int p0, .ref h_a1] [wX5 h_me q_me k_me o_me, wX4 h_a1 q_a1 k_a1 o_a1] [tX5 k_me, tX4 k_a1] [wX5 h_me q_me k_me y, wX4 h_a1 q_a1 k_a1 o_a1] := by
  refine CC_of (by decide) (Nat.le_of_ble_eq_true rfl) ?_
  intro p e s m below meth c A ls hx hb hml hr hlk hnm hown hts hX hK hP hD hA hl
  have hl : lv_has ls 4 [(0, .ref h_me), (1, .int p0), (2, .ref h_a1)] := hl
  have hown : s.vm.findClass RX5 = some m.cls := hown
  have hw : Wd dC dI A s.heap [wX5 h_me q_me k_me o_me, wX4 h_a1 q_a1 k_a1 o_a1] s.heap [] := ⟨hP, hD, va_S.rf⟩
  generalize hQz : (MQ below (QV dC dI (fun (_ : Unit) => True) (fun _ => Jn [wX5 h_me q_me k_me y, wX4 h_a1 q_a1 k_a1 o_a1]) (fun _ => Jt [tX5 k_me, tX4 k_a1]) A) ([.ref h_me, .int p0, .ref h_a1] : List Value).toArray s 0 0 A) = Qz
  clear hP hD hnm
  have bk_32_0 : ∀ (v1 : Int32) (o_me : Ob) (H : Heap) (locs : List Loc) (ls : Array Slot), bk_X5_keep_O_32 o_a1  v1 o_me = some y → Wd dC dI A s.heap [wX5 h_me q_me k_me o_me, wX4 h_a1 q_a1 k_a1 o_a1] H locs → lv_has ls 4 [(0, .ref h_me), (1, .int v1), (2, .ref h_a1)] → W p l e ({ frames := 2, cells := 0, slots := 0, locals := 82 } : Room) s m ([.ref h_me, .int p0, .ref h_a1] : List Value).toArray below meth c H locs 0 0 Qz (F0 m 32 ls []) := by
    intro v1 o_me H locs ls h hw hl
    unfold bk_X5_keep_O_32 at h
    refine lv_aload_n hx hb dX5_keep_32 rfl (lv_at hl 0 rfl) ?_
    refine fgX5_2 hx hb hts hown hK hw 0 rfl kw428 dX5_keep_33 ?_
    refine lv_aload_n hx hb dX5_keep_36 rfl (lv_at hl 0 rfl) ?_
    refine fgX5_3 hx hb hts hown hK hw 0 rfl kw429 dX5_keep_37 ?_
    refine lv_iadd hx hb dX5_keep_40 ?_
    refine lv_bipush (v := 16) hx hb dX5_keep_41 (by decide) ?_
    refine lv_irem hx hb dX5_keep_43 (by decide) ?_
    obtain ⟨x1, ex1, h⟩ := z_lt h
    refine lv_fi (v := x1) ex1.symm ?_
    refine lv_istore_n (lv' := [(3, .int x1), (0, .ref h_me), (1, .int v1), (2, .ref h_a1)]) hx hb dX5_keep_44 rfl hl (by decide) rfl (fun ls hl => ?_)
    refine lv_aload_n hx hb dX5_keep_45 rfl (lv_at hl 1 rfl) ?_
    refine fgX5_0 hx hb hts hown hK hw 0 rfl kw426 dX5_keep_46 ?_
    refine lv_iload_n hx hb dX5_keep_49 rfl (lv_at hl 0 rfl) ?_
    refine lv_iload_n hx hb dX5_keep_50 rfl (lv_at hl 2 rfl) ?_
    obtain ⟨g2, h⟩ := z_gd h
    refine fbX5_0 hx hb hK hw 0 rfl rfl g2 dX5_keep_51 (fun H locs hw => ?_)
    obtain ⟨o3, eo3, h⟩ := z_lt h
    have hw : Wd dC dI A s.heap [wX5 h_me q_me k_me o3, wX4 h_a1 q_a1 k_a1 o_a1] H locs := by rw [eo3]; exact hw
    refine lv_aload_n hx hb dX5_keep_52 rfl (lv_at hl 3 rfl) ?_
    refine lv_aload_n hx hb dX5_keep_53 rfl (lv_at hl 1 rfl) ?_
    refine fgX5_1 hx hb hts hown hK hw 0 rfl kw427 dX5_keep_54 ?_
    refine lv_iload_n hx hb dX5_keep_57 rfl (lv_at hl 0 rfl) ?_
    refine lv_bipush (v := 17) hx hb dX5_keep_58 (by decide) ?_
    refine lv_imul hx hb dX5_keep_60 ?_
    obtain ⟨z4, ez4, h⟩ := z_bd h
    refine xj_v (xrV (As := [.ref (q_me 1), .int (x1 * (17 : Int32))]) (rest := []) ⟨hx, hb, hml, hown, hts⟩ (m_X4_writeTo_AX5_1 l dC dI _ h_a1 h_me q_a1 k_a1 q_me k_me o_a1 o3 (x1 * (17 : Int32)) z4 ez4) kw862 kw859 kw860 kw861 kw116 hd_X4_writeTo ⟨rfl, rfl⟩ rfl rfl ⟨rfl, rfl⟩ hX hK hw [1, 0] (by decide) rfl rfl rfl rfl rfl hl.1 rfl rfl dX5_keep_61) hw hA [1, 0] (by decide) rfl rfl (fun H locs hw => ?_)
    have hw : Wd dC dI A s.heap [wX5 h_me q_me k_me z4, wX4 h_a1 q_a1 k_a1 o_a1] H locs := hw
    refine lv_aload_n hx hb dX5_keep_64 rfl (lv_at hl 1 rfl) ?_
    refine lv_dup hx hb dX5_keep_65 rfl ?_
    refine fgX5_3 hx hb hts hown hK hw 0 rfl kw429 dX5_keep_66 ?_
    refine lv_iconst (v := 1) hx hb dX5_keep_69 (by decide) ?_
    refine lv_iadd hx hb dX5_keep_70 ?_
    refine fpX5_3 hx hb hts hown hK hw 0 rfl kw429 dX5_keep_71 (fun H locs hw => ?_)
    obtain ⟨o5, eo5, h⟩ := z_lt h
    have hw : Wd dC dI A s.heap [wX5 h_me q_me k_me o5, wX4 h_a1 q_a1 k_a1 o_a1] H locs := by rw [eo5]; exact hw
    have hy := Option.some.inj h
    rw [← hQz, ← hy]
    exact xr_v hx hb hr hlk hK hw dX5_keep_74
  unfold f_X5_keep_O at h
  refine lv_aload_n hx hb dX5_keep_0 rfl (lv_at hl 0 rfl) ?_
  refine fgX5_3 hx hb hts hown hK hw 0 rfl kw429 dX5_keep_1 ?_
  refine lv_bipush (v := 16) hx hb dX5_keep_4 (by decide) ?_
  refine lv_icmp_ne (tgt := 32) hx hb dX5_keep_6 (by decide) (fun c => ?_) (fun c => ?_)
  · have h := z_f h c
    exact bk_32_0  p0 o_me _ _ _ h hw (lv_sub hl [0, 1, 2] rfl)
  · have h := z_t h c
    refine lv_aload_n hx hb dX5_keep_9 rfl (lv_at hl 0 rfl) ?_
    refine lv_aload_n hx hb dX5_keep_10 rfl (lv_at hl 0 rfl) ?_
    refine fgX5_2 hx hb hts hown hK hw 0 rfl kw428 dX5_keep_11 ?_
    refine lv_iconst (v := 1) hx hb dX5_keep_14 (by decide) ?_
    refine lv_iadd hx hb dX5_keep_15 ?_
    refine lv_bipush (v := 16) hx hb dX5_keep_16 (by decide) ?_
    refine lv_irem hx hb dX5_keep_18 (by decide) ?_
    refine fpX5_2 hx hb hts hown hK hw 0 rfl kw428 dX5_keep_19 (fun H locs hw => ?_)
    obtain ⟨o6, eo6, h⟩ := z_lt h
    have hw : Wd dC dI A s.heap [wX5 h_me q_me k_me o6, wX4 h_a1 q_a1 k_a1 o_a1] H locs := by rw [eo6]; exact hw
    refine lv_aload_n hx hb dX5_keep_22 rfl (lv_at hl 0 rfl) ?_
    refine lv_dup hx hb dX5_keep_23 rfl ?_
    refine fgX5_3 hx hb hts hown hK hw 0 rfl kw429 dX5_keep_24 ?_
    refine lv_iconst (v := 1) hx hb dX5_keep_27 (by decide) ?_
    refine lv_isub hx hb dX5_keep_28 ?_
    refine fpX5_3 hx hb hts hown hK hw 0 rfl kw429 dX5_keep_29 (fun H locs hw => ?_)
    obtain ⟨o7, eo7, h⟩ := z_lt h
    have hw : Wd dC dI A s.heap [wX5 h_me q_me k_me o7, wX4 h_a1 q_a1 k_a1 o_a1] H locs := by rw [eo7]; exact hw
    exact bk_32_0  p0 o7 _ _ _ h hw (lv_sub hl [0, 1, 2] rfl)

def bk_X1_moved_O_142 (o_me_isles : Ob) (o_pool : List CR)  (v1 : Int32) (v2 : Int32) (o_me : Ob) (o_me_isles_now : Ob) (o_me_machine : Ob) (o_a2 : Ob) : Option (Int32 × Ob × Ob × Ob × Ob) :=
  if v1 = (0 : Int32) then
  ((f_X1_heldRace o_me o_me_isles o_me_isles_now o_me_machine o_pool v2).bind fun z4 =>
  some (z4.1, o_me, z4.2.1, z4.2.2, o_a2))
  else
  (if v1 = (1 : Int32) then
  ((f_X1_changedEntry o_me o_me_isles o_me_isles_now v2).bind fun z5 =>
  some (z5.1, o_me, z5.2, o_me_machine, o_a2))
  else
  (if v1 = (2 : Int32) then
  ((f_X1_takenGap o_me o_me_isles o_me_isles_now v2).bind fun z6 =>
  some (z6.1, o_me, z6.2, o_me_machine, o_a2))
  else
  ((f_X1_passedYear o_me o_me_isles o_me_isles_now o_me_machine o_pool).bind fun z7 =>
  some (z7.1, o_me, z7.2.1, z7.2.2, o_a2))))
def bk_X1_moved_O_118 (o_me_isles : Ob) (o_pool : List CR)  (v1 : Int32) (v2 : Int32) (v4 : Int32) (o_me : Ob) (o_me_isles_now : Ob) (o_me_machine : Ob) (o_a2 : Ob) : Option (Int32 × Ob × Ob × Ob × Ob) :=
  if v4 = (0 : Int32) then
  ((f_X5_keep_O o_a2 o_me_isles_now v1).bind fun z2 =>
  bk_X1_moved_O_142 o_me_isles o_pool  v1 v2 o_me o_me_isles_now o_me_machine z2)
  else
  (some (v4, o_me, o_me_isles_now, o_me_machine, o_a2))
def bk_X1_moved_O_116 (o_me_isles : Ob) (o_pool : List CR)  (v1 : Int32) (v2 : Int32) (s0 : Int32) (o_me : Ob) (o_me_isles_now : Ob) (o_me_machine : Ob) (o_a2 : Ob) : Option (Int32 × Ob × Ob × Ob × Ob) :=
  bk_X1_moved_O_118 o_me_isles o_pool  v1 v2 s0 o_me o_me_isles_now o_me_machine o_a2
def bk_X1_moved_O_115 (o_me_isles : Ob) (o_pool : List CR)  (v1 : Int32) (v2 : Int32) (o_me : Ob) (o_me_isles_now : Ob) (o_me_machine : Ob) (o_a2 : Ob) : Option (Int32 × Ob × Ob × Ob × Ob) :=
  bk_X1_moved_O_116 o_me_isles o_pool  v1 v2 (0 : Int32) o_me o_me_isles_now o_me_machine o_a2
def bk_X1_moved_O_71 (o_me_isles : Ob) (o_pool : List CR)  (v1 : Int32) (v2 : Int32) (s0 : Int32) (o_me : Ob) (o_me_isles_now : Ob) (o_me_machine : Ob) (o_a2 : Ob) : Option (Int32 × Ob × Ob × Ob × Ob) :=
  bk_X1_moved_O_118 o_me_isles o_pool  v1 v2 s0 o_me o_me_isles_now o_me_machine o_a2
def bk_X1_moved_O_39 (o_me_isles : Ob) (o_pool : List CR)  (v1 : Int32) (v2 : Int32) (s0 : Int32) (o_me : Ob) (o_me_isles_now : Ob) (o_me_machine : Ob) (o_a2 : Ob) : Option (Int32 × Ob × Ob × Ob × Ob) :=
  bk_X1_moved_O_118 o_me_isles o_pool  v1 v2 s0 o_me o_me_isles_now o_me_machine o_a2
def f_X1_moved_O (o_me : Ob) (o_me_isles : Ob) (o_me_isles_now : Ob) (o_me_machine : Ob) (o_pool : List CR) (o_a2 : Ob) (p0 : Int32) (p1 : Int32) : Option (Int32 × Ob × Ob × Ob × Ob) :=
  if p0 = (0 : Int32) then
  ((f_X8_isRace p1).bind fun z8 =>
  if z8 = (0 : Int32) then
  (bk_X1_moved_O_39 o_me_isles o_pool  p0 p1 (-1 : Int32) o_me o_me_isles_now o_me_machine o_a2)
  else
  ((f_X2_lawInForce o_me_isles).bind fun z9 =>
  (f_X1_lineUp_Q o_me o_me_isles o_me_isles_now o_me_machine o_pool z9 p1).bind fun z10 =>
  if z10.1 = (0 : Int32) then
  (bk_X1_moved_O_39 o_me_isles o_pool  p0 p1 (-3 : Int32) z10.2.1 o_me_isles_now z10.2.2 o_a2)
  else
  (bk_X1_moved_O_39 o_me_isles o_pool  p0 p1 (0 : Int32) z10.2.1 o_me_isles_now z10.2.2 o_a2)))
  else
  (if p0 = (3 : Int32) then
  (if (gI o_me_isles_now 4) < (999 : Int32) then
  (bk_X1_moved_O_71 o_me_isles o_pool  p0 p1 (0 : Int32) o_me o_me_isles_now o_me_machine o_a2)
  else
  (bk_X1_moved_O_71 o_me_isles o_pool  p0 p1 (-3 : Int32) o_me o_me_isles_now o_me_machine o_a2))
  else
  ((f_X2_isPerson o_me_isles p1).bind fun z1 =>
  if z1 = (0 : Int32) then
  (bk_X1_moved_O_116 o_me_isles o_pool  p0 p1 (-2 : Int32) o_me o_me_isles_now o_me_machine o_a2)
  else
  (if p0 = (2 : Int32) then
  (if (gI o_me_isles_now 3) = (0 : Int32) then
  (bk_X1_moved_O_116 o_me_isles o_pool  p0 p1 (-3 : Int32) o_me o_me_isles_now o_me_machine o_a2)
  else
  (bk_X1_moved_O_115 o_me_isles o_pool  p0 p1 o_me o_me_isles_now o_me_machine o_a2))
  else
  (bk_X1_moved_O_115 o_me_isles o_pool  p0 p1 o_me o_me_isles_now o_me_machine o_a2))))
set_option maxHeartbeats 4000000 in
set_option maxRecDepth 100000 in
theorem m_X1_moved_O (l : Launch) (dC : Nat → ClassId) (dI : Nat → Nat → Nat) (sz : Nat) (h_me : Nat) (h_me_isles : Nat) (h_me_machine : Nat) (h_me_isles_now : Nat) (h_a2 : Nat) (q_me : Nat → Nat) (k_me : Nat → ClassId) (q_me_isles : Nat → Nat) (k_me_isles : Nat → ClassId) (q_me_isles_now : Nat → Nat) (k_me_isles_now : Nat → ClassId) (q_me_machine : Nat → Nat) (k_me_machine : Nat → ClassId) (q_a2 : Nat → Nat) (k_a2 : Nat → ClassId) (o_me : Ob) (o_me_isles : Ob) (o_me_isles_now : Ob) (o_me_machine : Ob) (o_pool : List CR) (o_a2 : Ob) (p0 : Int32) (p1 : Int32) (y : Int32 × Ob × Ob × Ob × Ob) (h : f_X1_moved_O o_me o_me_isles o_me_isles_now o_me_machine o_pool o_a2 p0 p1 = some y) : CI l yX1_moved cX1_moved 5 (some .int) ({ frames := 5, cells := 0, slots := 0, locals := 139 } : Room) dC dI sz [.ref h_me, .int p0, .int p1, .ref h_a2] [wX1 h_me h_me_isles h_me_machine q_me k_me o_me, wX2 h_me_isles h_me_isles_now q_me_isles k_me_isles o_me_isles, wX4 h_me_isles_now q_me_isles_now k_me_isles_now o_me_isles_now, wX3 h_me_machine q_me_machine k_me_machine o_me_machine, wPL o_pool, wX5 h_a2 q_a2 k_a2 o_a2] [tX1 k_me, tX2 k_me_isles, tX4 k_me_isles_now, tX3 k_me_machine, tPL o_pool, tX5 k_a2] y.1 [wX1 h_me h_me_isles h_me_machine q_me k_me y.2.1, wX2 h_me_isles h_me_isles_now q_me_isles k_me_isles o_me_isles, wX4 h_me_isles_now q_me_isles_now k_me_isles_now y.2.2.1, wX3 h_me_machine q_me_machine k_me_machine y.2.2.2.1, wPL o_pool, wX5 h_a2 q_a2 k_a2 y.2.2.2.2] := by
  refine CC_of (by decide) (Nat.le_of_ble_eq_true rfl) ?_
  intro p e s m below meth c A ls hx hb hml hr hlk hnm hown hts hX hK hP hD hA hl
  have hl : lv_has ls 5 [(0, .ref h_me), (1, .int p0), (2, .int p1), (3, .ref h_a2)] := hl
  have hown : s.vm.findClass RX1 = some m.cls := hown
  have hw : Wd dC dI A s.heap [wX1 h_me h_me_isles h_me_machine q_me k_me o_me, wX2 h_me_isles h_me_isles_now q_me_isles k_me_isles o_me_isles, wX4 h_me_isles_now q_me_isles_now k_me_isles_now o_me_isles_now, wX3 h_me_machine q_me_machine k_me_machine o_me_machine, wPL o_pool, wX5 h_a2 q_a2 k_a2 o_a2] s.heap [] := ⟨hP, hD, va_S.rf⟩
  generalize hQz : (MQ below (QI dC dI (fun r (_ : Unit) => r = y.1) (fun _ => Jn [wX1 h_me h_me_isles h_me_machine q_me k_me y.2.1, wX2 h_me_isles h_me_isles_now q_me_isles k_me_isles o_me_isles, wX4 h_me_isles_now q_me_isles_now k_me_isles_now y.2.2.1, wX3 h_me_machine q_me_machine k_me_machine y.2.2.2.1, wPL o_pool, wX5 h_a2 q_a2 k_a2 y.2.2.2.2]) (fun _ => Jt [tX1 k_me, tX2 k_me_isles, tX4 k_me_isles_now, tX3 k_me_machine, tPL o_pool, tX5 k_a2]) A) ([.ref h_me, .int p0, .int p1, .ref h_a2] : List Value).toArray s 0 0 A) = Qz
  clear hP hD hnm
  have bk_142_3 : ∀ (v1 : Int32) (v2 : Int32) (o_me : Ob) (o_me_isles_now : Ob) (o_me_machine : Ob) (o_a2 : Ob) (H : Heap) (locs : List Loc) (ls : Array Slot), bk_X1_moved_O_142 o_me_isles o_pool  v1 v2 o_me o_me_isles_now o_me_machine o_a2 = some y → Wd dC dI A s.heap [wX1 h_me h_me_isles h_me_machine q_me k_me o_me, wX2 h_me_isles h_me_isles_now q_me_isles k_me_isles o_me_isles, wX4 h_me_isles_now q_me_isles_now k_me_isles_now o_me_isles_now, wX3 h_me_machine q_me_machine k_me_machine o_me_machine, wPL o_pool, wX5 h_a2 q_a2 k_a2 o_a2] H locs → lv_has ls 5 [(0, .ref h_me), (1, .int v1), (2, .int v2)] → W p l e ({ frames := 5, cells := 0, slots := 0, locals := 139 } : Room) s m ([.ref h_me, .int p0, .int p1, .ref h_a2] : List Value).toArray below meth c H locs 0 0 Qz (F0 m 142 ls []) := by
    intro v1 v2 o_me o_me_isles_now o_me_machine o_a2 H locs ls h hw hl
    unfold bk_X1_moved_O_142 at h
    refine lv_iload_n hx hb dX1_moved_142 rfl (lv_at hl 1 rfl) ?_
    rcases (show v1.toInt = 0 ∨ v1.toInt = 1 ∨ v1.toInt = 2 ∨ (v1.toInt < 0 ∨ 2 < v1.toInt) by omega) with c3 | c3 | c3 | c3
    · skip
      have ec3 : v1 = (0 : Int32) := Int32.toInt_inj.mp (c3.trans (by decide))
      have h := z_t h ec3
      refine lv_fi (v := 0) ec3 ?_
      refine lv_tableIn (tgt := 168) hx hb dX1_moved_143 (by decide) (by decide) rfl (by decide) ?_
      refine lv_aload_n hx hb dX1_moved_168 rfl (lv_at hl 0 rfl) ?_
      refine lv_iload_n hx hb dX1_moved_169 rfl (lv_at hl 2 rfl) ?_
      obtain ⟨z4, ez4, h⟩ := z_bd h
      refine xj_i (xrV (As := [.int v2]) (rest := []) ⟨hx, hb, hml, hown, hts⟩ (m_X1_heldRace l dC dI _ h_me h_me_isles h_me_machine h_me_isles_now q_me k_me q_me_isles k_me_isles q_me_isles_now k_me_isles_now q_me_machine k_me_machine o_me o_me_isles o_me_isles_now o_me_machine o_pool v2 z4 ez4) kw866 kw863 kw865 kw20 kw117 hd_X1_heldRace ⟨rfl, rfl⟩ rfl rfl ⟨rfl, rfl⟩ hX hK hw [0, 1, 2, 3, 4] (by decide) rfl rfl rfl rfl rfl hl.1 rfl rfl dX1_moved_170) hw hA [0, 1, 2, 3, 4] (by decide) rfl rfl (fun H locs hw => ?_)
      have hw : Wd dC dI A s.heap [wX1 h_me h_me_isles h_me_machine q_me k_me o_me, wX2 h_me_isles h_me_isles_now q_me_isles k_me_isles o_me_isles, wX4 h_me_isles_now q_me_isles_now k_me_isles_now z4.2.1, wX3 h_me_machine q_me_machine k_me_machine z4.2.2, wPL o_pool, wX5 h_a2 q_a2 k_a2 o_a2] H locs := hw
      have hy := Option.some.inj h
      rw [← hQz, ← hy]
      exact xr_i (v := z4.1) hx hb hr rfl hlk hK hw dX1_moved_173
    · skip
      have h := z_f h (fun e9 => by rw [e9] at c3; revert c3; decide)
      have ec3 : v1 = (1 : Int32) := Int32.toInt_inj.mp (c3.trans (by decide))
      have h := z_t h ec3
      refine lv_fi (v := 1) ec3 ?_
      refine lv_tableIn (tgt := 174) hx hb dX1_moved_143 (by decide) (by decide) rfl (by decide) ?_
      refine lv_aload_n hx hb dX1_moved_174 rfl (lv_at hl 0 rfl) ?_
      refine lv_iload_n hx hb dX1_moved_175 rfl (lv_at hl 2 rfl) ?_
      obtain ⟨z5, ez5, h⟩ := z_bd h
      refine xj_i (xrV (As := [.int v2]) (rest := []) ⟨hx, hb, hml, hown, hts⟩ (m_X1_changedEntry l dC dI _ h_me h_me_isles h_me_machine h_me_isles_now q_me k_me q_me_isles k_me_isles q_me_isles_now k_me_isles_now o_me o_me_isles o_me_isles_now v2 z5 ez5) kw885 kw882 kw884 kw22 kw117 hd_X1_changedEntry ⟨rfl, rfl⟩ rfl rfl ⟨rfl, rfl⟩ hX hK hw [0, 1, 2] (by decide) rfl rfl rfl rfl rfl hl.1 rfl rfl dX1_moved_176) hw hA [0, 1, 2] (by decide) rfl rfl (fun H locs hw => ?_)
      have hw : Wd dC dI A s.heap [wX1 h_me h_me_isles h_me_machine q_me k_me o_me, wX2 h_me_isles h_me_isles_now q_me_isles k_me_isles o_me_isles, wX4 h_me_isles_now q_me_isles_now k_me_isles_now z5.2, wX3 h_me_machine q_me_machine k_me_machine o_me_machine, wPL o_pool, wX5 h_a2 q_a2 k_a2 o_a2] H locs := hw
      have hy := Option.some.inj h
      rw [← hQz, ← hy]
      exact xr_i (v := z5.1) hx hb hr rfl hlk hK hw dX1_moved_179
    · skip
      have h := z_f h (fun e9 => by rw [e9] at c3; revert c3; decide)
      have h := z_f h (fun e9 => by rw [e9] at c3; revert c3; decide)
      have ec3 : v1 = (2 : Int32) := Int32.toInt_inj.mp (c3.trans (by decide))
      have h := z_t h ec3
      refine lv_fi (v := 2) ec3 ?_
      refine lv_tableIn (tgt := 180) hx hb dX1_moved_143 (by decide) (by decide) rfl (by decide) ?_
      refine lv_aload_n hx hb dX1_moved_180 rfl (lv_at hl 0 rfl) ?_
      refine lv_iload_n hx hb dX1_moved_181 rfl (lv_at hl 2 rfl) ?_
      obtain ⟨z6, ez6, h⟩ := z_bd h
      refine xj_i (xrV (As := [.int v2]) (rest := []) ⟨hx, hb, hml, hown, hts⟩ (m_X1_takenGap l dC dI _ h_me h_me_isles h_me_machine h_me_isles_now q_me k_me q_me_isles k_me_isles q_me_isles_now k_me_isles_now o_me o_me_isles o_me_isles_now v2 z6 ez6) kw889 kw886 kw888 kw23 kw117 hd_X1_takenGap ⟨rfl, rfl⟩ rfl rfl ⟨rfl, rfl⟩ hX hK hw [0, 1, 2] (by decide) rfl rfl rfl rfl rfl hl.1 rfl rfl dX1_moved_182) hw hA [0, 1, 2] (by decide) rfl rfl (fun H locs hw => ?_)
      have hw : Wd dC dI A s.heap [wX1 h_me h_me_isles h_me_machine q_me k_me o_me, wX2 h_me_isles h_me_isles_now q_me_isles k_me_isles o_me_isles, wX4 h_me_isles_now q_me_isles_now k_me_isles_now z6.2, wX3 h_me_machine q_me_machine k_me_machine o_me_machine, wPL o_pool, wX5 h_a2 q_a2 k_a2 o_a2] H locs := hw
      have hy := Option.some.inj h
      rw [← hQz, ← hy]
      exact xr_i (v := z6.1) hx hb hr rfl hlk hK hw dX1_moved_185
    · skip
      have h := z_f h (fun e9 => by rw [e9] at c3; revert c3; decide)
      have h := z_f h (fun e9 => by rw [e9] at c3; revert c3; decide)
      have h := z_f h (fun e9 => by rw [e9] at c3; revert c3; decide)
      refine lv_tableOut (tgt := 186) hx hb dX1_moved_143 c3 (by decide) ?_
      refine lv_aload_n hx hb dX1_moved_186 rfl (lv_at hl 0 rfl) ?_
      obtain ⟨z7, ez7, h⟩ := z_bd h
      refine xj_i (xrV (As := []) (rest := []) ⟨hx, hb, hml, hown, hts⟩ (m_X1_passedYear l dC dI _ h_me h_me_isles h_me_machine h_me_isles_now q_me k_me q_me_isles k_me_isles q_me_isles_now k_me_isles_now q_me_machine k_me_machine o_me o_me_isles o_me_isles_now o_me_machine o_pool z7 ez7) kw893 kw890 kw892 kw24 kw117 hd_X1_passedYear ⟨rfl, rfl⟩ rfl rfl ⟨rfl, rfl⟩ hX hK hw [0, 1, 2, 3, 4] (by decide) rfl rfl rfl rfl rfl hl.1 rfl rfl dX1_moved_187) hw hA [0, 1, 2, 3, 4] (by decide) rfl rfl (fun H locs hw => ?_)
      have hw : Wd dC dI A s.heap [wX1 h_me h_me_isles h_me_machine q_me k_me o_me, wX2 h_me_isles h_me_isles_now q_me_isles k_me_isles o_me_isles, wX4 h_me_isles_now q_me_isles_now k_me_isles_now z7.2.1, wX3 h_me_machine q_me_machine k_me_machine z7.2.2, wPL o_pool, wX5 h_a2 q_a2 k_a2 o_a2] H locs := hw
      have hy := Option.some.inj h
      rw [← hQz, ← hy]
      exact xr_i (v := z7.1) hx hb hr rfl hlk hK hw dX1_moved_190
  have bk_118_2 : ∀ (v1 : Int32) (v2 : Int32) (v4 : Int32) (o_me : Ob) (o_me_isles_now : Ob) (o_me_machine : Ob) (o_a2 : Ob) (H : Heap) (locs : List Loc) (ls : Array Slot), bk_X1_moved_O_118 o_me_isles o_pool  v1 v2 v4 o_me o_me_isles_now o_me_machine o_a2 = some y → Wd dC dI A s.heap [wX1 h_me h_me_isles h_me_machine q_me k_me o_me, wX2 h_me_isles h_me_isles_now q_me_isles k_me_isles o_me_isles, wX4 h_me_isles_now q_me_isles_now k_me_isles_now o_me_isles_now, wX3 h_me_machine q_me_machine k_me_machine o_me_machine, wPL o_pool, wX5 h_a2 q_a2 k_a2 o_a2] H locs → lv_has ls 5 [(0, .ref h_me), (1, .int v1), (2, .int v2), (3, .ref h_a2), (4, .int v4)] → W p l e ({ frames := 5, cells := 0, slots := 0, locals := 139 } : Room) s m ([.ref h_me, .int p0, .int p1, .ref h_a2] : List Value).toArray below meth c H locs 0 0 Qz (F0 m 118 ls []) := by
    intro v1 v2 v4 o_me o_me_isles_now o_me_machine o_a2 H locs ls h hw hl
    unfold bk_X1_moved_O_118 at h
    refine lv_iload hx hb dX1_moved_118 (lv_at hl 4 rfl) ?_
    refine lv_if_eq (tgt := 126) hx hb dX1_moved_120 (by decide) (fun c => ?_) (fun c => ?_)
    · have h := z_t h c
      refine lv_aload_n hx hb dX1_moved_126 rfl (lv_at hl 3 rfl) ?_
      refine lv_ifnull hx hb dX1_moved_127 ?_
      refine lv_aload_n hx hb dX1_moved_130 rfl (lv_at hl 3 rfl) ?_
      refine lv_iload_n hx hb dX1_moved_131 rfl (lv_at hl 1 rfl) ?_
      refine lv_aload_n hx hb dX1_moved_132 rfl (lv_at hl 0 rfl) ?_
      refine fgX1_0 hx hb hts hown hK hw 0 rfl kw363 dX1_moved_133 ?_
      refine fgX2_0 hx hb hts hown hK hw 1 rfl kw299 dX1_moved_136 ?_
      obtain ⟨z2, ez2, h⟩ := z_bd h
      refine xj_v (xrV (As := [.int v1, .ref h_me_isles_now]) (rest := []) ⟨hx, hb, hml, hown, hts⟩ (m_X5_keep_O l dC dI _ h_a2 h_me_isles_now q_a2 k_a2 q_me_isles_now k_me_isles_now o_a2 o_me_isles_now v1 z2 ez2) kw858 kw855 kw856 kw857 kw119 hd_X5_keep ⟨rfl, rfl⟩ rfl rfl ⟨rfl, rfl⟩ hX hK hw [5, 2] (by decide) rfl rfl rfl rfl rfl hl.1 rfl rfl dX1_moved_139) hw hA [5, 2] (by decide) rfl rfl (fun H locs hw => ?_)
      have hw : Wd dC dI A s.heap [wX1 h_me h_me_isles h_me_machine q_me k_me o_me, wX2 h_me_isles h_me_isles_now q_me_isles k_me_isles o_me_isles, wX4 h_me_isles_now q_me_isles_now k_me_isles_now o_me_isles_now, wX3 h_me_machine q_me_machine k_me_machine o_me_machine, wPL o_pool, wX5 h_a2 q_a2 k_a2 z2] H locs := hw
      exact bk_142_3  v1 v2 o_me o_me_isles_now o_me_machine z2 _ _ _ h hw (lv_sub hl [0, 1, 2] rfl)
    · have h := z_f h c
      refine lv_iload hx hb dX1_moved_123 (lv_at hl 4 rfl) ?_
      have hy := Option.some.inj h
      rw [← hQz, ← hy]
      exact xr_i (v := v4) hx hb hr rfl hlk hK hw dX1_moved_125
  have bk_116_1 : ∀ (v1 : Int32) (v2 : Int32) (s0 : Int32) (o_me : Ob) (o_me_isles_now : Ob) (o_me_machine : Ob) (o_a2 : Ob) (H : Heap) (locs : List Loc) (ls : Array Slot), bk_X1_moved_O_116 o_me_isles o_pool  v1 v2 s0 o_me o_me_isles_now o_me_machine o_a2 = some y → Wd dC dI A s.heap [wX1 h_me h_me_isles h_me_machine q_me k_me o_me, wX2 h_me_isles h_me_isles_now q_me_isles k_me_isles o_me_isles, wX4 h_me_isles_now q_me_isles_now k_me_isles_now o_me_isles_now, wX3 h_me_machine q_me_machine k_me_machine o_me_machine, wPL o_pool, wX5 h_a2 q_a2 k_a2 o_a2] H locs → lv_has ls 5 [(0, .ref h_me), (1, .int v1), (2, .int v2), (3, .ref h_a2)] → W p l e ({ frames := 5, cells := 0, slots := 0, locals := 139 } : Room) s m ([.ref h_me, .int p0, .int p1, .ref h_a2] : List Value).toArray below meth c H locs 0 0 Qz (F0 m 116 ls [.int s0]) := by
    intro v1 v2 s0 o_me o_me_isles_now o_me_machine o_a2 H locs ls h hw hl
    unfold bk_X1_moved_O_116 at h
    refine lv_istore (lv' := [(4, .int s0), (0, .ref h_me), (1, .int v1), (2, .int v2), (3, .ref h_a2)]) hx hb dX1_moved_116 hl (by decide) rfl (fun ls hl => ?_)
    exact bk_118_2  v1 v2 s0 o_me o_me_isles_now o_me_machine o_a2 _ _ _ h hw (lv_sub hl [1, 2, 3, 4, 0] rfl)
  have bk_115_0 : ∀ (v1 : Int32) (v2 : Int32) (o_me : Ob) (o_me_isles_now : Ob) (o_me_machine : Ob) (o_a2 : Ob) (H : Heap) (locs : List Loc) (ls : Array Slot), bk_X1_moved_O_115 o_me_isles o_pool  v1 v2 o_me o_me_isles_now o_me_machine o_a2 = some y → Wd dC dI A s.heap [wX1 h_me h_me_isles h_me_machine q_me k_me o_me, wX2 h_me_isles h_me_isles_now q_me_isles k_me_isles o_me_isles, wX4 h_me_isles_now q_me_isles_now k_me_isles_now o_me_isles_now, wX3 h_me_machine q_me_machine k_me_machine o_me_machine, wPL o_pool, wX5 h_a2 q_a2 k_a2 o_a2] H locs → lv_has ls 5 [(0, .ref h_me), (1, .int v1), (2, .int v2), (3, .ref h_a2)] → W p l e ({ frames := 5, cells := 0, slots := 0, locals := 139 } : Room) s m ([.ref h_me, .int p0, .int p1, .ref h_a2] : List Value).toArray below meth c H locs 0 0 Qz (F0 m 115 ls []) := by
    intro v1 v2 o_me o_me_isles_now o_me_machine o_a2 H locs ls h hw hl
    unfold bk_X1_moved_O_115 at h
    refine lv_iconst (v := 0) hx hb dX1_moved_115 (by decide) ?_
    exact bk_116_1  v1 v2 (0 : Int32) o_me o_me_isles_now o_me_machine o_a2 _ _ _ h hw (lv_sub hl [0, 1, 2, 3] rfl)
  have bk_71_4 : ∀ (v1 : Int32) (v2 : Int32) (s0 : Int32) (o_me : Ob) (o_me_isles_now : Ob) (o_me_machine : Ob) (o_a2 : Ob) (H : Heap) (locs : List Loc) (ls : Array Slot), bk_X1_moved_O_71 o_me_isles o_pool  v1 v2 s0 o_me o_me_isles_now o_me_machine o_a2 = some y → Wd dC dI A s.heap [wX1 h_me h_me_isles h_me_machine q_me k_me o_me, wX2 h_me_isles h_me_isles_now q_me_isles k_me_isles o_me_isles, wX4 h_me_isles_now q_me_isles_now k_me_isles_now o_me_isles_now, wX3 h_me_machine q_me_machine k_me_machine o_me_machine, wPL o_pool, wX5 h_a2 q_a2 k_a2 o_a2] H locs → lv_has ls 5 [(0, .ref h_me), (1, .int v1), (2, .int v2), (3, .ref h_a2)] → W p l e ({ frames := 5, cells := 0, slots := 0, locals := 139 } : Room) s m ([.ref h_me, .int p0, .int p1, .ref h_a2] : List Value).toArray below meth c H locs 0 0 Qz (F0 m 71 ls [.int s0]) := by
    intro v1 v2 s0 o_me o_me_isles_now o_me_machine o_a2 H locs ls h hw hl
    unfold bk_X1_moved_O_71 at h
    refine lv_istore (lv' := [(4, .int s0), (0, .ref h_me), (1, .int v1), (2, .int v2), (3, .ref h_a2)]) hx hb dX1_moved_71 hl (by decide) rfl (fun ls hl => ?_)
    refine lv_goto (tgt := 118) hx hb dX1_moved_73 (by decide) ?_
    exact bk_118_2  v1 v2 s0 o_me o_me_isles_now o_me_machine o_a2 _ _ _ h hw (lv_sub hl [1, 2, 3, 4, 0] rfl)
  have bk_39_5 : ∀ (v1 : Int32) (v2 : Int32) (s0 : Int32) (o_me : Ob) (o_me_isles_now : Ob) (o_me_machine : Ob) (o_a2 : Ob) (H : Heap) (locs : List Loc) (ls : Array Slot), bk_X1_moved_O_39 o_me_isles o_pool  v1 v2 s0 o_me o_me_isles_now o_me_machine o_a2 = some y → Wd dC dI A s.heap [wX1 h_me h_me_isles h_me_machine q_me k_me o_me, wX2 h_me_isles h_me_isles_now q_me_isles k_me_isles o_me_isles, wX4 h_me_isles_now q_me_isles_now k_me_isles_now o_me_isles_now, wX3 h_me_machine q_me_machine k_me_machine o_me_machine, wPL o_pool, wX5 h_a2 q_a2 k_a2 o_a2] H locs → lv_has ls 5 [(0, .ref h_me), (1, .int v1), (2, .int v2), (3, .ref h_a2)] → W p l e ({ frames := 5, cells := 0, slots := 0, locals := 139 } : Room) s m ([.ref h_me, .int p0, .int p1, .ref h_a2] : List Value).toArray below meth c H locs 0 0 Qz (F0 m 39 ls [.int s0]) := by
    intro v1 v2 s0 o_me o_me_isles_now o_me_machine o_a2 H locs ls h hw hl
    unfold bk_X1_moved_O_39 at h
    refine lv_istore (lv' := [(4, .int s0), (0, .ref h_me), (1, .int v1), (2, .int v2), (3, .ref h_a2)]) hx hb dX1_moved_39 hl (by decide) rfl (fun ls hl => ?_)
    refine lv_goto (tgt := 118) hx hb dX1_moved_41 (by decide) ?_
    exact bk_118_2  v1 v2 s0 o_me o_me_isles_now o_me_machine o_a2 _ _ _ h hw (lv_sub hl [1, 2, 3, 4, 0] rfl)
  unfold f_X1_moved_O at h
  refine lv_iconst (v := 0) hx hb dX1_moved_0 (by decide) ?_
  refine lv_istore (lv' := [(4, .int (0 : Int32)), (0, .ref h_me), (1, .int p0), (2, .int p1), (3, .ref h_a2)]) hx hb dX1_moved_1 hl (by decide) rfl (fun ls hl => ?_)
  refine lv_iload_n hx hb dX1_moved_3 rfl (lv_at hl 2 rfl) ?_
  refine lv_if_ne (tgt := 44) hx hb dX1_moved_4 (by decide) (fun c => ?_) (fun c => ?_)
  · have h := z_f h c
    refine lv_iload_n hx hb dX1_moved_44 rfl (lv_at hl 2 rfl) ?_
    refine lv_iconst (v := 3) hx hb dX1_moved_45 (by decide) ?_
    refine lv_icmp_ne (tgt := 76) hx hb dX1_moved_46 (by decide) (fun c => ?_) (fun c => ?_)
    · have h := z_f h c
      refine lv_aload_n hx hb dX1_moved_76 rfl (lv_at hl 1 rfl) ?_
      refine fgX1_0 hx hb hts hown hK hw 0 rfl kw363 dX1_moved_77 ?_
      refine lv_iload_n hx hb dX1_moved_80 rfl (lv_at hl 3 rfl) ?_
      obtain ⟨z1, ez1, h⟩ := z_bd h
      refine xj_i (xrV (As := [.int p1]) (rest := []) ⟨hx, hb, hml, hown, hts⟩ (m_X2_isPerson l dC dI _ h_me_isles h_me_isles_now q_me_isles k_me_isles o_me_isles p1 z1 ez1) kw504 kw548 kw502 kw503 kw115 hd_X2_isPerson ⟨rfl, rfl⟩ rfl rfl ⟨rfl, rfl⟩ hX hK hw [1] (by decide) rfl rfl rfl rfl rfl hl.1 rfl rfl dX1_moved_81) hw hA [1] (by decide) rfl rfl (fun H locs hw => ?_)
      have hw : Wd dC dI A s.heap [wX1 h_me h_me_isles h_me_machine q_me k_me o_me, wX2 h_me_isles h_me_isles_now q_me_isles k_me_isles o_me_isles, wX4 h_me_isles_now q_me_isles_now k_me_isles_now o_me_isles_now, wX3 h_me_machine q_me_machine k_me_machine o_me_machine, wPL o_pool, wX5 h_a2 q_a2 k_a2 o_a2] H locs := hw
      refine lv_if_ne (tgt := 92) hx hb dX1_moved_84 (by decide) (fun c => ?_) (fun c => ?_)
      · have h := z_f h c
        refine lv_iload_n hx hb dX1_moved_92 rfl (lv_at hl 2 rfl) ?_
        refine lv_iconst (v := 2) hx hb dX1_moved_93 (by decide) ?_
        refine lv_icmp_ne (tgt := 115) hx hb dX1_moved_94 (by decide) (fun c => ?_) (fun c => ?_)
        · have h := z_f h c
          exact bk_115_0  p0 p1 o_me o_me_isles_now o_me_machine o_a2 _ _ _ h hw (lv_sub hl [1, 2, 3, 4] rfl)
        · have h := z_t h c
          refine lv_aload_n hx hb dX1_moved_97 rfl (lv_at hl 1 rfl) ?_
          refine fgX1_0 hx hb hts hown hK hw 0 rfl kw363 dX1_moved_98 ?_
          refine fgX2_0 hx hb hts hown hK hw 1 rfl kw299 dX1_moved_101 ?_
          refine fgX4_3 hx hb hts hown hK hw 2 rfl kw275 dX1_moved_104 ?_
          refine lv_if_ne (tgt := 115) hx hb dX1_moved_107 (by decide) (fun c => ?_) (fun c => ?_)
          · have h := z_f h c
            exact bk_115_0  p0 p1 o_me o_me_isles_now o_me_machine o_a2 _ _ _ h hw (lv_sub hl [1, 2, 3, 4] rfl)
          · have h := z_t h c
            refine lv_bipush (v := (-3)) hx hb dX1_moved_110 (by decide) ?_
            refine lv_goto (tgt := 116) hx hb dX1_moved_112 (by decide) ?_
            exact bk_116_1  p0 p1 (-3 : Int32) o_me o_me_isles_now o_me_machine o_a2 _ _ _ h hw (lv_sub hl [1, 2, 3, 4] rfl)
      · have h := z_t h c
        refine lv_bipush (v := (-2)) hx hb dX1_moved_87 (by decide) ?_
        refine lv_goto (tgt := 116) hx hb dX1_moved_89 (by decide) ?_
        exact bk_116_1  p0 p1 (-2 : Int32) o_me o_me_isles_now o_me_machine o_a2 _ _ _ h hw (lv_sub hl [1, 2, 3, 4] rfl)
    · have h := z_t h c
      refine lv_aload_n hx hb dX1_moved_49 rfl (lv_at hl 1 rfl) ?_
      refine fgX1_0 hx hb hts hown hK hw 0 rfl kw363 dX1_moved_50 ?_
      refine fgX2_0 hx hb hts hown hK hw 1 rfl kw299 dX1_moved_53 ?_
      refine fgX4_4 hx hb hts hown hK hw 2 rfl kw280 dX1_moved_56 ?_
      refine lv_sipush (v := 999) hx hb dX1_moved_59 (by decide) ?_
      refine lv_icmp_lt (tgt := 70) hx hb dX1_moved_62 (by decide) (fun c => ?_) (fun c => ?_)
      · have h := z_t h c
        refine lv_iconst (v := 0) hx hb dX1_moved_70 (by decide) ?_
        exact bk_71_4  p0 p1 (0 : Int32) o_me o_me_isles_now o_me_machine o_a2 _ _ _ h hw (lv_sub hl [1, 2, 3, 4] rfl)
      · have h := z_f h c
        refine lv_bipush (v := (-3)) hx hb dX1_moved_65 (by decide) ?_
        refine lv_goto (tgt := 71) hx hb dX1_moved_67 (by decide) ?_
        exact bk_71_4  p0 p1 (-3 : Int32) o_me o_me_isles_now o_me_machine o_a2 _ _ _ h hw (lv_sub hl [1, 2, 3, 4] rfl)
  · have h := z_t h c
    refine lv_iload_n hx hb dX1_moved_7 rfl (lv_at hl 3 rfl) ?_
    obtain ⟨z8, ez8, h⟩ := z_bd h
    refine xj_i (xrSN (As := [.int p1]) (rest := []) ⟨hx, hb, hml, hown, hts⟩ (m_X8_isRace l dC dI _  p1 z8 ez8) kw527 (hX.1.2.2.2.2.2.2.1) kw526 kw110 hd_X8_isRace ⟨rfl, rfl⟩ rfl rfl ⟨rfl, rfl⟩ hX hK hw [] (by decide) rfl rfl hl.1 rfl rfl dX1_moved_8) hw hA [] (by decide) rfl rfl (fun H locs hw => ?_)
    refine lv_if_ne (tgt := 18) hx hb dX1_moved_11 (by decide) (fun c => ?_) (fun c => ?_)
    · have h := z_f h c
      refine lv_aload_n hx hb dX1_moved_18 rfl (lv_at hl 1 rfl) ?_
      refine lv_aload_n hx hb dX1_moved_19 rfl (lv_at hl 1 rfl) ?_
      refine fgX1_0 hx hb hts hown hK hw 0 rfl kw363 dX1_moved_20 ?_
      obtain ⟨z9, ez9, h⟩ := z_bd h
      refine xj_q (xrV (As := []) (rest := [.ref h_me]) ⟨hx, hb, hml, hown, hts⟩ (m_X2_lawInForce l dC dI _ h_me_isles h_me_isles_now q_me_isles k_me_isles o_me_isles z9 ez9) kw531 kw853 kw529 kw530 kw115 hd_X2_lawInForce ⟨rfl, rfl⟩ rfl rfl ⟨rfl, rfl⟩ hX hK hw [1] (by decide) rfl rfl rfl rfl rfl hl.1 rfl rfl dX1_moved_23) hw hA [1] (by decide) rfl rfl (fun H locs hw => ?_)
      have hw : Wd dC dI A s.heap [wX1 h_me h_me_isles h_me_machine q_me k_me o_me, wX2 h_me_isles h_me_isles_now q_me_isles k_me_isles o_me_isles, wX4 h_me_isles_now q_me_isles_now k_me_isles_now o_me_isles_now, wX3 h_me_machine q_me_machine k_me_machine o_me_machine, wPL o_pool, wX5 h_a2 q_a2 k_a2 o_a2] H locs := hw
      refine lv_iload_n hx hb dX1_moved_26 rfl (lv_at hl 3 rfl) ?_
      obtain ⟨z10, ez10, h⟩ := z_bd h
      refine xj_i (xrV (As := [va_rf z9, .int p1]) (rest := []) ⟨hx, hb, hml, hown, hts⟩ (m_X1_lineUp_Q l dC dI _ h_me h_me_isles h_me_machine h_me_isles_now q_me k_me q_me_isles k_me_isles q_me_isles_now k_me_isles_now q_me_machine k_me_machine o_me o_me_isles o_me_isles_now o_me_machine o_pool z9 p1 z10 ez10) kw605 kw854 kw603 kw604 kw117 hd_X1_lineUp ⟨rfl, rfl⟩ rfl rfl ⟨rfl, rfl⟩ hX hK hw [0, 1, 2, 3, 4] (by decide) rfl rfl rfl rfl rfl hl.1 rfl rfl dX1_moved_27) hw hA [0, 1, 2, 3, 4] (by decide) rfl rfl (fun H locs hw => ?_)
      have hw : Wd dC dI A s.heap [wX1 h_me h_me_isles h_me_machine q_me k_me z10.2.1, wX2 h_me_isles h_me_isles_now q_me_isles k_me_isles o_me_isles, wX4 h_me_isles_now q_me_isles_now k_me_isles_now o_me_isles_now, wX3 h_me_machine q_me_machine k_me_machine z10.2.2, wPL o_pool, wX5 h_a2 q_a2 k_a2 o_a2] H locs := hw
      refine lv_if_ne (tgt := 38) hx hb dX1_moved_30 (by decide) (fun c => ?_) (fun c => ?_)
      · have h := z_f h c
        refine lv_iconst (v := 0) hx hb dX1_moved_38 (by decide) ?_
        exact bk_39_5  p0 p1 (0 : Int32) z10.2.1 o_me_isles_now z10.2.2 o_a2 _ _ _ h hw (lv_sub hl [1, 2, 3, 4] rfl)
      · have h := z_t h c
        refine lv_bipush (v := (-3)) hx hb dX1_moved_33 (by decide) ?_
        refine lv_goto (tgt := 39) hx hb dX1_moved_35 (by decide) ?_
        exact bk_39_5  p0 p1 (-3 : Int32) z10.2.1 o_me_isles_now z10.2.2 o_a2 _ _ _ h hw (lv_sub hl [1, 2, 3, 4] rfl)
    · have h := z_t h c
      refine lv_iconst (v := (-1)) hx hb dX1_moved_14 (by decide) ?_
      refine lv_goto (tgt := 39) hx hb dX1_moved_15 (by decide) ?_
      exact bk_39_5  p0 p1 (-1 : Int32) o_me o_me_isles_now o_me_machine o_a2 _ _ _ h hw (lv_sub hl [1, 2, 3, 4] rfl)

def f_X8_answer (o_me : Ob) (p0 : Int32) : Option (Int32 × Ob) :=
  if (0 : Int32) ≤ p0 then
  ((f_X8_grant o_me p0).bind fun z1 =>
  some (z1.1, z1.2))
  else
  ((f_X8_refuse o_me p0).bind fun z2 =>
  some (z2.1, z2.2))
set_option maxHeartbeats 4000000 in
set_option maxRecDepth 100000 in
theorem m_X8_answer (l : Launch) (dC : Nat → ClassId) (dI : Nat → Nat → Nat) (sz : Nat) (h_me : Nat) (h_me_reader : Nat) (h_me_machine : Nat) (h_me_isles : Nat) (h_me_court : Nat) (h_me_study : Nat) (h_me_paper : Nat) (h_me_paperCourt : Nat) (h_me_past : Nat) (h_me_pastAhead : Nat) (h_me_movingAhead : Nat) (q_me : Nat → Nat) (k_me : Nat → ClassId) (o_me : Ob) (p0 : Int32) (y : Int32 × Ob) (h : f_X8_answer o_me p0 = some y) : CI l yX8_answer cX8_answer 2 (some .int) ({ frames := 1, cells := 0, slots := 0, locals := 21 } : Room) dC dI sz [.ref h_me, .int p0] [wX8 h_me h_me_reader h_me_machine h_me_isles h_me_court h_me_study h_me_paper h_me_paperCourt h_me_past h_me_pastAhead h_me_movingAhead q_me k_me o_me] [tX8 k_me] y.1 [wX8 h_me h_me_reader h_me_machine h_me_isles h_me_court h_me_study h_me_paper h_me_paperCourt h_me_past h_me_pastAhead h_me_movingAhead q_me k_me y.2] := by
  refine CC_of (by decide) (Nat.le_of_ble_eq_true rfl) ?_
  intro p e s m below meth c A ls hx hb hml hr hlk hnm hown hts hX hK hP hD hA hl
  have hl : lv_has ls 2 [(0, .ref h_me), (1, .int p0)] := hl
  have hown : s.vm.findClass RX8 = some m.cls := hown
  have hw : Wd dC dI A s.heap [wX8 h_me h_me_reader h_me_machine h_me_isles h_me_court h_me_study h_me_paper h_me_paperCourt h_me_past h_me_pastAhead h_me_movingAhead q_me k_me o_me] s.heap [] := ⟨hP, hD, va_S.rf⟩
  generalize hQz : (MQ below (QI dC dI (fun r (_ : Unit) => r = y.1) (fun _ => Jn [wX8 h_me h_me_reader h_me_machine h_me_isles h_me_court h_me_study h_me_paper h_me_paperCourt h_me_past h_me_pastAhead h_me_movingAhead q_me k_me y.2]) (fun _ => Jt [tX8 k_me]) A) ([.ref h_me, .int p0] : List Value).toArray s 0 0 A) = Qz
  clear hP hD hnm
  unfold f_X8_answer at h
  refine lv_iload_n hx hb dX8_answer_0 rfl (lv_at hl 1 rfl) ?_
  refine lv_if_ge (tgt := 12) hx hb dX8_answer_1 (by decide) (fun c => ?_) (fun c => ?_)
  · have h := z_t h c
    refine lv_aload_n hx hb dX8_answer_12 rfl (lv_at hl 0 rfl) ?_
    refine lv_iload_n hx hb dX8_answer_13 rfl (lv_at hl 1 rfl) ?_
    obtain ⟨z1, ez1, h⟩ := z_bd h
    refine xj_i (xrV (As := [.int p0]) (rest := []) ⟨hx, hb, hml, hown, hts⟩ (m_X8_grant l dC dI _ h_me h_me_reader h_me_machine h_me_isles h_me_court h_me_study h_me_paper h_me_paperCourt h_me_past h_me_pastAhead h_me_movingAhead q_me k_me o_me p0 z1 ez1) kw520 kw517 kw519 kw1 kw110 hd_X8_grant ⟨rfl, rfl⟩ rfl rfl ⟨rfl, rfl⟩ hX hK hw [0] (by decide) rfl rfl rfl rfl rfl hl.1 rfl rfl dX8_answer_14) hw hA [0] (by decide) rfl rfl (fun H locs hw => ?_)
    have hw : Wd dC dI A s.heap [wX8 h_me h_me_reader h_me_machine h_me_isles h_me_court h_me_study h_me_paper h_me_paperCourt h_me_past h_me_pastAhead h_me_movingAhead q_me k_me z1.2] H locs := hw
    have hy := Option.some.inj h
    rw [← hQz, ← hy]
    exact xr_i (v := z1.1) hx hb hr rfl hlk hK hw dX8_answer_17
  · have h := z_f h c
    refine lv_aload_n hx hb dX8_answer_4 rfl (lv_at hl 0 rfl) ?_
    refine lv_iload_n hx hb dX8_answer_5 rfl (lv_at hl 1 rfl) ?_
    obtain ⟨z2, ez2, h⟩ := z_bd h
    refine xj_i (xrV (As := [.int p0]) (rest := []) ⟨hx, hb, hml, hown, hts⟩ (m_X8_refuse l dC dI _ h_me h_me_reader h_me_machine h_me_isles h_me_court h_me_study h_me_paper h_me_paperCourt h_me_past h_me_pastAhead h_me_movingAhead q_me k_me o_me p0 z2 ez2) kw508 kw505 kw507 kw0 kw110 hd_X8_refuse ⟨rfl, rfl⟩ rfl rfl ⟨rfl, rfl⟩ hX hK hw [0] (by decide) rfl rfl rfl rfl rfl hl.1 rfl rfl dX8_answer_6) hw hA [0] (by decide) rfl rfl (fun H locs hw => ?_)
    have hw : Wd dC dI A s.heap [wX8 h_me h_me_reader h_me_machine h_me_isles h_me_court h_me_study h_me_paper h_me_paperCourt h_me_past h_me_pastAhead h_me_movingAhead q_me k_me z2.2] H locs := hw
    refine lv_goto (tgt := 17) hx hb dX8_answer_9 (by decide) ?_
    have hy := Option.some.inj h
    rw [← hQz, ← hy]
    exact xr_i (v := z2.1) hx hb hr rfl hlk hK hw dX8_answer_17

def f_X8_enter (o_me : Ob) (o_me_machine : Ob) (o_me_isles : Ob) (o_me_isles_now : Ob) (o_me_court : Ob) (o_me_past : Ob) (o_pool : List CR) (p0 : Int32) : Option (Int32 × Ob × Ob × Ob × Ob × Ob) :=
  (f_X1_moved_O o_me_court o_me_isles o_me_isles_now o_me_machine o_pool o_me_past (1 : Int32) p0).bind fun z1 =>
  (f_X8_answer o_me z1.1).bind fun z2 =>
  some (z2.1, z2.2, z1.2.2.2.1, z1.2.2.1, z1.2.1, z1.2.2.2.2)
set_option maxHeartbeats 4000000 in
set_option maxRecDepth 100000 in
theorem m_X8_enter (l : Launch) (dC : Nat → ClassId) (dI : Nat → Nat → Nat) (sz : Nat) (h_me : Nat) (h_me_reader : Nat) (h_me_machine : Nat) (h_me_isles : Nat) (h_me_court : Nat) (h_me_study : Nat) (h_me_paper : Nat) (h_me_paperCourt : Nat) (h_me_past : Nat) (h_me_pastAhead : Nat) (h_me_movingAhead : Nat) (h_me_isles_now : Nat) (q_me : Nat → Nat) (k_me : Nat → ClassId) (q_me_machine : Nat → Nat) (k_me_machine : Nat → ClassId) (q_me_isles : Nat → Nat) (k_me_isles : Nat → ClassId) (q_me_isles_now : Nat → Nat) (k_me_isles_now : Nat → ClassId) (q_me_court : Nat → Nat) (k_me_court : Nat → ClassId) (q_me_past : Nat → Nat) (k_me_past : Nat → ClassId) (o_me : Ob) (o_me_machine : Ob) (o_me_isles : Ob) (o_me_isles_now : Ob) (o_me_court : Ob) (o_me_past : Ob) (o_pool : List CR) (p0 : Int32) (y : Int32 × Ob × Ob × Ob × Ob × Ob) (h : f_X8_enter o_me o_me_machine o_me_isles o_me_isles_now o_me_court o_me_past o_pool p0 = some y) : CI l yX8_enter cX8_enter 2 (some .int) ({ frames := 6, cells := 0, slots := 0, locals := 163 } : Room) dC dI sz [.ref h_me, .int p0] [wX8 h_me h_me_reader h_me_machine h_me_isles h_me_court h_me_study h_me_paper h_me_paperCourt h_me_past h_me_pastAhead h_me_movingAhead q_me k_me o_me, wX3 h_me_machine q_me_machine k_me_machine o_me_machine, wX2 h_me_isles h_me_isles_now q_me_isles k_me_isles o_me_isles, wX4 h_me_isles_now q_me_isles_now k_me_isles_now o_me_isles_now, wX1 h_me_court h_me_isles h_me_machine q_me_court k_me_court o_me_court, wX5 h_me_past q_me_past k_me_past o_me_past, wPL o_pool] [tX8 k_me, tX3 k_me_machine, tX2 k_me_isles, tX4 k_me_isles_now, tX1 k_me_court, tX5 k_me_past, tPL o_pool] y.1 [wX8 h_me h_me_reader h_me_machine h_me_isles h_me_court h_me_study h_me_paper h_me_paperCourt h_me_past h_me_pastAhead h_me_movingAhead q_me k_me y.2.1, wX3 h_me_machine q_me_machine k_me_machine y.2.2.1, wX2 h_me_isles h_me_isles_now q_me_isles k_me_isles o_me_isles, wX4 h_me_isles_now q_me_isles_now k_me_isles_now y.2.2.2.1, wX1 h_me_court h_me_isles h_me_machine q_me_court k_me_court y.2.2.2.2.1, wX5 h_me_past q_me_past k_me_past y.2.2.2.2.2, wPL o_pool] := by
  refine CC_of (by decide) (Nat.le_of_ble_eq_true rfl) ?_
  intro p e s m below meth c A ls hx hb hml hr hlk hnm hown hts hX hK hP hD hA hl
  have hl : lv_has ls 2 [(0, .ref h_me), (1, .int p0)] := hl
  have hown : s.vm.findClass RX8 = some m.cls := hown
  have hw : Wd dC dI A s.heap [wX8 h_me h_me_reader h_me_machine h_me_isles h_me_court h_me_study h_me_paper h_me_paperCourt h_me_past h_me_pastAhead h_me_movingAhead q_me k_me o_me, wX3 h_me_machine q_me_machine k_me_machine o_me_machine, wX2 h_me_isles h_me_isles_now q_me_isles k_me_isles o_me_isles, wX4 h_me_isles_now q_me_isles_now k_me_isles_now o_me_isles_now, wX1 h_me_court h_me_isles h_me_machine q_me_court k_me_court o_me_court, wX5 h_me_past q_me_past k_me_past o_me_past, wPL o_pool] s.heap [] := ⟨hP, hD, va_S.rf⟩
  generalize hQz : (MQ below (QI dC dI (fun r (_ : Unit) => r = y.1) (fun _ => Jn [wX8 h_me h_me_reader h_me_machine h_me_isles h_me_court h_me_study h_me_paper h_me_paperCourt h_me_past h_me_pastAhead h_me_movingAhead q_me k_me y.2.1, wX3 h_me_machine q_me_machine k_me_machine y.2.2.1, wX2 h_me_isles h_me_isles_now q_me_isles k_me_isles o_me_isles, wX4 h_me_isles_now q_me_isles_now k_me_isles_now y.2.2.2.1, wX1 h_me_court h_me_isles h_me_machine q_me_court k_me_court y.2.2.2.2.1, wX5 h_me_past q_me_past k_me_past y.2.2.2.2.2, wPL o_pool]) (fun _ => Jt [tX8 k_me, tX3 k_me_machine, tX2 k_me_isles, tX4 k_me_isles_now, tX1 k_me_court, tX5 k_me_past, tPL o_pool]) A) ([.ref h_me, .int p0] : List Value).toArray s 0 0 A) = Qz
  clear hP hD hnm
  unfold f_X8_enter at h
  refine lv_aload_n hx hb dX8_enter_0 rfl (lv_at hl 0 rfl) ?_
  refine lv_aload_n hx hb dX8_enter_1 rfl (lv_at hl 0 rfl) ?_
  refine fgX8_3 hx hb hts hown hK hw 0 rfl kw445 dX8_enter_2 ?_
  refine lv_iconst (v := 1) hx hb dX8_enter_5 (by decide) ?_
  refine lv_iload_n hx hb dX8_enter_6 rfl (lv_at hl 1 rfl) ?_
  refine lv_aload_n hx hb dX8_enter_7 rfl (lv_at hl 0 rfl) ?_
  refine fgX8_8 hx hb hts hown hK hw 0 rfl kw450 dX8_enter_8 ?_
  obtain ⟨z1, ez1, h⟩ := z_bd h
  refine xj_i (xrV (As := [.int (1 : Int32), .int p0, .ref h_me_past]) (rest := [.ref h_me]) ⟨hx, hb, hml, hown, hts⟩ (m_X1_moved_O l dC dI _ h_me_court h_me_isles h_me_machine h_me_isles_now h_me_past q_me_court k_me_court q_me_isles k_me_isles q_me_isles_now k_me_isles_now q_me_machine k_me_machine q_me_past k_me_past o_me_court o_me_isles o_me_isles_now o_me_machine o_pool o_me_past (1 : Int32) p0 z1 ez1) kw852 kw849 kw850 kw851 kw117 hd_X1_moved ⟨rfl, rfl⟩ rfl rfl ⟨rfl, rfl⟩ hX hK hw [4, 2, 3, 1, 6, 5] (by decide) rfl rfl rfl rfl rfl hl.1 rfl rfl dX8_enter_11) hw hA [4, 2, 3, 1, 6, 5] (by decide) rfl rfl (fun H locs hw => ?_)
  have hw : Wd dC dI A s.heap [wX8 h_me h_me_reader h_me_machine h_me_isles h_me_court h_me_study h_me_paper h_me_paperCourt h_me_past h_me_pastAhead h_me_movingAhead q_me k_me o_me, wX3 h_me_machine q_me_machine k_me_machine z1.2.2.2.1, wX2 h_me_isles h_me_isles_now q_me_isles k_me_isles o_me_isles, wX4 h_me_isles_now q_me_isles_now k_me_isles_now z1.2.2.1, wX1 h_me_court h_me_isles h_me_machine q_me_court k_me_court z1.2.1, wX5 h_me_past q_me_past k_me_past z1.2.2.2.2, wPL o_pool] H locs := hw
  obtain ⟨z2, ez2, h⟩ := z_bd h
  refine xj_i (xrV (As := [.int z1.1]) (rest := []) ⟨hx, hb, hml, hown, hts⟩ (m_X8_answer l dC dI _ h_me h_me_reader h_me_machine h_me_isles h_me_court h_me_study h_me_paper h_me_paperCourt h_me_past h_me_pastAhead h_me_movingAhead q_me k_me o_me z1.1 z2 ez2) kw918 kw915 kw917 kw26 kw110 hd_X8_answer ⟨rfl, rfl⟩ rfl rfl ⟨rfl, rfl⟩ hX hK hw [0] (by decide) rfl rfl rfl rfl rfl hl.1 rfl rfl dX8_enter_14) hw hA [0] (by decide) rfl rfl (fun H locs hw => ?_)
  have hw : Wd dC dI A s.heap [wX8 h_me h_me_reader h_me_machine h_me_isles h_me_court h_me_study h_me_paper h_me_paperCourt h_me_past h_me_pastAhead h_me_movingAhead q_me k_me z2.2, wX3 h_me_machine q_me_machine k_me_machine z1.2.2.2.1, wX2 h_me_isles h_me_isles_now q_me_isles k_me_isles o_me_isles, wX4 h_me_isles_now q_me_isles_now k_me_isles_now z1.2.2.1, wX1 h_me_court h_me_isles h_me_machine q_me_court k_me_court z1.2.1, wX5 h_me_past q_me_past k_me_past z1.2.2.2.2, wPL o_pool] H locs := hw
  have hy := Option.some.inj h
  rw [← hQz, ← hy]
  exact xr_i (v := z2.1) hx hb hr rfl hlk hK hw dX8_enter_17

def f_X8_fault (o_me : Ob) (o_me_reader : Ob) : Option (Int32) :=
  some (gI o_me_reader 3)
set_option maxHeartbeats 4000000 in
set_option maxRecDepth 100000 in
theorem m_X8_fault (l : Launch) (dC : Nat → ClassId) (dI : Nat → Nat → Nat) (sz : Nat) (h_me : Nat) (h_me_reader : Nat) (h_me_machine : Nat) (h_me_isles : Nat) (h_me_court : Nat) (h_me_study : Nat) (h_me_paper : Nat) (h_me_paperCourt : Nat) (h_me_past : Nat) (h_me_pastAhead : Nat) (h_me_movingAhead : Nat) (h_me_reader_code : Nat) (q_me : Nat → Nat) (k_me : Nat → ClassId) (q_me_reader : Nat → Nat) (k_me_reader : Nat → ClassId) (o_me : Ob) (o_me_reader : Ob) (y : Int32) (h : f_X8_fault o_me o_me_reader = some y) : CI l yX8_fault cX8_fault 1 (some .int) ({ frames := 0, cells := 0, slots := 0, locals := 0 } : Room) dC dI sz [.ref h_me] [wX8 h_me h_me_reader h_me_machine h_me_isles h_me_court h_me_study h_me_paper h_me_paperCourt h_me_past h_me_pastAhead h_me_movingAhead q_me k_me o_me, wX6 h_me_reader h_me_reader_code q_me_reader k_me_reader o_me_reader] [tX8 k_me, tX6 k_me_reader] y [wX8 h_me h_me_reader h_me_machine h_me_isles h_me_court h_me_study h_me_paper h_me_paperCourt h_me_past h_me_pastAhead h_me_movingAhead q_me k_me o_me, wX6 h_me_reader h_me_reader_code q_me_reader k_me_reader o_me_reader] := by
  refine CC_of (by decide) (Nat.le_of_ble_eq_true rfl) ?_
  intro p e s m below meth c A ls hx hb hml hr hlk hnm hown hts hX hK hP hD hA hl
  have hl : lv_has ls 1 [(0, .ref h_me)] := hl
  have hown : s.vm.findClass RX8 = some m.cls := hown
  have hw : Wd dC dI A s.heap [wX8 h_me h_me_reader h_me_machine h_me_isles h_me_court h_me_study h_me_paper h_me_paperCourt h_me_past h_me_pastAhead h_me_movingAhead q_me k_me o_me, wX6 h_me_reader h_me_reader_code q_me_reader k_me_reader o_me_reader] s.heap [] := ⟨hP, hD, va_S.rf⟩
  generalize hQz : (MQ below (QI dC dI (fun r (_ : Unit) => r = y) (fun _ => Jn [wX8 h_me h_me_reader h_me_machine h_me_isles h_me_court h_me_study h_me_paper h_me_paperCourt h_me_past h_me_pastAhead h_me_movingAhead q_me k_me o_me, wX6 h_me_reader h_me_reader_code q_me_reader k_me_reader o_me_reader]) (fun _ => Jt [tX8 k_me, tX6 k_me_reader]) A) ([.ref h_me] : List Value).toArray s 0 0 A) = Qz
  clear hP hD hnm
  unfold f_X8_fault at h
  refine lv_aload_n hx hb dX8_fault_0 rfl (lv_at hl 0 rfl) ?_
  refine fgX8_0 hx hb hts hown hK hw 0 rfl kw442 dX8_fault_1 ?_
  refine fgX6_3 hx hb hts hown hK hw 1 rfl kw207 dX8_fault_4 ?_
  have hy := Option.some.inj h
  rw [← hQz, ← hy]
  exact xr_i (v := gI o_me_reader 3) hx hb hr rfl hlk hK hw dX8_fault_7

def f_X6_hasRoom (o_me : Ob) (p0 : Int32) : Option (Int32) :=
  if (400 : Int32) < ((gI o_me 2) + p0) then
  (some (0 : Int32))
  else
  (some (1 : Int32))
set_option maxHeartbeats 4000000 in
set_option maxRecDepth 100000 in
theorem m_X6_hasRoom (l : Launch) (dC : Nat → ClassId) (dI : Nat → Nat → Nat) (sz : Nat) (h_me : Nat) (h_me_code : Nat) (q_me : Nat → Nat) (k_me : Nat → ClassId) (o_me : Ob) (p0 : Int32) (y : Int32) (h : f_X6_hasRoom o_me p0 = some y) : CI l yX6_hasRoom cX6_hasRoom 2 (some .boolean) ({ frames := 0, cells := 0, slots := 0, locals := 0 } : Room) dC dI sz [.ref h_me, .int p0] [wX6 h_me h_me_code q_me k_me o_me] [tX6 k_me] y [wX6 h_me h_me_code q_me k_me o_me] := by
  refine CC_of (by decide) (Nat.le_of_ble_eq_true rfl) ?_
  intro p e s m below meth c A ls hx hb hml hr hlk hnm hown hts hX hK hP hD hA hl
  have hl : lv_has ls 2 [(0, .ref h_me), (1, .int p0)] := hl
  have hown : s.vm.findClass RX6 = some m.cls := hown
  have hw : Wd dC dI A s.heap [wX6 h_me h_me_code q_me k_me o_me] s.heap [] := ⟨hP, hD, va_S.rf⟩
  generalize hQz : (MQ below (QI dC dI (fun r (_ : Unit) => r = y) (fun _ => Jn [wX6 h_me h_me_code q_me k_me o_me]) (fun _ => Jt [tX6 k_me]) A) ([.ref h_me, .int p0] : List Value).toArray s 0 0 A) = Qz
  clear hP hD hnm
  unfold f_X6_hasRoom at h
  refine lv_aload_n hx hb dX6_hasRoom_0 rfl (lv_at hl 0 rfl) ?_
  refine fgX6_2 hx hb hts hown hK hw 0 rfl kw204 dX6_hasRoom_1 ?_
  refine lv_iload_n hx hb dX6_hasRoom_4 rfl (lv_at hl 1 rfl) ?_
  refine lv_iadd hx hb dX6_hasRoom_5 ?_
  refine lv_sipush (v := 400) hx hb dX6_hasRoom_6 (by decide) ?_
  refine lv_icmp_gt (tgt := 16) hx hb dX6_hasRoom_9 (by decide) (fun c => ?_) (fun c => ?_)
  · have h := z_t h c
    refine lv_iconst (v := 0) hx hb dX6_hasRoom_16 (by decide) ?_
    have hy := Option.some.inj h
    rw [← hQz, ← hy]
    exact xr_i (v := (0 : Int32)) hx hb hr rfl hlk hK hw dX6_hasRoom_17
  · have h := z_f h c
    refine lv_iconst (v := 1) hx hb dX6_hasRoom_12 (by decide) ?_
    refine lv_goto (tgt := 17) hx hb dX6_hasRoom_13 (by decide) ?_
    have hy := Option.some.inj h
    rw [← hQz, ← hy]
    exact xr_i (v := (1 : Int32)) hx hb hr rfl hlk hK hw dX6_hasRoom_17

def bk_X6_addNumber_43  (rec_3_0 : Int32 × Int32 × Ob → Option (Ob)) (v1 : Int32) (v2 : Int32) (o_me : Ob) : Option (Ob) :=
  zlt (v2 + (-8 : Int32)) fun x1 =>
  rec_3_0 (v1, x1, o_me)
def lb_X6_addNumber_3   (rec_3_0 : Int32 × Int32 × Ob → Option (Ob)) (v1 : Int32) (v2 : Int32) (o_me : Ob) : Option (Ob) :=
  if v2 < (0 : Int32) then
  (some o_me)
  else
  (if (400 : Int32) ≤ (gI o_me 2) then
  (bk_X6_addNumber_43  rec_3_0 v1 v2 o_me)
  else
  (zgd (zin (gI o_me 2) 400) <|
  zlt (tA o_me 0 (gI o_me 2).toNatClampNeg (((v1.toUInt32 >>> (v2.toUInt32 &&& Int32.toUInt32 31)).toInt32) &&& (255 : Int32))) fun o3 =>
  zlt (sI o3 2 ((gI o3 2) + (1 : Int32))) fun o4 =>
  bk_X6_addNumber_43  rec_3_0 v1 v2 o4))
def lp_X6_addNumber_3   : Nat → (Int32 × Int32 × Ob) → Option (Ob) := zit (fun rec a => lb_X6_addNumber_3   rec a.1 a.2.1 a.2.2)
def f_X6_addNumber (o_me : Ob) (p0 : Int32) : Option (Ob) :=
  lp_X6_addNumber_3   zfu (p0, (24 : Int32), o_me)
set_option maxHeartbeats 4000000 in
set_option maxRecDepth 100000 in
theorem m_X6_addNumber (l : Launch) (dC : Nat → ClassId) (dI : Nat → Nat → Nat) (sz : Nat) (h_me : Nat) (h_me_code : Nat) (q_me : Nat → Nat) (k_me : Nat → ClassId) (o_me : Ob) (p0 : Int32) (y : Ob) (h : f_X6_addNumber o_me p0 = some y) : CV l yX6_addNumber cX6_addNumber 3 none ({ frames := 0, cells := 0, slots := 0, locals := 0 } : Room) dC dI sz [.ref h_me, .int p0] [wX6 h_me h_me_code q_me k_me o_me] [tX6 k_me] [wX6 h_me h_me_code q_me k_me y] := by
  refine CC_of (by decide) (Nat.le_of_ble_eq_true rfl) ?_
  intro p e s m below meth c A ls hx hb hml hr hlk hnm hown hts hX hK hP hD hA hl
  have hl : lv_has ls 3 [(0, .ref h_me), (1, .int p0)] := hl
  have hown : s.vm.findClass RX6 = some m.cls := hown
  have hw : Wd dC dI A s.heap [wX6 h_me h_me_code q_me k_me o_me] s.heap [] := ⟨hP, hD, va_S.rf⟩
  generalize hQz : (MQ below (QV dC dI (fun (_ : Unit) => True) (fun _ => Jn [wX6 h_me h_me_code q_me k_me y]) (fun _ => Jt [tX6 k_me]) A) ([.ref h_me, .int p0] : List Value).toArray s 0 0 A) = Qz
  clear hP hD hnm
  have bk_43_1 : ∀ (rec_3_0 : Int32 × Int32 × Ob → Option (Ob)) (hrec_3_0 : ∀ (v1 : Int32) (v2 : Int32) (o_me : Ob) (H : Heap) (locs : List Loc) (ls : Array Slot), rec_3_0 (v1, v2, o_me) = some y → Wd dC dI A s.heap [wX6 h_me h_me_code q_me k_me o_me] H locs → lv_has ls 3 [(0, .ref h_me), (1, .int v1), (2, .int v2)] → W p l e ({ frames := 0, cells := 0, slots := 0, locals := 0 } : Room) s m ([.ref h_me, .int p0] : List Value).toArray below meth c H locs 0 0 Qz (F0 m 3 ls [])), ∀ (v1 : Int32) (v2 : Int32) (o_me : Ob) (H : Heap) (locs : List Loc) (ls : Array Slot), bk_X6_addNumber_43  rec_3_0 v1 v2 o_me = some y → Wd dC dI A s.heap [wX6 h_me h_me_code q_me k_me o_me] H locs → lv_has ls 3 [(0, .ref h_me), (1, .int v1), (2, .int v2)] → W p l e ({ frames := 0, cells := 0, slots := 0, locals := 0 } : Room) s m ([.ref h_me, .int p0] : List Value).toArray below meth c H locs 0 0 Qz (F0 m 43 ls []) := by
    intro rec_3_0 hrec_3_0
    intro v1 v2 o_me H locs ls h hw hl
    unfold bk_X6_addNumber_43 at h
    obtain ⟨x1, ex1, h⟩ := z_lt h
    refine lv_iinc (v := x1) (lv' := [(2, .int x1), (0, .ref h_me), (1, .int v1)]) hx hb dX6_addNumber_43 hl (k := 2) rfl ((congrArg (v2 + ·) (show Int32.ofInt (-8) = (-8 : Int32) from by decide)).trans ex1.symm) (by decide) rfl (fun ls hl => ?_)
    refine lv_goto (tgt := 3) hx hb dX6_addNumber_46 (by decide) ?_
    exact hrec_3_0 v1 x1 o_me _ _ _ h hw (lv_sub hl [1, 2, 0] rfl)
  have lp_3_0 : ∀ (N : Nat), ∀ (v1 : Int32) (v2 : Int32) (o_me : Ob) (H : Heap) (locs : List Loc) (ls : Array Slot), lp_X6_addNumber_3   N (v1, v2, o_me) = some y → Wd dC dI A s.heap [wX6 h_me h_me_code q_me k_me o_me] H locs → lv_has ls 3 [(0, .ref h_me), (1, .int v1), (2, .int v2)] → W p l e ({ frames := 0, cells := 0, slots := 0, locals := 0 } : Room) s m ([.ref h_me, .int p0] : List Value).toArray below meth c H locs 0 0 Qz (F0 m 3 ls []) := by
    intro N
    induction N with
    | zero =>
      intro v1 v2 o_me H locs ls h hw hl
      exact absurd (show (none : Option (Ob)) = some y from h) (by simp)
    | succ N ih =>
      intro v1 v2 o_me H locs ls h hw hl
      have h : lb_X6_addNumber_3   (lp_X6_addNumber_3   N) v1 v2 o_me = some y := h
      unfold lb_X6_addNumber_3 at h
      refine lv_iload_n hx hb dX6_addNumber_3 rfl (lv_at hl 2 rfl) ?_
      refine lv_if_lt (tgt := 49) hx hb dX6_addNumber_4 (by decide) (fun c => ?_) (fun c => ?_)
      · have h := z_t h c
        have hy := Option.some.inj h
        rw [← hQz, ← hy]
        exact xr_v hx hb hr hlk hK hw dX6_addNumber_49
      · have h := z_f h c
        refine lv_aload_n hx hb dX6_addNumber_7 rfl (lv_at hl 0 rfl) ?_
        refine fgX6_2 hx hb hts hown hK hw 0 rfl kw204 dX6_addNumber_8 ?_
        refine lv_sipush (v := 400) hx hb dX6_addNumber_11 (by decide) ?_
        refine lv_icmp_ge (tgt := 43) hx hb dX6_addNumber_14 (by decide) (fun c => ?_) (fun c => ?_)
        · have h := z_t h c
          exact bk_43_1 (lp_X6_addNumber_3   N) ih v1 v2 o_me _ _ _ h hw (lv_sub hl [0, 1, 2] rfl)
        · have h := z_f h c
          refine lv_aload_n hx hb dX6_addNumber_17 rfl (lv_at hl 0 rfl) ?_
          refine fgX6_0 hx hb hts hown hK hw 0 rfl kw201 dX6_addNumber_18 ?_
          refine lv_aload_n hx hb dX6_addNumber_21 rfl (lv_at hl 0 rfl) ?_
          refine fgX6_2 hx hb hts hown hK hw 0 rfl kw204 dX6_addNumber_22 ?_
          refine lv_iload_n hx hb dX6_addNumber_25 rfl (lv_at hl 1 rfl) ?_
          refine lv_iload_n hx hb dX6_addNumber_26 rfl (lv_at hl 2 rfl) ?_
          refine lv_iushr (v := _) hx hb dX6_addNumber_27 rfl ?_
          refine lv_sipush (v := 255) hx hb dX6_addNumber_28 (by decide) ?_
          refine lv_iand hx hb dX6_addNumber_31 ?_
          obtain ⟨g2, h⟩ := z_gd h
          refine fbX6_0 hx hb hK hw 0 rfl rfl g2 dX6_addNumber_32 (fun H locs hw => ?_)
          obtain ⟨o3, eo3, h⟩ := z_lt h
          have hw : Wd dC dI A s.heap [wX6 h_me h_me_code q_me k_me o3] H locs := by rw [eo3]; exact hw
          refine lv_aload_n hx hb dX6_addNumber_33 rfl (lv_at hl 0 rfl) ?_
          refine lv_dup hx hb dX6_addNumber_34 rfl ?_
          refine fgX6_2 hx hb hts hown hK hw 0 rfl kw204 dX6_addNumber_35 ?_
          refine lv_iconst (v := 1) hx hb dX6_addNumber_38 (by decide) ?_
          refine lv_iadd hx hb dX6_addNumber_39 ?_
          refine fpX6_2 hx hb hts hown hK hw 0 rfl kw204 dX6_addNumber_40 (fun H locs hw => ?_)
          obtain ⟨o4, eo4, h⟩ := z_lt h
          have hw : Wd dC dI A s.heap [wX6 h_me h_me_code q_me k_me o4] H locs := by rw [eo4]; exact hw
          exact bk_43_1 (lp_X6_addNumber_3   N) ih v1 v2 o4 _ _ _ h hw (lv_sub hl [0, 1, 2] rfl)
  unfold f_X6_addNumber at h
  refine lv_bipush (v := 24) hx hb dX6_addNumber_0 (by decide) ?_
  refine lv_istore_n (lv' := [(2, .int (24 : Int32)), (0, .ref h_me), (1, .int p0)]) hx hb dX6_addNumber_2 rfl hl (by decide) rfl (fun ls hl => ?_)
  exact lp_3_0  zfu p0 (24 : Int32) o_me _ _ _ h hw (lv_sub hl [1, 2, 0] rfl)

def f_X8_feed (o_me : Ob) (o_me_reader : Ob) (p0 : Int32) (p1 : Int32) (p2 : Int32) (p3 : Int32) (p4 : Int32) : Option (Int32 × Ob) :=
  (f_X6_hasRoom o_me_reader (20 : Int32)).bind fun z1 =>
  if z1 = (0 : Int32) then
  (some ((-1 : Int32), o_me_reader))
  else
  ((f_X6_addNumber o_me_reader p0).bind fun z2 =>
  (f_X6_addNumber z2 p1).bind fun z3 =>
  (f_X6_addNumber z3 p2).bind fun z4 =>
  (f_X6_addNumber z4 p3).bind fun z5 =>
  (f_X6_addNumber z5 p4).bind fun z6 =>
  some (gI z6 2, z6))
set_option maxHeartbeats 4000000 in
set_option maxRecDepth 100000 in
theorem m_X8_feed (l : Launch) (dC : Nat → ClassId) (dI : Nat → Nat → Nat) (sz : Nat) (h_me : Nat) (h_me_reader : Nat) (h_me_machine : Nat) (h_me_isles : Nat) (h_me_court : Nat) (h_me_study : Nat) (h_me_paper : Nat) (h_me_paperCourt : Nat) (h_me_past : Nat) (h_me_pastAhead : Nat) (h_me_movingAhead : Nat) (h_me_reader_code : Nat) (q_me : Nat → Nat) (k_me : Nat → ClassId) (q_me_reader : Nat → Nat) (k_me_reader : Nat → ClassId) (o_me : Ob) (o_me_reader : Ob) (p0 : Int32) (p1 : Int32) (p2 : Int32) (p3 : Int32) (p4 : Int32) (y : Int32 × Ob) (h : f_X8_feed o_me o_me_reader p0 p1 p2 p3 p4 = some y) : CI l yX8_feed cX8_feed 6 (some .int) ({ frames := 1, cells := 0, slots := 0, locals := 22 } : Room) dC dI sz [.ref h_me, .int p0, .int p1, .int p2, .int p3, .int p4] [wX8 h_me h_me_reader h_me_machine h_me_isles h_me_court h_me_study h_me_paper h_me_paperCourt h_me_past h_me_pastAhead h_me_movingAhead q_me k_me o_me, wX6 h_me_reader h_me_reader_code q_me_reader k_me_reader o_me_reader] [tX8 k_me, tX6 k_me_reader] y.1 [wX8 h_me h_me_reader h_me_machine h_me_isles h_me_court h_me_study h_me_paper h_me_paperCourt h_me_past h_me_pastAhead h_me_movingAhead q_me k_me o_me, wX6 h_me_reader h_me_reader_code q_me_reader k_me_reader y.2] := by
  refine CC_of (by decide) (Nat.le_of_ble_eq_true rfl) ?_
  intro p e s m below meth c A ls hx hb hml hr hlk hnm hown hts hX hK hP hD hA hl
  have hl : lv_has ls 6 [(0, .ref h_me), (1, .int p0), (2, .int p1), (3, .int p2), (4, .int p3), (5, .int p4)] := hl
  have hown : s.vm.findClass RX8 = some m.cls := hown
  have hw : Wd dC dI A s.heap [wX8 h_me h_me_reader h_me_machine h_me_isles h_me_court h_me_study h_me_paper h_me_paperCourt h_me_past h_me_pastAhead h_me_movingAhead q_me k_me o_me, wX6 h_me_reader h_me_reader_code q_me_reader k_me_reader o_me_reader] s.heap [] := ⟨hP, hD, va_S.rf⟩
  generalize hQz : (MQ below (QI dC dI (fun r (_ : Unit) => r = y.1) (fun _ => Jn [wX8 h_me h_me_reader h_me_machine h_me_isles h_me_court h_me_study h_me_paper h_me_paperCourt h_me_past h_me_pastAhead h_me_movingAhead q_me k_me o_me, wX6 h_me_reader h_me_reader_code q_me_reader k_me_reader y.2]) (fun _ => Jt [tX8 k_me, tX6 k_me_reader]) A) ([.ref h_me, .int p0, .int p1, .int p2, .int p3, .int p4] : List Value).toArray s 0 0 A) = Qz
  clear hP hD hnm
  unfold f_X8_feed at h
  refine lv_aload_n hx hb dX8_feed_0 rfl (lv_at hl 0 rfl) ?_
  refine fgX8_0 hx hb hts hown hK hw 0 rfl kw442 dX8_feed_1 ?_
  refine lv_bipush (v := 20) hx hb dX8_feed_4 (by decide) ?_
  obtain ⟨z1, ez1, h⟩ := z_bd h
  refine xj_i (xrV (As := [.int (20 : Int32)]) (rest := []) ⟨hx, hb, hml, hown, hts⟩ (m_X6_hasRoom l dC dI _ h_me_reader h_me_reader_code q_me_reader k_me_reader o_me_reader (20 : Int32) z1 ez1) kw635 kw632 kw633 kw634 kw111 hd_X6_hasRoom ⟨rfl, rfl⟩ rfl rfl ⟨rfl, rfl⟩ hX hK hw [1] (by decide) rfl rfl rfl rfl rfl hl.1 rfl rfl dX8_feed_6) hw hA [1] (by decide) rfl rfl (fun H locs hw => ?_)
  have hw : Wd dC dI A s.heap [wX8 h_me h_me_reader h_me_machine h_me_isles h_me_court h_me_study h_me_paper h_me_paperCourt h_me_past h_me_pastAhead h_me_movingAhead q_me k_me o_me, wX6 h_me_reader h_me_reader_code q_me_reader k_me_reader o_me_reader] H locs := hw
  refine lv_if_ne (tgt := 14) hx hb dX8_feed_9 (by decide) (fun c => ?_) (fun c => ?_)
  · have h := z_f h c
    refine lv_aload_n hx hb dX8_feed_14 rfl (lv_at hl 0 rfl) ?_
    refine fgX8_0 hx hb hts hown hK hw 0 rfl kw442 dX8_feed_15 ?_
    refine lv_iload_n hx hb dX8_feed_18 rfl (lv_at hl 1 rfl) ?_
    obtain ⟨z2, ez2, h⟩ := z_bd h
    refine xj_v (xrV (As := [.int p0]) (rest := []) ⟨hx, hb, hml, hown, hts⟩ (m_X6_addNumber l dC dI _ h_me_reader h_me_reader_code q_me_reader k_me_reader o_me_reader p0 z2 ez2) kw639 kw636 kw637 kw638 kw111 hd_X6_addNumber ⟨rfl, rfl⟩ rfl rfl ⟨rfl, rfl⟩ hX hK hw [1] (by decide) rfl rfl rfl rfl rfl hl.1 rfl rfl dX8_feed_19) hw hA [1] (by decide) rfl rfl (fun H locs hw => ?_)
    have hw : Wd dC dI A s.heap [wX8 h_me h_me_reader h_me_machine h_me_isles h_me_court h_me_study h_me_paper h_me_paperCourt h_me_past h_me_pastAhead h_me_movingAhead q_me k_me o_me, wX6 h_me_reader h_me_reader_code q_me_reader k_me_reader z2] H locs := hw
    refine lv_aload_n hx hb dX8_feed_22 rfl (lv_at hl 0 rfl) ?_
    refine fgX8_0 hx hb hts hown hK hw 0 rfl kw442 dX8_feed_23 ?_
    refine lv_iload_n hx hb dX8_feed_26 rfl (lv_at hl 2 rfl) ?_
    obtain ⟨z3, ez3, h⟩ := z_bd h
    refine xj_v (xrV (As := [.int p1]) (rest := []) ⟨hx, hb, hml, hown, hts⟩ (m_X6_addNumber l dC dI _ h_me_reader h_me_reader_code q_me_reader k_me_reader z2 p1 z3 ez3) kw639 kw636 kw637 kw638 kw111 hd_X6_addNumber ⟨rfl, rfl⟩ rfl rfl ⟨rfl, rfl⟩ hX hK hw [1] (by decide) rfl rfl rfl rfl rfl hl.1 rfl rfl dX8_feed_27) hw hA [1] (by decide) rfl rfl (fun H locs hw => ?_)
    have hw : Wd dC dI A s.heap [wX8 h_me h_me_reader h_me_machine h_me_isles h_me_court h_me_study h_me_paper h_me_paperCourt h_me_past h_me_pastAhead h_me_movingAhead q_me k_me o_me, wX6 h_me_reader h_me_reader_code q_me_reader k_me_reader z3] H locs := hw
    refine lv_aload_n hx hb dX8_feed_30 rfl (lv_at hl 0 rfl) ?_
    refine fgX8_0 hx hb hts hown hK hw 0 rfl kw442 dX8_feed_31 ?_
    refine lv_iload_n hx hb dX8_feed_34 rfl (lv_at hl 3 rfl) ?_
    obtain ⟨z4, ez4, h⟩ := z_bd h
    refine xj_v (xrV (As := [.int p2]) (rest := []) ⟨hx, hb, hml, hown, hts⟩ (m_X6_addNumber l dC dI _ h_me_reader h_me_reader_code q_me_reader k_me_reader z3 p2 z4 ez4) kw639 kw636 kw637 kw638 kw111 hd_X6_addNumber ⟨rfl, rfl⟩ rfl rfl ⟨rfl, rfl⟩ hX hK hw [1] (by decide) rfl rfl rfl rfl rfl hl.1 rfl rfl dX8_feed_35) hw hA [1] (by decide) rfl rfl (fun H locs hw => ?_)
    have hw : Wd dC dI A s.heap [wX8 h_me h_me_reader h_me_machine h_me_isles h_me_court h_me_study h_me_paper h_me_paperCourt h_me_past h_me_pastAhead h_me_movingAhead q_me k_me o_me, wX6 h_me_reader h_me_reader_code q_me_reader k_me_reader z4] H locs := hw
    refine lv_aload_n hx hb dX8_feed_38 rfl (lv_at hl 0 rfl) ?_
    refine fgX8_0 hx hb hts hown hK hw 0 rfl kw442 dX8_feed_39 ?_
    refine lv_iload hx hb dX8_feed_42 (lv_at hl 4 rfl) ?_
    obtain ⟨z5, ez5, h⟩ := z_bd h
    refine xj_v (xrV (As := [.int p3]) (rest := []) ⟨hx, hb, hml, hown, hts⟩ (m_X6_addNumber l dC dI _ h_me_reader h_me_reader_code q_me_reader k_me_reader z4 p3 z5 ez5) kw639 kw636 kw637 kw638 kw111 hd_X6_addNumber ⟨rfl, rfl⟩ rfl rfl ⟨rfl, rfl⟩ hX hK hw [1] (by decide) rfl rfl rfl rfl rfl hl.1 rfl rfl dX8_feed_44) hw hA [1] (by decide) rfl rfl (fun H locs hw => ?_)
    have hw : Wd dC dI A s.heap [wX8 h_me h_me_reader h_me_machine h_me_isles h_me_court h_me_study h_me_paper h_me_paperCourt h_me_past h_me_pastAhead h_me_movingAhead q_me k_me o_me, wX6 h_me_reader h_me_reader_code q_me_reader k_me_reader z5] H locs := hw
    refine lv_aload_n hx hb dX8_feed_47 rfl (lv_at hl 0 rfl) ?_
    refine fgX8_0 hx hb hts hown hK hw 0 rfl kw442 dX8_feed_48 ?_
    refine lv_iload hx hb dX8_feed_51 (lv_at hl 5 rfl) ?_
    obtain ⟨z6, ez6, h⟩ := z_bd h
    refine xj_v (xrV (As := [.int p4]) (rest := []) ⟨hx, hb, hml, hown, hts⟩ (m_X6_addNumber l dC dI _ h_me_reader h_me_reader_code q_me_reader k_me_reader z5 p4 z6 ez6) kw639 kw636 kw637 kw638 kw111 hd_X6_addNumber ⟨rfl, rfl⟩ rfl rfl ⟨rfl, rfl⟩ hX hK hw [1] (by decide) rfl rfl rfl rfl rfl hl.1 rfl rfl dX8_feed_53) hw hA [1] (by decide) rfl rfl (fun H locs hw => ?_)
    have hw : Wd dC dI A s.heap [wX8 h_me h_me_reader h_me_machine h_me_isles h_me_court h_me_study h_me_paper h_me_paperCourt h_me_past h_me_pastAhead h_me_movingAhead q_me k_me o_me, wX6 h_me_reader h_me_reader_code q_me_reader k_me_reader z6] H locs := hw
    refine lv_aload_n hx hb dX8_feed_56 rfl (lv_at hl 0 rfl) ?_
    refine fgX8_0 hx hb hts hown hK hw 0 rfl kw442 dX8_feed_57 ?_
    refine fgX6_2 hx hb hts hown hK hw 1 rfl kw205 dX8_feed_60 ?_
    have hy := Option.some.inj h
    rw [← hQz, ← hy]
    exact xr_i (v := gI z6 2) hx hb hr rfl hlk hK hw dX8_feed_63
  · have h := z_t h c
    refine lv_iconst (v := (-1)) hx hb dX8_feed_12 (by decide) ?_
    have hy := Option.some.inj h
    rw [← hQz, ← hy]
    exact xr_i (v := (-1 : Int32)) hx hb hr rfl hlk hK hw dX8_feed_13

def lb_J7_fill_d0a16_AX7_8_6   (rec_6_0 : Int64 × Int32 × Int32 × Ob → Option (Ob)) (v1 : Int64) (v3 : Int32) (v4 : Int32) (o_a0 : Ob) : Option (Ob) :=
  if v4 ≤ v3 then
  (some o_a0)
  else
  (zgd (zin v3 20) <|
  zlt (tM o_a0 8 v3.toNatClampNeg v1) fun o2 =>
  zlt (v3 + (1 : Int32)) fun x3 =>
  rec_6_0 (v1, x3, v4, o2))
def lp_J7_fill_d0a16_AX7_8_6   : Nat → (Int64 × Int32 × Int32 × Ob) → Option (Ob) := zit (fun rec a => lb_J7_fill_d0a16_AX7_8_6   rec a.1 a.2.1 a.2.2.1 a.2.2.2)
def f_J7_fill_d0a16_AX7_8 (o_a0 : Ob) (p1 : Int64) : Option (Ob) :=
  lp_J7_fill_d0a16_AX7_8_6   zfu (p1, (0 : Int32), (20 : Int32), o_a0)
set_option maxHeartbeats 4000000 in
set_option maxRecDepth 100000 in
theorem m_J7_fill_d0a16_AX7_8 (l : Launch) (dC : Nat → ClassId) (dI : Nat → Nat → Nat) (sz : Nat) (h_a0 : Nat) (h_a0_court : Nat) (h_a0_court_isles : Nat) (q_a0 : Nat → Nat) (k_a0 : Nat → ClassId) (o_a0 : Ob) (p1 : Int64) (y : Ob) (h : f_J7_fill_d0a16_AX7_8 o_a0 p1 = some y) : CV l yJ7_fill_d0a16 cJ7_fill_d0a16 5 none ({ frames := 0, cells := 0, slots := 0, locals := 0 } : Room) dC dI sz [.ref (q_a0 8), .long p1] [wX7 h_a0 h_a0_court h_a0_court_isles q_a0 k_a0 o_a0] [tX7 k_a0] [wX7 h_a0 h_a0_court h_a0_court_isles q_a0 k_a0 y] := by
  refine CC_of (by decide) (Nat.le_of_ble_eq_true rfl) ?_
  intro p e s m below meth c A ls hx hb hml hr hlk hnm hown hts hX hK hP hD hA hl
  have hl : lv_has ls 5 [(0, .ref (q_a0 8)), (1, .long p1)] := hl
  have hown : s.vm.findClass RJ7 = some m.cls := hown
  have hw : Wd dC dI A s.heap [wX7 h_a0 h_a0_court h_a0_court_isles q_a0 k_a0 o_a0] s.heap [] := ⟨hP, hD, va_S.rf⟩
  generalize hQz : (MQ below (QV dC dI (fun (_ : Unit) => True) (fun _ => Jn [wX7 h_a0 h_a0_court h_a0_court_isles q_a0 k_a0 y]) (fun _ => Jt [tX7 k_a0]) A) ([.ref (q_a0 8), .long p1] : List Value).toArray s 0 0 A) = Qz
  clear hP hD hnm
  have lp_6_0 : ∀ (N : Nat), ∀ (v1 : Int64) (v3 : Int32) (v4 : Int32) (o_a0 : Ob) (H : Heap) (locs : List Loc) (ls : Array Slot), lp_J7_fill_d0a16_AX7_8_6   N (v1, v3, v4, o_a0) = some y → Wd dC dI A s.heap [wX7 h_a0 h_a0_court h_a0_court_isles q_a0 k_a0 o_a0] H locs → lv_has ls 5 [(0, .ref (q_a0 8)), (1, .long v1), (3, .int v3), (4, .int v4)] → W p l e ({ frames := 0, cells := 0, slots := 0, locals := 0 } : Room) s m ([.ref (q_a0 8), .long p1] : List Value).toArray below meth c H locs 0 0 Qz (F0 m 6 ls []) := by
    intro N
    induction N with
    | zero =>
      intro v1 v3 v4 o_a0 H locs ls h hw hl
      exact absurd (show (none : Option (Ob)) = some y from h) (by simp)
    | succ N ih =>
      intro v1 v3 v4 o_a0 H locs ls h hw hl
      have h : lb_J7_fill_d0a16_AX7_8_6   (lp_J7_fill_d0a16_AX7_8_6   N) v1 v3 v4 o_a0 = some y := h
      unfold lb_J7_fill_d0a16_AX7_8_6 at h
      refine lv_iload_n hx hb dJ7_fill_d0a16_6 rfl (lv_at hl 2 rfl) ?_
      refine lv_iload hx hb dJ7_fill_d0a16_7 (lv_at hl 3 rfl) ?_
      refine lv_icmp_ge (tgt := 22) hx hb dJ7_fill_d0a16_9 (by decide) (fun c => ?_) (fun c => ?_)
      · have h := z_t h c
        have hy := Option.some.inj h
        rw [← hQz, ← hy]
        exact xr_v hx hb hr hlk hK hw dJ7_fill_d0a16_22
      · have h := z_f h c
        refine lv_aload_n hx hb dJ7_fill_d0a16_12 rfl (lv_at hl 0 rfl) ?_
        refine lv_iload_n hx hb dJ7_fill_d0a16_13 rfl (lv_at hl 2 rfl) ?_
        refine lv_lload_n hx hb dJ7_fill_d0a16_14 rfl (lv_at hl 1 rfl) ?_
        obtain ⟨g1, h⟩ := z_gd h
        refine fbX7_8 hx hb hK hw 0 rfl rfl g1 dJ7_fill_d0a16_15 (fun H locs hw => ?_)
        obtain ⟨o2, eo2, h⟩ := z_lt h
        have hw : Wd dC dI A s.heap [wX7 h_a0 h_a0_court h_a0_court_isles q_a0 k_a0 o2] H locs := by rw [eo2]; exact hw
        obtain ⟨x3, ex3, h⟩ := z_lt h
        refine lv_iinc (v := x3) (lv' := [(3, .int x3), (0, .ref (q_a0 8)), (1, .long v1), (4, .int v4)]) hx hb dJ7_fill_d0a16_16 hl (k := 2) rfl ((congrArg (v3 + ·) (show Int32.ofInt 1 = (1 : Int32) from by decide)).trans ex3.symm) (by decide) rfl (fun ls hl => ?_)
        refine lv_goto (tgt := 6) hx hb dJ7_fill_d0a16_19 (by decide) ?_
        exact ih v1 x3 v4 o2 _ _ _ h hw (lv_sub hl [1, 2, 0, 3] rfl)
  unfold f_J7_fill_d0a16_AX7_8 at h
  refine lv_iconst (v := 0) hx hb dJ7_fill_d0a16_0 (by decide) ?_
  refine lv_istore_n (lv' := [(3, .int (0 : Int32)), (0, .ref (q_a0 8)), (1, .long p1)]) hx hb dJ7_fill_d0a16_1 rfl hl (by decide) rfl (fun ls hl => ?_)
  refine lv_aload_n hx hb dJ7_fill_d0a16_2 rfl (lv_at hl 1 rfl) ?_
  refine fnX7_8 hx hb hK hw 0 rfl rfl dJ7_fill_d0a16_3 ?_
  refine lv_fi (v := 20) (by decide) ?_
  refine lv_istore (lv' := [(4, .int (20 : Int32)), (3, .int (0 : Int32)), (0, .ref (q_a0 8)), (1, .long p1)]) hx hb dJ7_fill_d0a16_4 hl (by decide) rfl (fun ls hl => ?_)
  exact lp_6_0  zfu p1 (0 : Int32) (20 : Int32) o_a0 _ _ _ h hw (lv_sub hl [2, 3, 1, 0] rfl)

def lb_X7_chanceOfFewer_127 (o_me_court_isles : Ob)  (rec_127_1 : Int32 × Int64 × Int32 × Ob → Option (Int64 × Ob)) (v3 : Int32) (v4 : Int64) (v6 : Int32) (o_me : Ob) : Option (Int64 × Ob) :=
  if v3 ≤ v6 then
  (some (v4, o_me))
  else
  (zgd (zin v6 20) <|
  zlt (v4 + (gM o_me 8 v6.toNatClampNeg)) fun x5 =>
  zlt (v6 + (1 : Int32)) fun x6 =>
  rec_127_1 (v3, x5, x6, o_me))
def lp_X7_chanceOfFewer_127 (o_me_court_isles : Ob)  : Nat → (Int32 × Int64 × Int32 × Ob) → Option (Int64 × Ob) := zit (fun rec a => lb_X7_chanceOfFewer_127 o_me_court_isles  rec a.1 a.2.1 a.2.2.1 a.2.2.2)
def bk_X7_chanceOfFewer_74 (o_me_court_isles : Ob) (rec_27_0 : Int32 × Int32 × Int32 × Ob → Option (Int64 × Ob)) (rec_38_2 : Int32 × Int32 × Int32 × Int32 × Ob → Option (Int64 × Ob)) (v2 : Int32) (v3 : Int32) (v4 : Int32) (v5 : Int32) (s0 : Int64) (o_me : Ob) : Option (Int64 × Ob) :=
  zgd (zin v5 20) <|
  zgd (zin v5 20) <|
  zlt (tM o_me 8 v5.toNatClampNeg ((((gM o_me 8 v5.toNatClampNeg) * (((10 : Int32) - (gI o_me_court_isles 11)).toInt64)) / (10 : Int64)) + s0)) fun o11 =>
  zlt (v5 + (-1 : Int32)) fun x12 =>
  rec_38_2 (v2, v3, v4, x12, o11)
def lb_X7_chanceOfFewer_38 (o_me_court_isles : Ob) (rec_27_0 : Int32 × Int32 × Int32 × Ob → Option (Int64 × Ob)) (rec_38_2 : Int32 × Int32 × Int32 × Int32 × Ob → Option (Int64 × Ob)) (v2 : Int32) (v3 : Int32) (v4 : Int32) (v5 : Int32) (o_me : Ob) : Option (Int64 × Ob) :=
  if v5 < (0 : Int32) then
  (zlt (v4 + (1 : Int32)) fun x8 =>
  rec_27_0 (v2, v3, x8, o_me))
  else
  (if v5 ≤ (0 : Int32) then
  (bk_X7_chanceOfFewer_74 o_me_court_isles rec_27_0 rec_38_2 v2 v3 v4 v5 (0 : Int64) o_me)
  else
  (zgd (zin (v5 - (1 : Int32)) 20) <|
  bk_X7_chanceOfFewer_74 o_me_court_isles rec_27_0 rec_38_2 v2 v3 v4 v5 (((gM o_me 8 (v5 - (1 : Int32)).toNatClampNeg) * ((gI o_me_court_isles 11).toInt64)) / (10 : Int64)) o_me))
def lp_X7_chanceOfFewer_38 (o_me_court_isles : Ob) (rec_27_0 : Int32 × Int32 × Int32 × Ob → Option (Int64 × Ob)) : Nat → (Int32 × Int32 × Int32 × Int32 × Ob) → Option (Int64 × Ob) := zit (fun rec a => lb_X7_chanceOfFewer_38 o_me_court_isles rec_27_0 rec a.1 a.2.1 a.2.2.1 a.2.2.2.1 a.2.2.2.2)
def lb_X7_chanceOfFewer_27 (o_me_court_isles : Ob)  (rec_27_0 : Int32 × Int32 × Int32 × Ob → Option (Int64 × Ob)) (v2 : Int32) (v3 : Int32) (v4 : Int32) (o_me : Ob) : Option (Int64 × Ob) :=
  if v2 ≤ v4 then
  (lp_X7_chanceOfFewer_127 o_me_court_isles  zfu (v3, (0 : Int64), (0 : Int32), o_me))
  else
  (zlt (v3 - (1 : Int32)) fun x7 =>
  lp_X7_chanceOfFewer_38 o_me_court_isles rec_27_0 zfu (v2, v3, v4, x7, o_me))
def lp_X7_chanceOfFewer_27 (o_me_court_isles : Ob)  : Nat → (Int32 × Int32 × Int32 × Ob) → Option (Int64 × Ob) := zit (fun rec a => lb_X7_chanceOfFewer_27 o_me_court_isles  rec a.1 a.2.1 a.2.2.1 a.2.2.2)
def f_X7_chanceOfFewer (o_me : Ob) (o_me_court_isles : Ob) (p0 : Int32) (p1 : Int32) : Option (Int64 × Ob) :=
  (f_J7_fill_d0a16_AX7_8 o_me (0 : Int64)).bind fun z1 =>
  zlt (tM z1 8 (0 : Int32).toNatClampNeg (1000000000000 : Int64)) fun o2 =>
  zlt (if (20 : Int32) < p0 then (20 : Int32) else p0) fun x3 =>
  lp_X7_chanceOfFewer_27 o_me_court_isles  zfu (p1, x3, (0 : Int32), o2)
set_option maxHeartbeats 4000000 in
set_option maxRecDepth 100000 in
theorem m_X7_chanceOfFewer (l : Launch) (dC : Nat → ClassId) (dI : Nat → Nat → Nat) (sz : Nat) (h_me : Nat) (h_me_court : Nat) (h_me_court_isles : Nat) (h_me_court_isles_now : Nat) (q_me : Nat → Nat) (k_me : Nat → ClassId) (q_me_court_isles : Nat → Nat) (k_me_court_isles : Nat → ClassId) (o_me : Ob) (o_me_court_isles : Ob) (p0 : Int32) (p1 : Int32) (y : Int64 × Ob) (h : f_X7_chanceOfFewer o_me o_me_court_isles p0 p1 = some y) : CL l yX7_chanceOfFewer cX7_chanceOfFewer 8 (some .long) ({ frames := 1, cells := 0, slots := 0, locals := 24 } : Room) dC dI sz [.ref h_me, .int p0, .int p1] [wX7 h_me h_me_court h_me_court_isles q_me k_me o_me, wX2 h_me_court_isles h_me_court_isles_now q_me_court_isles k_me_court_isles o_me_court_isles] [tX7 k_me, tX2 k_me_court_isles] y.1 [wX7 h_me h_me_court h_me_court_isles q_me k_me y.2, wX2 h_me_court_isles h_me_court_isles_now q_me_court_isles k_me_court_isles o_me_court_isles] := by
  refine CC_of (by decide) (Nat.le_of_ble_eq_true rfl) ?_
  intro p e s m below meth c A ls hx hb hml hr hlk hnm hown hts hX hK hP hD hA hl
  have hl : lv_has ls 8 [(0, .ref h_me), (1, .int p0), (2, .int p1)] := hl
  have hown : s.vm.findClass RX7 = some m.cls := hown
  have hw : Wd dC dI A s.heap [wX7 h_me h_me_court h_me_court_isles q_me k_me o_me, wX2 h_me_court_isles h_me_court_isles_now q_me_court_isles k_me_court_isles o_me_court_isles] s.heap [] := ⟨hP, hD, va_S.rf⟩
  generalize hQz : (MQ below (QL dC dI (fun r (_ : Unit) => r = y.1) (fun _ => Jn [wX7 h_me h_me_court h_me_court_isles q_me k_me y.2, wX2 h_me_court_isles h_me_court_isles_now q_me_court_isles k_me_court_isles o_me_court_isles]) (fun _ => Jt [tX7 k_me, tX2 k_me_court_isles]) A) ([.ref h_me, .int p0, .int p1] : List Value).toArray s 0 0 A) = Qz
  clear hP hD hnm
  have lp_127_1 : ∀ (N : Nat), ∀ (v3 : Int32) (v4 : Int64) (v6 : Int32) (o_me : Ob) (H : Heap) (locs : List Loc) (ls : Array Slot), lp_X7_chanceOfFewer_127 o_me_court_isles  N (v3, v4, v6, o_me) = some y → Wd dC dI A s.heap [wX7 h_me h_me_court h_me_court_isles q_me k_me o_me, wX2 h_me_court_isles h_me_court_isles_now q_me_court_isles k_me_court_isles o_me_court_isles] H locs → lv_has ls 8 [(0, .ref h_me), (3, .int v3), (4, .long v4), (6, .int v6)] → W p l e ({ frames := 1, cells := 0, slots := 0, locals := 24 } : Room) s m ([.ref h_me, .int p0, .int p1] : List Value).toArray below meth c H locs 0 0 Qz (F0 m 127 ls []) := by
    intro N
    induction N with
    | zero =>
      intro v3 v4 v6 o_me H locs ls h hw hl
      exact absurd (show (none : Option (Int64 × Ob)) = some y from h) (by simp)
    | succ N ih =>
      intro v3 v4 v6 o_me H locs ls h hw hl
      have h : lb_X7_chanceOfFewer_127 o_me_court_isles  (lp_X7_chanceOfFewer_127 o_me_court_isles  N) v3 v4 v6 o_me = some y := h
      unfold lb_X7_chanceOfFewer_127 at h
      refine lv_iload hx hb dX7_chanceOfFewer_127 (lv_at hl 3 rfl) ?_
      refine lv_iload_n hx hb dX7_chanceOfFewer_129 rfl (lv_at hl 1 rfl) ?_
      refine lv_icmp_ge (tgt := 151) hx hb dX7_chanceOfFewer_130 (by decide) (fun c => ?_) (fun c => ?_)
      · have h := z_t h c
        refine lv_lload hx hb dX7_chanceOfFewer_151 (lv_at hl 2 rfl) ?_
        have hy := Option.some.inj h
        rw [← hQz, ← hy]
        exact xr_l (v := v4) hx hb hr hlk hK hw dX7_chanceOfFewer_153
      · have h := z_f h c
        refine lv_lload hx hb dX7_chanceOfFewer_133 (lv_at hl 2 rfl) ?_
        refine lv_aload_n hx hb dX7_chanceOfFewer_135 rfl (lv_at hl 0 rfl) ?_
        refine fgX7_8 hx hb hts hown hK hw 0 rfl kw395 dX7_chanceOfFewer_136 ?_
        refine lv_iload hx hb dX7_chanceOfFewer_139 (lv_at hl 3 rfl) ?_
        obtain ⟨g4, h⟩ := z_gd h
        refine faX7_8 hx hb hK hw 0 rfl rfl g4 dX7_chanceOfFewer_141 ?_
        refine lv_ladd hx hb dX7_chanceOfFewer_142 ?_
        obtain ⟨x5, ex5, h⟩ := z_lt h
        refine lv_fl (v := x5) ex5.symm ?_
        refine lv_lstore (lv' := [(4, .long x5), (0, .ref h_me), (3, .int v3), (6, .int v6)]) hx hb dX7_chanceOfFewer_143 hl (by decide) rfl (fun ls hl => ?_)
        obtain ⟨x6, ex6, h⟩ := z_lt h
        refine lv_iinc (v := x6) (lv' := [(6, .int x6), (4, .long x5), (0, .ref h_me), (3, .int v3)]) hx hb dX7_chanceOfFewer_145 hl (k := 3) rfl ((congrArg (v6 + ·) (show Int32.ofInt 1 = (1 : Int32) from by decide)).trans ex6.symm) (by decide) rfl (fun ls hl => ?_)
        refine lv_goto (tgt := 127) hx hb dX7_chanceOfFewer_148 (by decide) ?_
        exact ih v3 x5 x6 o_me _ _ _ h hw (lv_sub hl [2, 3, 1, 0] rfl)
  have bk_74_3 : ∀ (rec_27_0 : Int32 × Int32 × Int32 × Ob → Option (Int64 × Ob)) (hrec_27_0 : ∀ (v2 : Int32) (v3 : Int32) (v4 : Int32) (o_me : Ob) (H : Heap) (locs : List Loc) (ls : Array Slot), rec_27_0 (v2, v3, v4, o_me) = some y → Wd dC dI A s.heap [wX7 h_me h_me_court h_me_court_isles q_me k_me o_me, wX2 h_me_court_isles h_me_court_isles_now q_me_court_isles k_me_court_isles o_me_court_isles] H locs → lv_has ls 8 [(0, .ref h_me), (2, .int v2), (3, .int v3), (4, .int v4)] → W p l e ({ frames := 1, cells := 0, slots := 0, locals := 24 } : Room) s m ([.ref h_me, .int p0, .int p1] : List Value).toArray below meth c H locs 0 0 Qz (F0 m 27 ls [])) (rec_38_2 : Int32 × Int32 × Int32 × Int32 × Ob → Option (Int64 × Ob)) (hrec_38_2 : ∀ (v2 : Int32) (v3 : Int32) (v4 : Int32) (v5 : Int32) (o_me : Ob) (H : Heap) (locs : List Loc) (ls : Array Slot), rec_38_2 (v2, v3, v4, v5, o_me) = some y → Wd dC dI A s.heap [wX7 h_me h_me_court h_me_court_isles q_me k_me o_me, wX2 h_me_court_isles h_me_court_isles_now q_me_court_isles k_me_court_isles o_me_court_isles] H locs → lv_has ls 8 [(0, .ref h_me), (2, .int v2), (3, .int v3), (4, .int v4), (5, .int v5)] → W p l e ({ frames := 1, cells := 0, slots := 0, locals := 24 } : Room) s m ([.ref h_me, .int p0, .int p1] : List Value).toArray below meth c H locs 0 0 Qz (F0 m 38 ls [])), ∀ (v2 : Int32) (v3 : Int32) (v4 : Int32) (v5 : Int32) (s0 : Int64) (o_me : Ob) (H : Heap) (locs : List Loc) (ls : Array Slot), bk_X7_chanceOfFewer_74 o_me_court_isles rec_27_0 rec_38_2 v2 v3 v4 v5 s0 o_me = some y → Wd dC dI A s.heap [wX7 h_me h_me_court h_me_court_isles q_me k_me o_me, wX2 h_me_court_isles h_me_court_isles_now q_me_court_isles k_me_court_isles o_me_court_isles] H locs → lv_has ls 8 [(0, .ref h_me), (2, .int v2), (3, .int v3), (4, .int v4), (5, .int v5)] → W p l e ({ frames := 1, cells := 0, slots := 0, locals := 24 } : Room) s m ([.ref h_me, .int p0, .int p1] : List Value).toArray below meth c H locs 0 0 Qz (F0 m 74 ls [.long s0]) := by
    intro rec_27_0 hrec_27_0 rec_38_2 hrec_38_2
    intro v2 v3 v4 v5 s0 o_me H locs ls h hw hl
    unfold bk_X7_chanceOfFewer_74 at h
    refine lv_lstore (lv' := [(6, .long s0), (0, .ref h_me), (2, .int v2), (3, .int v3), (4, .int v4), (5, .int v5)]) hx hb dX7_chanceOfFewer_74 hl (by decide) rfl (fun ls hl => ?_)
    refine lv_aload_n hx hb dX7_chanceOfFewer_76 rfl (lv_at hl 1 rfl) ?_
    refine fgX7_8 hx hb hts hown hK hw 0 rfl kw395 dX7_chanceOfFewer_77 ?_
    refine lv_iload hx hb dX7_chanceOfFewer_80 (lv_at hl 5 rfl) ?_
    refine lv_aload_n hx hb dX7_chanceOfFewer_82 rfl (lv_at hl 1 rfl) ?_
    refine fgX7_8 hx hb hts hown hK hw 0 rfl kw395 dX7_chanceOfFewer_83 ?_
    refine lv_iload hx hb dX7_chanceOfFewer_86 (lv_at hl 5 rfl) ?_
    obtain ⟨g9, h⟩ := z_gd h
    refine faX7_8 hx hb hK hw 0 rfl rfl g9 dX7_chanceOfFewer_88 ?_
    refine lv_bipush (v := 10) hx hb dX7_chanceOfFewer_89 (by decide) ?_
    refine lv_aload_n hx hb dX7_chanceOfFewer_91 rfl (lv_at hl 1 rfl) ?_
    refine fgX7_1 hx hb hts hown hK hw 0 rfl kw387 dX7_chanceOfFewer_92 ?_
    refine fgX2_11 hx hb hts hown hK hw 1 rfl kw327 dX7_chanceOfFewer_95 ?_
    refine lv_isub hx hb dX7_chanceOfFewer_98 ?_
    refine lv_i2l hx hb dX7_chanceOfFewer_99 rfl ?_
    refine lv_lmul hx hb dX7_chanceOfFewer_100 ?_
    refine lv_ldc2 (v := 10) hx hb hown (hts _ kw1104) dX7_chanceOfFewer_101 ?_
    refine lv_ldiv hx hb dX7_chanceOfFewer_104 (by decide) ?_
    refine lv_lload hx hb dX7_chanceOfFewer_105 (lv_at hl 0 rfl) ?_
    refine lv_ladd hx hb dX7_chanceOfFewer_107 ?_
    obtain ⟨g10, h⟩ := z_gd h
    refine fbX7_8 hx hb hK hw 0 rfl rfl g10 dX7_chanceOfFewer_108 (fun H locs hw => ?_)
    obtain ⟨o11, eo11, h⟩ := z_lt h
    have hw : Wd dC dI A s.heap [wX7 h_me h_me_court h_me_court_isles q_me k_me o11, wX2 h_me_court_isles h_me_court_isles_now q_me_court_isles k_me_court_isles o_me_court_isles] H locs := by rw [eo11]; exact hw
    obtain ⟨x12, ex12, h⟩ := z_lt h
    refine lv_iinc (v := x12) (lv' := [(5, .int x12), (6, .long s0), (0, .ref h_me), (2, .int v2), (3, .int v3), (4, .int v4)]) hx hb dX7_chanceOfFewer_109 hl (k := 5) rfl ((congrArg (v5 + ·) (show Int32.ofInt (-1) = (-1 : Int32) from by decide)).trans ex12.symm) (by decide) rfl (fun ls hl => ?_)
    refine lv_goto (tgt := 38) hx hb dX7_chanceOfFewer_112 (by decide) ?_
    exact hrec_38_2 v2 v3 v4 x12 o11 _ _ _ h hw (lv_sub hl [2, 3, 4, 5, 0] rfl)
  have lp_38_2 : ∀ (rec_27_0 : Int32 × Int32 × Int32 × Ob → Option (Int64 × Ob)) (hrec_27_0 : ∀ (v2 : Int32) (v3 : Int32) (v4 : Int32) (o_me : Ob) (H : Heap) (locs : List Loc) (ls : Array Slot), rec_27_0 (v2, v3, v4, o_me) = some y → Wd dC dI A s.heap [wX7 h_me h_me_court h_me_court_isles q_me k_me o_me, wX2 h_me_court_isles h_me_court_isles_now q_me_court_isles k_me_court_isles o_me_court_isles] H locs → lv_has ls 8 [(0, .ref h_me), (2, .int v2), (3, .int v3), (4, .int v4)] → W p l e ({ frames := 1, cells := 0, slots := 0, locals := 24 } : Room) s m ([.ref h_me, .int p0, .int p1] : List Value).toArray below meth c H locs 0 0 Qz (F0 m 27 ls [])) (N : Nat), ∀ (v2 : Int32) (v3 : Int32) (v4 : Int32) (v5 : Int32) (o_me : Ob) (H : Heap) (locs : List Loc) (ls : Array Slot), lp_X7_chanceOfFewer_38 o_me_court_isles rec_27_0 N (v2, v3, v4, v5, o_me) = some y → Wd dC dI A s.heap [wX7 h_me h_me_court h_me_court_isles q_me k_me o_me, wX2 h_me_court_isles h_me_court_isles_now q_me_court_isles k_me_court_isles o_me_court_isles] H locs → lv_has ls 8 [(0, .ref h_me), (2, .int v2), (3, .int v3), (4, .int v4), (5, .int v5)] → W p l e ({ frames := 1, cells := 0, slots := 0, locals := 24 } : Room) s m ([.ref h_me, .int p0, .int p1] : List Value).toArray below meth c H locs 0 0 Qz (F0 m 38 ls []) := by
    intro rec_27_0 hrec_27_0
    intro N
    induction N with
    | zero =>
      intro v2 v3 v4 v5 o_me H locs ls h hw hl
      exact absurd (show (none : Option (Int64 × Ob)) = some y from h) (by simp)
    | succ N ih =>
      intro v2 v3 v4 v5 o_me H locs ls h hw hl
      have h : lb_X7_chanceOfFewer_38 o_me_court_isles rec_27_0 (lp_X7_chanceOfFewer_38 o_me_court_isles rec_27_0 N) v2 v3 v4 v5 o_me = some y := h
      unfold lb_X7_chanceOfFewer_38 at h
      refine lv_iload hx hb dX7_chanceOfFewer_38 (lv_at hl 4 rfl) ?_
      refine lv_if_lt (tgt := 115) hx hb dX7_chanceOfFewer_40 (by decide) (fun c => ?_) (fun c => ?_)
      · have h := z_t h c
        obtain ⟨x8, ex8, h⟩ := z_lt h
        refine lv_iinc (v := x8) (lv' := [(4, .int x8), (0, .ref h_me), (2, .int v2), (3, .int v3), (5, .int v5)]) hx hb dX7_chanceOfFewer_115 hl (k := 3) rfl ((congrArg (v4 + ·) (show Int32.ofInt 1 = (1 : Int32) from by decide)).trans ex8.symm) (by decide) rfl (fun ls hl => ?_)
        refine lv_goto (tgt := 27) hx hb dX7_chanceOfFewer_118 (by decide) ?_
        exact hrec_27_0 v2 v3 x8 o_me _ _ _ h hw (lv_sub hl [1, 2, 3, 0] rfl)
      · have h := z_f h c
        refine lv_iload hx hb dX7_chanceOfFewer_43 (lv_at hl 4 rfl) ?_
        refine lv_if_le (tgt := 73) hx hb dX7_chanceOfFewer_45 (by decide) (fun c => ?_) (fun c => ?_)
        · have h := z_t h c
          refine lv_lconst (v := 0) hx hb dX7_chanceOfFewer_73 (by decide) ?_
          exact bk_74_3 rec_27_0 hrec_27_0 (lp_X7_chanceOfFewer_38 o_me_court_isles rec_27_0 N) ih v2 v3 v4 v5 (0 : Int64) o_me _ _ _ h hw (lv_sub hl [0, 1, 2, 3, 4] rfl)
        · have h := z_f h c
          refine lv_aload_n hx hb dX7_chanceOfFewer_48 rfl (lv_at hl 0 rfl) ?_
          refine fgX7_8 hx hb hts hown hK hw 0 rfl kw395 dX7_chanceOfFewer_49 ?_
          refine lv_iload hx hb dX7_chanceOfFewer_52 (lv_at hl 4 rfl) ?_
          refine lv_iconst (v := 1) hx hb dX7_chanceOfFewer_54 (by decide) ?_
          refine lv_isub hx hb dX7_chanceOfFewer_55 ?_
          obtain ⟨g13, h⟩ := z_gd h
          refine faX7_8 hx hb hK hw 0 rfl rfl g13 dX7_chanceOfFewer_56 ?_
          refine lv_aload_n hx hb dX7_chanceOfFewer_57 rfl (lv_at hl 0 rfl) ?_
          refine fgX7_1 hx hb hts hown hK hw 0 rfl kw387 dX7_chanceOfFewer_58 ?_
          refine fgX2_11 hx hb hts hown hK hw 1 rfl kw327 dX7_chanceOfFewer_61 ?_
          refine lv_i2l hx hb dX7_chanceOfFewer_64 rfl ?_
          refine lv_lmul hx hb dX7_chanceOfFewer_65 ?_
          refine lv_ldc2 (v := 10) hx hb hown (hts _ kw1104) dX7_chanceOfFewer_66 ?_
          refine lv_ldiv hx hb dX7_chanceOfFewer_69 (by decide) ?_
          refine lv_goto (tgt := 74) hx hb dX7_chanceOfFewer_70 (by decide) ?_
          exact bk_74_3 rec_27_0 hrec_27_0 (lp_X7_chanceOfFewer_38 o_me_court_isles rec_27_0 N) ih v2 v3 v4 v5 (((gM o_me 8 (v5 - (1 : Int32)).toNatClampNeg) * ((gI o_me_court_isles 11).toInt64)) / (10 : Int64)) o_me _ _ _ h hw (lv_sub hl [0, 1, 2, 3, 4] rfl)
  have lp_27_0 : ∀ (N : Nat), ∀ (v2 : Int32) (v3 : Int32) (v4 : Int32) (o_me : Ob) (H : Heap) (locs : List Loc) (ls : Array Slot), lp_X7_chanceOfFewer_27 o_me_court_isles  N (v2, v3, v4, o_me) = some y → Wd dC dI A s.heap [wX7 h_me h_me_court h_me_court_isles q_me k_me o_me, wX2 h_me_court_isles h_me_court_isles_now q_me_court_isles k_me_court_isles o_me_court_isles] H locs → lv_has ls 8 [(0, .ref h_me), (2, .int v2), (3, .int v3), (4, .int v4)] → W p l e ({ frames := 1, cells := 0, slots := 0, locals := 24 } : Room) s m ([.ref h_me, .int p0, .int p1] : List Value).toArray below meth c H locs 0 0 Qz (F0 m 27 ls []) := by
    intro N
    induction N with
    | zero =>
      intro v2 v3 v4 o_me H locs ls h hw hl
      exact absurd (show (none : Option (Int64 × Ob)) = some y from h) (by simp)
    | succ N ih =>
      intro v2 v3 v4 o_me H locs ls h hw hl
      have h : lb_X7_chanceOfFewer_27 o_me_court_isles  (lp_X7_chanceOfFewer_27 o_me_court_isles  N) v2 v3 v4 o_me = some y := h
      unfold lb_X7_chanceOfFewer_27 at h
      refine lv_iload hx hb dX7_chanceOfFewer_27 (lv_at hl 3 rfl) ?_
      refine lv_iload_n hx hb dX7_chanceOfFewer_29 rfl (lv_at hl 1 rfl) ?_
      refine lv_icmp_ge (tgt := 121) hx hb dX7_chanceOfFewer_30 (by decide) (fun c => ?_) (fun c => ?_)
      · have h := z_t h c
        refine lv_lconst (v := 0) hx hb dX7_chanceOfFewer_121 (by decide) ?_
        refine lv_lstore (lv' := [(4, .long (0 : Int64)), (0, .ref h_me), (2, .int v2), (3, .int v3)]) hx hb dX7_chanceOfFewer_122 hl (by decide) rfl (fun ls hl => ?_)
        refine lv_iconst (v := 0) hx hb dX7_chanceOfFewer_124 (by decide) ?_
        refine lv_istore (lv' := [(6, .int (0 : Int32)), (4, .long (0 : Int64)), (0, .ref h_me), (2, .int v2), (3, .int v3)]) hx hb dX7_chanceOfFewer_125 hl (by decide) rfl (fun ls hl => ?_)
        exact lp_127_1  zfu v3 (0 : Int64) (0 : Int32) o_me _ _ _ h hw (lv_sub hl [2, 4, 1, 0] rfl)
      · have h := z_f h c
        refine lv_iload_n hx hb dX7_chanceOfFewer_33 rfl (lv_at hl 2 rfl) ?_
        refine lv_iconst (v := 1) hx hb dX7_chanceOfFewer_34 (by decide) ?_
        refine lv_isub hx hb dX7_chanceOfFewer_35 ?_
        obtain ⟨x7, ex7, h⟩ := z_lt h
        refine lv_fi (v := x7) ex7.symm ?_
        refine lv_istore (lv' := [(5, .int x7), (0, .ref h_me), (2, .int v2), (3, .int v3), (4, .int v4)]) hx hb dX7_chanceOfFewer_36 hl (by decide) rfl (fun ls hl => ?_)
        exact lp_38_2 (lp_X7_chanceOfFewer_27 o_me_court_isles  N) ih zfu v2 v3 v4 x7 o_me _ _ _ h hw (lv_sub hl [1, 2, 3, 4, 0] rfl)
  unfold f_X7_chanceOfFewer at h
  refine lv_aload_n hx hb dX7_chanceOfFewer_0 rfl (lv_at hl 0 rfl) ?_
  refine fgX7_8 hx hb hts hown hK hw 0 rfl kw395 dX7_chanceOfFewer_1 ?_
  refine lv_lconst (v := 0) hx hb dX7_chanceOfFewer_4 (by decide) ?_
  obtain ⟨z1, ez1, h⟩ := z_bd h
  refine xj_v (xrS (As := [.ref (q_me 8), .long (0 : Int64)]) (rest := []) ⟨hx, hb, hml, hown, hts⟩ (m_J7_fill_d0a16_AX7_8 l dC dI _ h_me h_me_court h_me_court_isles q_me k_me o_me (0 : Int64) z1 ez1) kw1102 kw1100 kw1101 kw127 hd_J7_fill_d0a16 ⟨rfl, rfl⟩ rfl rfl ⟨rfl, rfl⟩ hX hK hw [0] (by decide) rfl rfl hl.1 rfl rfl dX7_chanceOfFewer_5) hw hA [0] (by decide) rfl rfl (fun H locs hw => ?_)
  have hw : Wd dC dI A s.heap [wX7 h_me h_me_court h_me_court_isles q_me k_me z1, wX2 h_me_court_isles h_me_court_isles_now q_me_court_isles k_me_court_isles o_me_court_isles] H locs := hw
  refine lv_aload_n hx hb dX7_chanceOfFewer_8 rfl (lv_at hl 0 rfl) ?_
  refine fgX7_8 hx hb hts hown hK hw 0 rfl kw395 dX7_chanceOfFewer_9 ?_
  refine lv_iconst (v := 0) hx hb dX7_chanceOfFewer_12 (by decide) ?_
  refine lv_ldc2 (v := 1000000000000) hx hb hown (hts _ kw1103) dX7_chanceOfFewer_13 ?_
  refine fbX7_8 hx hb hK hw 0 rfl rfl (by decide) dX7_chanceOfFewer_16 (fun H locs hw => ?_)
  obtain ⟨o2, eo2, h⟩ := z_lt h
  have hw : Wd dC dI A s.heap [wX7 h_me h_me_court h_me_court_isles q_me k_me o2, wX2 h_me_court_isles h_me_court_isles_now q_me_court_isles k_me_court_isles o_me_court_isles] H locs := by rw [eo2]; exact hw
  refine lv_iload_n hx hb dX7_chanceOfFewer_17 rfl (lv_at hl 1 rfl) ?_
  refine lv_bipush (v := 20) hx hb dX7_chanceOfFewer_18 (by decide) ?_
  refine va_mmin hx hb (hml.trans hl.1.symm) hown (hts _ kw1021) (hts _ kw561) (hts _ kw113) (hts _ kw562) (Nat.le_of_ble_eq_true rfl) (Nat.le_of_ble_eq_true rfl) (Nat.le_of_ble_eq_true rfl) (Nat.le_of_ble_eq_true rfl) dX7_chanceOfFewer_20 ?_
  obtain ⟨x3, ex3, h⟩ := z_lt h
  refine lv_fi (v := x3) ex3.symm ?_
  refine lv_istore_n (lv' := [(3, .int x3), (0, .ref h_me), (1, .int p0), (2, .int p1)]) hx hb dX7_chanceOfFewer_23 rfl hl (by decide) rfl (fun ls hl => ?_)
  refine lv_iconst (v := 0) hx hb dX7_chanceOfFewer_24 (by decide) ?_
  refine lv_istore (lv' := [(4, .int (0 : Int32)), (3, .int x3), (0, .ref h_me), (1, .int p0), (2, .int p1)]) hx hb dX7_chanceOfFewer_25 hl (by decide) rfl (fun ls hl => ?_)
  exact lp_27_0  zfu p1 x3 (0 : Int32) o2 _ _ _ h hw (lv_sub hl [2, 4, 1, 0] rfl)

