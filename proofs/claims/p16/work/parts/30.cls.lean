def f_X2_isPerson (o_me : Ob) (p0 : Int32) : Option (Int32) :=
  if p0 < (0 : Int32) then
  (some (0 : Int32))
  else
  (if (gI o_me 7) ≤ p0 then
  (some (0 : Int32))
  else
  (some (1 : Int32)))
set_option maxHeartbeats 4000000 in
set_option maxRecDepth 100000 in
theorem m_X2_isPerson (l : Launch) (dC : Nat → ClassId) (dI : Nat → Nat → Nat) (sz : Nat) (h_me : Nat) (h_me_now : Nat) (q_me : Nat → Nat) (k_me : Nat → ClassId) (o_me : Ob) (p0 : Int32) (y : Int32) (h : f_X2_isPerson o_me p0 = some y) : CI l yX2_isPerson cX2_isPerson 2 (some .boolean) ({ frames := 0, cells := 0, slots := 0, locals := 0 } : Room) dC dI sz [.ref h_me, .int p0] [wX2 h_me h_me_now q_me k_me o_me] [tX2 k_me] y [wX2 h_me h_me_now q_me k_me o_me] := by
  refine CC_of (by decide) (Nat.le_of_ble_eq_true rfl) ?_
  intro p e s m below meth c A ls hx hb hml hr hlk hnm hown hts hX hK hP hD hA hl
  have hl : lv_has ls 2 [(0, .ref h_me), (1, .int p0)] := hl
  have hown : s.vm.findClass RX2 = some m.cls := hown
  have hw : Wd dC dI A s.heap [wX2 h_me h_me_now q_me k_me o_me] s.heap [] := ⟨hP, hD, va_S.rf⟩
  generalize hQz : (MQ below (QI dC dI (fun r (_ : Unit) => r = y) (fun _ => Jn [wX2 h_me h_me_now q_me k_me o_me]) (fun _ => Jt [tX2 k_me]) A) ([.ref h_me, .int p0] : List Value).toArray s 0 0 A) = Qz
  clear hP hD hnm
  unfold f_X2_isPerson at h
  refine lv_iload_n hx hb dX2_isPerson_0 rfl (lv_at hl 1 rfl) ?_
  refine lv_if_lt (tgt := 16) hx hb dX2_isPerson_1 (by decide) (fun c => ?_) (fun c => ?_)
  · have h := z_t h c
    refine lv_iconst (v := 0) hx hb dX2_isPerson_16 (by decide) ?_
    have hy := Option.some.inj h
    rw [← hQz, ← hy]
    exact xr_i (v := (0 : Int32)) hx hb hr rfl hlk hK hw dX2_isPerson_17
  · have h := z_f h c
    refine lv_iload_n hx hb dX2_isPerson_4 rfl (lv_at hl 1 rfl) ?_
    refine lv_aload_n hx hb dX2_isPerson_5 rfl (lv_at hl 0 rfl) ?_
    refine fgX2_7 hx hb hts hown hK hw 0 rfl kw315 dX2_isPerson_6 ?_
    refine lv_icmp_ge (tgt := 16) hx hb dX2_isPerson_9 (by decide) (fun c => ?_) (fun c => ?_)
    · have h := z_t h c
      refine lv_iconst (v := 0) hx hb dX2_isPerson_16 (by decide) ?_
      have hy := Option.some.inj h
      rw [← hQz, ← hy]
      exact xr_i (v := (0 : Int32)) hx hb hr rfl hlk hK hw dX2_isPerson_17
    · have h := z_f h c
      refine lv_iconst (v := 1) hx hb dX2_isPerson_12 (by decide) ?_
      refine lv_goto (tgt := 17) hx hb dX2_isPerson_13 (by decide) ?_
      have hy := Option.some.inj h
      rw [← hQz, ← hy]
      exact xr_i (v := (1 : Int32)) hx hb hr rfl hlk hK hw dX2_isPerson_17

def f_X8_isRace (p0 : Int32) : Option (Int32) :=
  if p0 < (0 : Int32) then
  (some (0 : Int32))
  else
  (if (4 : Int32) ≤ p0 then
  (some (0 : Int32))
  else
  (some (1 : Int32)))
set_option maxHeartbeats 4000000 in
set_option maxRecDepth 100000 in
theorem m_X8_isRace (l : Launch) (dC : Nat → ClassId) (dI : Nat → Nat → Nat) (sz : Nat)  (p0 : Int32) (y : Int32) (h : f_X8_isRace p0 = some y) : CI l yX8_isRace cX8_isRace 1 (some .boolean) ({ frames := 0, cells := 0, slots := 0, locals := 0 } : Room) dC dI sz [.int p0] [] [] y [] := by
  refine CC_of (by decide) (Nat.le_of_ble_eq_true rfl) ?_
  intro p e s m below meth c A ls hx hb hml hr hlk hnm hown hts hX hK hP hD hA hl
  have hl : lv_has ls 1 [(0, .int p0)] := hl
  have hown : s.vm.findClass RX8 = some m.cls := hown
  have hw : Wd dC dI A s.heap [] s.heap [] := ⟨hP, hD, va_S.rf⟩
  generalize hQz : (MQ below (QI dC dI (fun r (_ : Unit) => r = y) (fun _ => Jn []) (fun _ => Jt []) A) ([.int p0] : List Value).toArray s 0 0 A) = Qz
  clear hP hD hnm
  unfold f_X8_isRace at h
  refine lv_iload_n hx hb dX8_isRace_0 rfl (lv_at hl 0 rfl) ?_
  refine lv_if_lt (tgt := 13) hx hb dX8_isRace_1 (by decide) (fun c => ?_) (fun c => ?_)
  · have h := z_t h c
    refine lv_iconst (v := 0) hx hb dX8_isRace_13 (by decide) ?_
    have hy := Option.some.inj h
    rw [← hQz, ← hy]
    exact xr_i (v := (0 : Int32)) hx hb hr rfl hlk hK hw dX8_isRace_14
  · have h := z_f h c
    refine lv_iload_n hx hb dX8_isRace_4 rfl (lv_at hl 0 rfl) ?_
    refine lv_iconst (v := 4) hx hb dX8_isRace_5 (by decide) ?_
    refine lv_icmp_ge (tgt := 13) hx hb dX8_isRace_6 (by decide) (fun c => ?_) (fun c => ?_)
    · have h := z_t h c
      refine lv_iconst (v := 0) hx hb dX8_isRace_13 (by decide) ?_
      have hy := Option.some.inj h
      rw [← hQz, ← hy]
      exact xr_i (v := (0 : Int32)) hx hb hr rfl hlk hK hw dX8_isRace_14
    · have h := z_f h c
      refine lv_iconst (v := 1) hx hb dX8_isRace_9 (by decide) ?_
      refine lv_goto (tgt := 14) hx hb dX8_isRace_10 (by decide) ?_
      have hy := Option.some.inj h
      rw [← hQz, ← hy]
      exact xr_i (v := (1 : Int32)) hx hb hr rfl hlk hK hw dX8_isRace_14

def f_X2_isLaw (o_me : Ob) (p0 : Int32) : Option (Int32) :=
  if p0 < (0 : Int32) then
  (some (0 : Int32))
  else
  (if (gI o_me 9) ≤ p0 then
  (some (0 : Int32))
  else
  (some (1 : Int32)))
set_option maxHeartbeats 4000000 in
set_option maxRecDepth 100000 in
theorem m_X2_isLaw (l : Launch) (dC : Nat → ClassId) (dI : Nat → Nat → Nat) (sz : Nat) (h_me : Nat) (h_me_now : Nat) (q_me : Nat → Nat) (k_me : Nat → ClassId) (o_me : Ob) (p0 : Int32) (y : Int32) (h : f_X2_isLaw o_me p0 = some y) : CI l yX2_isLaw cX2_isLaw 2 (some .boolean) ({ frames := 0, cells := 0, slots := 0, locals := 0 } : Room) dC dI sz [.ref h_me, .int p0] [wX2 h_me h_me_now q_me k_me o_me] [tX2 k_me] y [wX2 h_me h_me_now q_me k_me o_me] := by
  refine CC_of (by decide) (Nat.le_of_ble_eq_true rfl) ?_
  intro p e s m below meth c A ls hx hb hml hr hlk hnm hown hts hX hK hP hD hA hl
  have hl : lv_has ls 2 [(0, .ref h_me), (1, .int p0)] := hl
  have hown : s.vm.findClass RX2 = some m.cls := hown
  have hw : Wd dC dI A s.heap [wX2 h_me h_me_now q_me k_me o_me] s.heap [] := ⟨hP, hD, va_S.rf⟩
  generalize hQz : (MQ below (QI dC dI (fun r (_ : Unit) => r = y) (fun _ => Jn [wX2 h_me h_me_now q_me k_me o_me]) (fun _ => Jt [tX2 k_me]) A) ([.ref h_me, .int p0] : List Value).toArray s 0 0 A) = Qz
  clear hP hD hnm
  unfold f_X2_isLaw at h
  refine lv_iload_n hx hb dX2_isLaw_0 rfl (lv_at hl 1 rfl) ?_
  refine lv_if_lt (tgt := 16) hx hb dX2_isLaw_1 (by decide) (fun c => ?_) (fun c => ?_)
  · have h := z_t h c
    refine lv_iconst (v := 0) hx hb dX2_isLaw_16 (by decide) ?_
    have hy := Option.some.inj h
    rw [← hQz, ← hy]
    exact xr_i (v := (0 : Int32)) hx hb hr rfl hlk hK hw dX2_isLaw_17
  · have h := z_f h c
    refine lv_iload_n hx hb dX2_isLaw_4 rfl (lv_at hl 1 rfl) ?_
    refine lv_aload_n hx hb dX2_isLaw_5 rfl (lv_at hl 0 rfl) ?_
    refine fgX2_9 hx hb hts hown hK hw 0 rfl kw322 dX2_isLaw_6 ?_
    refine lv_icmp_ge (tgt := 16) hx hb dX2_isLaw_9 (by decide) (fun c => ?_) (fun c => ?_)
    · have h := z_t h c
      refine lv_iconst (v := 0) hx hb dX2_isLaw_16 (by decide) ?_
      have hy := Option.some.inj h
      rw [← hQz, ← hy]
      exact xr_i (v := (0 : Int32)) hx hb hr rfl hlk hK hw dX2_isLaw_17
    · have h := z_f h c
      refine lv_iconst (v := 1) hx hb dX2_isLaw_12 (by decide) ?_
      refine lv_goto (tgt := 17) hx hb dX2_isLaw_13 (by decide) ?_
      have hy := Option.some.inj h
      rw [← hQz, ← hy]
      exact xr_i (v := (1 : Int32)) hx hb hr rfl hlk hK hw dX2_isLaw_17

def f_X2_lawAt (o_me : Ob) (p0 : Int32) : Option (Option Nat) :=
  (f_X2_isLaw o_me p0).bind fun z1 =>
  if z1 = (0 : Int32) then
  (some none)
  else
  (zgd (zin p0 6) <|
  some (gR o_me 6 p0.toNatClampNeg))
set_option maxHeartbeats 4000000 in
set_option maxRecDepth 100000 in
theorem m_X2_lawAt (l : Launch) (dC : Nat → ClassId) (dI : Nat → Nat → Nat) (sz : Nat) (h_me : Nat) (h_me_now : Nat) (q_me : Nat → Nat) (k_me : Nat → ClassId) (o_me : Ob) (p0 : Int32) (y : Option Nat) (h : f_X2_lawAt o_me p0 = some y) : CQ l yX2_lawAt cX2_lawAt 2 (some (.object "NoSecond$Code")) ({ frames := 1, cells := 0, slots := 0, locals := 21 } : Room) dC dI sz [.ref h_me, .int p0] [wX2 h_me h_me_now q_me k_me o_me] [tX2 k_me] y [wX2 h_me h_me_now q_me k_me o_me] := by
  refine CC_of (by decide) (Nat.le_of_ble_eq_true rfl) ?_
  intro p e s m below meth c A ls hx hb hml hr hlk hnm hown hts hX hK hP hD hA hl
  have hl : lv_has ls 2 [(0, .ref h_me), (1, .int p0)] := hl
  have hown : s.vm.findClass RX2 = some m.cls := hown
  have hw : Wd dC dI A s.heap [wX2 h_me h_me_now q_me k_me o_me] s.heap [] := ⟨hP, hD, va_S.rf⟩
  generalize hQz : (MQ below (QQ dC dI (fun r (_ : Unit) => r = y) (fun _ => Jn [wX2 h_me h_me_now q_me k_me o_me]) (fun _ => Jt [tX2 k_me]) A) ([.ref h_me, .int p0] : List Value).toArray s 0 0 A) = Qz
  clear hP hD hnm
  unfold f_X2_lawAt at h
  refine lv_aload_n hx hb dX2_lawAt_0 rfl (lv_at hl 0 rfl) ?_
  refine lv_iload_n hx hb dX2_lawAt_1 rfl (lv_at hl 1 rfl) ?_
  obtain ⟨z1, ez1, h⟩ := z_bd h
  refine xj_i (xrV (As := [.int p0]) (rest := []) ⟨hx, hb, hml, hown, hts⟩ (m_X2_isLaw l dC dI _ h_me h_me_now q_me k_me o_me p0 z1 ez1) kw539 kw536 kw537 kw538 kw115 hd_X2_isLaw ⟨rfl, rfl⟩ rfl rfl ⟨rfl, rfl⟩ hX hK hw [0] (by decide) rfl rfl rfl rfl rfl hl.1 rfl rfl dX2_lawAt_2) hw hA [0] (by decide) rfl rfl (fun H locs hw => ?_)
  have hw : Wd dC dI A s.heap [wX2 h_me h_me_now q_me k_me o_me] H locs := hw
  refine lv_if_eq (tgt := 17) hx hb dX2_lawAt_5 (by decide) (fun c => ?_) (fun c => ?_)
  · have h := z_t h c
    refine lv_null hx hb dX2_lawAt_17 ?_
    have hy := Option.some.inj h
    rw [← hQz, ← hy]
    exact xr_q none rfl hx hb hr hlk hK hw dX2_lawAt_18
  · have h := z_f h c
    refine lv_aload_n hx hb dX2_lawAt_8 rfl (lv_at hl 0 rfl) ?_
    refine fgX2_6 hx hb hts hown hK hw 0 rfl kw314 dX2_lawAt_9 ?_
    refine lv_iload_n hx hb dX2_lawAt_12 rfl (lv_at hl 1 rfl) ?_
    obtain ⟨g2, h⟩ := z_gd h
    refine faX2_6 hx hb hK hw 0 rfl rfl g2 dX2_lawAt_13 ?_
    refine lv_goto (tgt := 18) hx hb dX2_lawAt_14 (by decide) ?_
    have hy := Option.some.inj h
    rw [← hQz, ← hy]
    exact xr_q (gR o_me 6 p0.toNatClampNeg) rfl hx hb hr hlk hK hw dX2_lawAt_18

def f_X2_lawInForce (o_me : Ob) : Option (Option Nat) :=
  (f_X2_lawAt o_me (gI o_me 10)).bind fun z1 =>
  some z1
set_option maxHeartbeats 4000000 in
set_option maxRecDepth 100000 in
theorem m_X2_lawInForce (l : Launch) (dC : Nat → ClassId) (dI : Nat → Nat → Nat) (sz : Nat) (h_me : Nat) (h_me_now : Nat) (q_me : Nat → Nat) (k_me : Nat → ClassId) (o_me : Ob) (y : Option Nat) (h : f_X2_lawInForce o_me = some y) : CQ l yX2_lawInForce cX2_lawInForce 1 (some (.object "NoSecond$Code")) ({ frames := 2, cells := 0, slots := 0, locals := 42 } : Room) dC dI sz [.ref h_me] [wX2 h_me h_me_now q_me k_me o_me] [tX2 k_me] y [wX2 h_me h_me_now q_me k_me o_me] := by
  refine CC_of (by decide) (Nat.le_of_ble_eq_true rfl) ?_
  intro p e s m below meth c A ls hx hb hml hr hlk hnm hown hts hX hK hP hD hA hl
  have hl : lv_has ls 1 [(0, .ref h_me)] := hl
  have hown : s.vm.findClass RX2 = some m.cls := hown
  have hw : Wd dC dI A s.heap [wX2 h_me h_me_now q_me k_me o_me] s.heap [] := ⟨hP, hD, va_S.rf⟩
  generalize hQz : (MQ below (QQ dC dI (fun r (_ : Unit) => r = y) (fun _ => Jn [wX2 h_me h_me_now q_me k_me o_me]) (fun _ => Jt [tX2 k_me]) A) ([.ref h_me] : List Value).toArray s 0 0 A) = Qz
  clear hP hD hnm
  unfold f_X2_lawInForce at h
  refine lv_aload_n hx hb dX2_lawInForce_0 rfl (lv_at hl 0 rfl) ?_
  refine lv_aload_n hx hb dX2_lawInForce_1 rfl (lv_at hl 0 rfl) ?_
  refine fgX2_10 hx hb hts hown hK hw 0 rfl kw324 dX2_lawInForce_2 ?_
  obtain ⟨z1, ez1, h⟩ := z_bd h
  refine xj_q (xrV (As := [.int (gI o_me 10)]) (rest := []) ⟨hx, hb, hml, hown, hts⟩ (m_X2_lawAt l dC dI _ h_me h_me_now q_me k_me o_me (gI o_me 10) z1 ez1) kw535 kw532 kw533 kw534 kw115 hd_X2_lawAt ⟨rfl, rfl⟩ rfl rfl ⟨rfl, rfl⟩ hX hK hw [0] (by decide) rfl rfl rfl rfl rfl hl.1 rfl rfl dX2_lawInForce_5) hw hA [0] (by decide) rfl rfl (fun H locs hw => ?_)
  have hw : Wd dC dI A s.heap [wX2 h_me h_me_now q_me k_me o_me] H locs := hw
  have hy := Option.some.inj h
  rw [← hQz, ← hy]
  exact xr_q z1 rfl hx hb hr hlk hK hw dX2_lawInForce_8

def f_X1_told_N (o_me : Ob) (p1 : Int32) (p2 : Int32) (p3 : Int32) (p4 : Int32) : Option (Int64) :=
  some (-9000000000000000000 : Int64)
set_option maxHeartbeats 4000000 in
set_option maxRecDepth 100000 in
theorem m_X1_told_N (l : Launch) (dC : Nat → ClassId) (dI : Nat → Nat → Nat) (sz : Nat) (h_me : Nat) (h_me_isles : Nat) (h_me_machine : Nat) (q_me : Nat → Nat) (k_me : Nat → ClassId) (o_me : Ob) (p1 : Int32) (p2 : Int32) (p3 : Int32) (p4 : Int32) (y : Int64) (h : f_X1_told_N o_me p1 p2 p3 p4 = some y) : CL l yX1_told cX1_told 9 (some .long) ({ frames := 0, cells := 0, slots := 0, locals := 0 } : Room) dC dI sz [.ref h_me, .null, .int p1, .int p2, .int p3, .int p4] [wX1 h_me h_me_isles h_me_machine q_me k_me o_me] [tX1 k_me] y [wX1 h_me h_me_isles h_me_machine q_me k_me o_me] := by
  refine CC_of (by decide) (Nat.le_of_ble_eq_true rfl) ?_
  intro p e s m below meth c A ls hx hb hml hr hlk hnm hown hts hX hK hP hD hA hl
  have hl : lv_has ls 9 [(0, .ref h_me), (1, .null), (2, .int p1), (3, .int p2), (4, .int p3), (5, .int p4)] := hl
  have hown : s.vm.findClass RX1 = some m.cls := hown
  have hw : Wd dC dI A s.heap [wX1 h_me h_me_isles h_me_machine q_me k_me o_me] s.heap [] := ⟨hP, hD, va_S.rf⟩
  generalize hQz : (MQ below (QL dC dI (fun r (_ : Unit) => r = y) (fun _ => Jn [wX1 h_me h_me_isles h_me_machine q_me k_me o_me]) (fun _ => Jt [tX1 k_me]) A) ([.ref h_me, .null, .int p1, .int p2, .int p3, .int p4] : List Value).toArray s 0 0 A) = Qz
  clear hP hD hnm
  unfold f_X1_told_N at h
  refine lv_aload_nN hx hb dX1_told_0 rfl (lv_at hl 1 rfl) ?_
  refine lv_ifnullN (tgt := 23) hx hb dX1_told_1 (by decide) ?_
  refine lv_ldc2 (v := (-9000000000000000000)) hx hb hown (hts _ kw550) dX1_told_23 ?_
  have hy := Option.some.inj h
  rw [← hQz, ← hy]
  exact xr_l (v := (-9000000000000000000 : Int64)) hx hb hr hlk hK hw dX1_told_26

def f_X3_setLawWords_O (o_me : Ob) (o_a0 : Ob) (o_a0_now : Ob) (p1 : Int32) (p2 : Int32) (p3 : Int32) : Option (Ob) :=
  zlt (tA o_me 0 (0 : Int32).toNatClampNeg p1) fun o1 =>
  zlt (tA o1 0 (1 : Int32).toNatClampNeg p2) fun o2 =>
  zgd (zin ((p1 * (4 : Int32)) + p2) 28) <|
  zlt (tA o2 0 (2 : Int32).toNatClampNeg (gA o_a0 2 ((p1 * (4 : Int32)) + p2).toNatClampNeg)) fun o4 =>
  zgd (zin p1 7) <|
  zlt (tA o4 0 (3 : Int32).toNatClampNeg (gA o_a0_now 0 p1.toNatClampNeg)) fun o6 =>
  zgd (zin p1 7) <|
  zlt (tA o6 0 (4 : Int32).toNatClampNeg (gA o_a0_now 1 p1.toNatClampNeg)) fun o8 =>
  zlt (tA o8 0 (5 : Int32).toNatClampNeg p3) fun o9 =>
  zlt (tA o9 0 (6 : Int32).toNatClampNeg (gI o_a0_now 3)) fun o10 =>
  zlt (tA o10 0 (7 : Int32).toNatClampNeg (gI o_a0_now 4)) fun o11 =>
  zlt (tA o11 0 (8 : Int32).toNatClampNeg (gI o_a0 12)) fun o12 =>
  some o12
set_option maxHeartbeats 4000000 in
set_option maxRecDepth 100000 in
theorem m_X3_setLawWords_O (l : Launch) (dC : Nat → ClassId) (dI : Nat → Nat → Nat) (sz : Nat) (h_me : Nat) (h_a0 : Nat) (h_a0_now : Nat) (q_me : Nat → Nat) (k_me : Nat → ClassId) (q_a0 : Nat → Nat) (k_a0 : Nat → ClassId) (q_a0_now : Nat → Nat) (k_a0_now : Nat → ClassId) (o_me : Ob) (o_a0 : Ob) (o_a0_now : Ob) (p1 : Int32) (p2 : Int32) (p3 : Int32) (y : Ob) (h : f_X3_setLawWords_O o_me o_a0 o_a0_now p1 p2 p3 = some y) : CV l yX3_setLawWords cX3_setLawWords 5 none ({ frames := 0, cells := 0, slots := 0, locals := 0 } : Room) dC dI sz [.ref h_me, .ref h_a0, .int p1, .int p2, .int p3] [wX3 h_me q_me k_me o_me, wX2 h_a0 h_a0_now q_a0 k_a0 o_a0, wX4 h_a0_now q_a0_now k_a0_now o_a0_now] [tX3 k_me, tX2 k_a0, tX4 k_a0_now] [wX3 h_me q_me k_me y, wX2 h_a0 h_a0_now q_a0 k_a0 o_a0, wX4 h_a0_now q_a0_now k_a0_now o_a0_now] := by
  refine CC_of (by decide) (Nat.le_of_ble_eq_true rfl) ?_
  intro p e s m below meth c A ls hx hb hml hr hlk hnm hown hts hX hK hP hD hA hl
  have hl : lv_has ls 5 [(0, .ref h_me), (1, .ref h_a0), (2, .int p1), (3, .int p2), (4, .int p3)] := hl
  have hown : s.vm.findClass RX3 = some m.cls := hown
  have hw : Wd dC dI A s.heap [wX3 h_me q_me k_me o_me, wX2 h_a0 h_a0_now q_a0 k_a0 o_a0, wX4 h_a0_now q_a0_now k_a0_now o_a0_now] s.heap [] := ⟨hP, hD, va_S.rf⟩
  generalize hQz : (MQ below (QV dC dI (fun (_ : Unit) => True) (fun _ => Jn [wX3 h_me q_me k_me y, wX2 h_a0 h_a0_now q_a0 k_a0 o_a0, wX4 h_a0_now q_a0_now k_a0_now o_a0_now]) (fun _ => Jt [tX3 k_me, tX2 k_a0, tX4 k_a0_now]) A) ([.ref h_me, .ref h_a0, .int p1, .int p2, .int p3] : List Value).toArray s 0 0 A) = Qz
  clear hP hD hnm
  unfold f_X3_setLawWords_O at h
  refine lv_aload_n hx hb dX3_setLawWords_0 rfl (lv_at hl 0 rfl) ?_
  refine fgX3_0 hx hb hts hown hK hw 0 rfl kw241 dX3_setLawWords_1 ?_
  refine lv_iconst (v := 0) hx hb dX3_setLawWords_4 (by decide) ?_
  refine lv_iload_n hx hb dX3_setLawWords_5 rfl (lv_at hl 2 rfl) ?_
  refine fbX3_0 hx hb hK hw 0 rfl rfl (by decide) dX3_setLawWords_6 (fun H locs hw => ?_)
  obtain ⟨o1, eo1, h⟩ := z_lt h
  have hw : Wd dC dI A s.heap [wX3 h_me q_me k_me o1, wX2 h_a0 h_a0_now q_a0 k_a0 o_a0, wX4 h_a0_now q_a0_now k_a0_now o_a0_now] H locs := by rw [eo1]; exact hw
  refine lv_aload_n hx hb dX3_setLawWords_7 rfl (lv_at hl 0 rfl) ?_
  refine fgX3_0 hx hb hts hown hK hw 0 rfl kw241 dX3_setLawWords_8 ?_
  refine lv_iconst (v := 1) hx hb dX3_setLawWords_11 (by decide) ?_
  refine lv_iload_n hx hb dX3_setLawWords_12 rfl (lv_at hl 3 rfl) ?_
  refine fbX3_0 hx hb hK hw 0 rfl rfl (by decide) dX3_setLawWords_13 (fun H locs hw => ?_)
  obtain ⟨o2, eo2, h⟩ := z_lt h
  have hw : Wd dC dI A s.heap [wX3 h_me q_me k_me o2, wX2 h_a0 h_a0_now q_a0 k_a0 o_a0, wX4 h_a0_now q_a0_now k_a0_now o_a0_now] H locs := by rw [eo2]; exact hw
  refine lv_aload_n hx hb dX3_setLawWords_14 rfl (lv_at hl 0 rfl) ?_
  refine fgX3_0 hx hb hts hown hK hw 0 rfl kw241 dX3_setLawWords_15 ?_
  refine lv_iconst (v := 2) hx hb dX3_setLawWords_18 (by decide) ?_
  refine lv_aload_n hx hb dX3_setLawWords_19 rfl (lv_at hl 1 rfl) ?_
  refine fgX2_2 hx hb hts hown hK hw 1 rfl kw304 dX3_setLawWords_20 ?_
  refine lv_iload_n hx hb dX3_setLawWords_23 rfl (lv_at hl 2 rfl) ?_
  refine lv_iconst (v := 4) hx hb dX3_setLawWords_24 (by decide) ?_
  refine lv_imul hx hb dX3_setLawWords_25 ?_
  refine lv_iload_n hx hb dX3_setLawWords_26 rfl (lv_at hl 3 rfl) ?_
  refine lv_iadd hx hb dX3_setLawWords_27 ?_
  obtain ⟨g3, h⟩ := z_gd h
  refine faX2_2 hx hb hK hw 1 rfl rfl g3 dX3_setLawWords_28 ?_
  refine fbX3_0 hx hb hK hw 0 rfl rfl (by decide) dX3_setLawWords_29 (fun H locs hw => ?_)
  obtain ⟨o4, eo4, h⟩ := z_lt h
  have hw : Wd dC dI A s.heap [wX3 h_me q_me k_me o4, wX2 h_a0 h_a0_now q_a0 k_a0 o_a0, wX4 h_a0_now q_a0_now k_a0_now o_a0_now] H locs := by rw [eo4]; exact hw
  refine lv_aload_n hx hb dX3_setLawWords_30 rfl (lv_at hl 0 rfl) ?_
  refine fgX3_0 hx hb hts hown hK hw 0 rfl kw241 dX3_setLawWords_31 ?_
  refine lv_iconst (v := 3) hx hb dX3_setLawWords_34 (by decide) ?_
  refine lv_aload_n hx hb dX3_setLawWords_35 rfl (lv_at hl 1 rfl) ?_
  refine fgX2_0 hx hb hts hown hK hw 1 rfl kw296 dX3_setLawWords_36 ?_
  refine fgX4_0 hx hb hts hown hK hw 2 rfl kw262 dX3_setLawWords_39 ?_
  refine lv_iload_n hx hb dX3_setLawWords_42 rfl (lv_at hl 2 rfl) ?_
  obtain ⟨g5, h⟩ := z_gd h
  refine faX4_0 hx hb hK hw 2 rfl rfl g5 dX3_setLawWords_43 ?_
  refine fbX3_0 hx hb hK hw 0 rfl rfl (by decide) dX3_setLawWords_44 (fun H locs hw => ?_)
  obtain ⟨o6, eo6, h⟩ := z_lt h
  have hw : Wd dC dI A s.heap [wX3 h_me q_me k_me o6, wX2 h_a0 h_a0_now q_a0 k_a0 o_a0, wX4 h_a0_now q_a0_now k_a0_now o_a0_now] H locs := by rw [eo6]; exact hw
  refine lv_aload_n hx hb dX3_setLawWords_45 rfl (lv_at hl 0 rfl) ?_
  refine fgX3_0 hx hb hts hown hK hw 0 rfl kw241 dX3_setLawWords_46 ?_
  refine lv_iconst (v := 4) hx hb dX3_setLawWords_49 (by decide) ?_
  refine lv_aload_n hx hb dX3_setLawWords_50 rfl (lv_at hl 1 rfl) ?_
  refine fgX2_0 hx hb hts hown hK hw 1 rfl kw296 dX3_setLawWords_51 ?_
  refine fgX4_1 hx hb hts hown hK hw 2 rfl kw266 dX3_setLawWords_54 ?_
  refine lv_iload_n hx hb dX3_setLawWords_57 rfl (lv_at hl 2 rfl) ?_
  obtain ⟨g7, h⟩ := z_gd h
  refine faX4_1 hx hb hK hw 2 rfl rfl g7 dX3_setLawWords_58 ?_
  refine fbX3_0 hx hb hK hw 0 rfl rfl (by decide) dX3_setLawWords_59 (fun H locs hw => ?_)
  obtain ⟨o8, eo8, h⟩ := z_lt h
  have hw : Wd dC dI A s.heap [wX3 h_me q_me k_me o8, wX2 h_a0 h_a0_now q_a0 k_a0 o_a0, wX4 h_a0_now q_a0_now k_a0_now o_a0_now] H locs := by rw [eo8]; exact hw
  refine lv_aload_n hx hb dX3_setLawWords_60 rfl (lv_at hl 0 rfl) ?_
  refine fgX3_0 hx hb hts hown hK hw 0 rfl kw241 dX3_setLawWords_61 ?_
  refine lv_iconst (v := 5) hx hb dX3_setLawWords_64 (by decide) ?_
  refine lv_iload hx hb dX3_setLawWords_65 (lv_at hl 4 rfl) ?_
  refine fbX3_0 hx hb hK hw 0 rfl rfl (by decide) dX3_setLawWords_67 (fun H locs hw => ?_)
  obtain ⟨o9, eo9, h⟩ := z_lt h
  have hw : Wd dC dI A s.heap [wX3 h_me q_me k_me o9, wX2 h_a0 h_a0_now q_a0 k_a0 o_a0, wX4 h_a0_now q_a0_now k_a0_now o_a0_now] H locs := by rw [eo9]; exact hw
  refine lv_aload_n hx hb dX3_setLawWords_68 rfl (lv_at hl 0 rfl) ?_
  refine fgX3_0 hx hb hts hown hK hw 0 rfl kw241 dX3_setLawWords_69 ?_
  refine lv_bipush (v := 6) hx hb dX3_setLawWords_72 (by decide) ?_
  refine lv_aload_n hx hb dX3_setLawWords_74 rfl (lv_at hl 1 rfl) ?_
  refine fgX2_0 hx hb hts hown hK hw 1 rfl kw296 dX3_setLawWords_75 ?_
  refine fgX4_3 hx hb hts hown hK hw 2 rfl kw274 dX3_setLawWords_78 ?_
  refine fbX3_0 hx hb hK hw 0 rfl rfl (by decide) dX3_setLawWords_81 (fun H locs hw => ?_)
  obtain ⟨o10, eo10, h⟩ := z_lt h
  have hw : Wd dC dI A s.heap [wX3 h_me q_me k_me o10, wX2 h_a0 h_a0_now q_a0 k_a0 o_a0, wX4 h_a0_now q_a0_now k_a0_now o_a0_now] H locs := by rw [eo10]; exact hw
  refine lv_aload_n hx hb dX3_setLawWords_82 rfl (lv_at hl 0 rfl) ?_
  refine fgX3_0 hx hb hts hown hK hw 0 rfl kw241 dX3_setLawWords_83 ?_
  refine lv_bipush (v := 7) hx hb dX3_setLawWords_86 (by decide) ?_
  refine lv_aload_n hx hb dX3_setLawWords_88 rfl (lv_at hl 1 rfl) ?_
  refine fgX2_0 hx hb hts hown hK hw 1 rfl kw296 dX3_setLawWords_89 ?_
  refine fgX4_4 hx hb hts hown hK hw 2 rfl kw278 dX3_setLawWords_92 ?_
  refine fbX3_0 hx hb hK hw 0 rfl rfl (by decide) dX3_setLawWords_95 (fun H locs hw => ?_)
  obtain ⟨o11, eo11, h⟩ := z_lt h
  have hw : Wd dC dI A s.heap [wX3 h_me q_me k_me o11, wX2 h_a0 h_a0_now q_a0 k_a0 o_a0, wX4 h_a0_now q_a0_now k_a0_now o_a0_now] H locs := by rw [eo11]; exact hw
  refine lv_aload_n hx hb dX3_setLawWords_96 rfl (lv_at hl 0 rfl) ?_
  refine fgX3_0 hx hb hts hown hK hw 0 rfl kw241 dX3_setLawWords_97 ?_
  refine lv_bipush (v := 8) hx hb dX3_setLawWords_100 (by decide) ?_
  refine lv_aload_n hx hb dX3_setLawWords_102 rfl (lv_at hl 1 rfl) ?_
  refine fgX2_12 hx hb hts hown hK hw 1 rfl kw329 dX3_setLawWords_103 ?_
  refine fbX3_0 hx hb hK hw 0 rfl rfl (by decide) dX3_setLawWords_106 (fun H locs hw => ?_)
  obtain ⟨o12, eo12, h⟩ := z_lt h
  have hw : Wd dC dI A s.heap [wX3 h_me q_me k_me o12, wX2 h_a0 h_a0_now q_a0 k_a0 o_a0, wX4 h_a0_now q_a0_now k_a0_now o_a0_now] H locs := by rw [eo12]; exact hw
  have hy := Option.some.inj h
  rw [← hQz, ← hy]
  exact xr_v hx hb hr hlk hK hw dX3_setLawWords_107

def f_X3_wordWorth (o_me : Ob) (p0 : Int32) : Option (Int64) :=
  if p0 < (0 : Int32) then
  (some (-9000000000000000000 : Int64))
  else
  (if (19 : Int32) ≤ p0 then
  (some (-9000000000000000000 : Int64))
  else
  (zgd (zin p0 19) <|
  some ((gA o_me 0 p0.toNatClampNeg).toInt64)))
set_option maxHeartbeats 4000000 in
set_option maxRecDepth 100000 in
theorem m_X3_wordWorth (l : Launch) (dC : Nat → ClassId) (dI : Nat → Nat → Nat) (sz : Nat) (h_me : Nat) (q_me : Nat → Nat) (k_me : Nat → ClassId) (o_me : Ob) (p0 : Int32) (y : Int64) (h : f_X3_wordWorth o_me p0 = some y) : CL l yX3_wordWorth cX3_wordWorth 2 (some .long) ({ frames := 0, cells := 0, slots := 0, locals := 0 } : Room) dC dI sz [.ref h_me, .int p0] [wX3 h_me q_me k_me o_me] [tX3 k_me] y [wX3 h_me q_me k_me o_me] := by
  refine CC_of (by decide) (Nat.le_of_ble_eq_true rfl) ?_
  intro p e s m below meth c A ls hx hb hml hr hlk hnm hown hts hX hK hP hD hA hl
  have hl : lv_has ls 2 [(0, .ref h_me), (1, .int p0)] := hl
  have hown : s.vm.findClass RX3 = some m.cls := hown
  have hw : Wd dC dI A s.heap [wX3 h_me q_me k_me o_me] s.heap [] := ⟨hP, hD, va_S.rf⟩
  generalize hQz : (MQ below (QL dC dI (fun r (_ : Unit) => r = y) (fun _ => Jn [wX3 h_me q_me k_me o_me]) (fun _ => Jt [tX3 k_me]) A) ([.ref h_me, .int p0] : List Value).toArray s 0 0 A) = Qz
  clear hP hD hnm
  unfold f_X3_wordWorth at h
  refine lv_iload_n hx hb dX3_wordWorth_0 rfl (lv_at hl 1 rfl) ?_
  refine lv_if_lt (tgt := 20) hx hb dX3_wordWorth_1 (by decide) (fun c => ?_) (fun c => ?_)
  · have h := z_t h c
    refine lv_ldc2 (v := (-9000000000000000000)) hx hb hown (hts _ kw563) dX3_wordWorth_20 ?_
    have hy := Option.some.inj h
    rw [← hQz, ← hy]
    exact xr_l (v := (-9000000000000000000 : Int64)) hx hb hr hlk hK hw dX3_wordWorth_23
  · have h := z_f h c
    refine lv_iload_n hx hb dX3_wordWorth_4 rfl (lv_at hl 1 rfl) ?_
    refine lv_bipush (v := 19) hx hb dX3_wordWorth_5 (by decide) ?_
    refine lv_icmp_ge (tgt := 20) hx hb dX3_wordWorth_7 (by decide) (fun c => ?_) (fun c => ?_)
    · have h := z_t h c
      refine lv_ldc2 (v := (-9000000000000000000)) hx hb hown (hts _ kw563) dX3_wordWorth_20 ?_
      have hy := Option.some.inj h
      rw [← hQz, ← hy]
      exact xr_l (v := (-9000000000000000000 : Int64)) hx hb hr hlk hK hw dX3_wordWorth_23
    · have h := z_f h c
      refine lv_aload_n hx hb dX3_wordWorth_10 rfl (lv_at hl 0 rfl) ?_
      refine fgX3_0 hx hb hts hown hK hw 0 rfl kw241 dX3_wordWorth_11 ?_
      refine lv_iload_n hx hb dX3_wordWorth_14 rfl (lv_at hl 1 rfl) ?_
      obtain ⟨g1, h⟩ := z_gd h
      refine faX3_0 hx hb hK hw 0 rfl rfl g1 dX3_wordWorth_15 ?_
      refine lv_i2l hx hb dX3_wordWorth_16 rfl ?_
      refine lv_goto (tgt := 23) hx hb dX3_wordWorth_17 (by decide) ?_
      have hy := Option.some.inj h
      rw [← hQz, ← hy]
      exact xr_l (v := (gA o_me 0 p0.toNatClampNeg).toInt64) hx hb hr hlk hK hw dX3_wordWorth_23

def bk_X3_joined_182    : Option (Int64) :=
  some (-9000000000000000000 : Int64)
def bk_X3_joined_164   (v5 : Int64) : Option (Int64) :=
  if (0 : Int32) < (lg_cmp v5 (1000000000 : Int64)) then
  (bk_X3_joined_182   )
  else
  (if (0 : Int32) ≤ (lg_cmp v5 (-1000000000 : Int64)) then
  (some v5)
  else
  (bk_X3_joined_182   ))
def bk_X3_joined_91   (s0 : Int64) : Option (Int64) :=
  bk_X3_joined_164   s0
def bk_X3_joined_111   (s0 : Int64) : Option (Int64) :=
  bk_X3_joined_164   s0
def bk_X3_joined_127   (s0 : Int64) : Option (Int64) :=
  bk_X3_joined_164   s0
def bk_X3_joined_143   (s0 : Int64) : Option (Int64) :=
  bk_X3_joined_164   s0
def bk_X3_joined_159   (s0 : Int64) : Option (Int64) :=
  bk_X3_joined_164   s0
def f_X3_joined (p0 : Int32) (p1 : Int64) (p2 : Int64) : Option (Int64) :=
  if p0 = (5 : Int32) then
  (zlt (p1 + p2) fun x2 =>
  bk_X3_joined_164   x2)
  else
  (if p0 = (6 : Int32) then
  (zlt (p1 - p2) fun x3 =>
  bk_X3_joined_164   x3)
  else
  (if p0 = (7 : Int32) then
  (zlt (p1 * p2) fun x4 =>
  bk_X3_joined_164   x4)
  else
  (if p0 = (8 : Int32) then
  (if (lg_cmp p2 (0 : Int64)) = (0 : Int32) then
  (bk_X3_joined_91   (-9000000000000000000 : Int64))
  else
  (zgd (decide (¬ p2 = 0)) <|
  bk_X3_joined_91   (p1 / p2)))
  else
  (if p0 = (9 : Int32) then
  (if (lg_cmp p2 (0 : Int64)) = (0 : Int32) then
  (bk_X3_joined_111   (-9000000000000000000 : Int64))
  else
  (zgd (decide (¬ p2 = 0)) <|
  bk_X3_joined_111   (p1 - p1 / p2 * p2)))
  else
  (if p0 = (10 : Int32) then
  (if (0 : Int32) ≤ (lg_cmp p1 p2) then
  (bk_X3_joined_127   (0 : Int64))
  else
  (bk_X3_joined_127   (1 : Int64)))
  else
  (if p0 = (11 : Int32) then
  (if (lg_cmp p1 p2) ≤ (0 : Int32) then
  (bk_X3_joined_143   (0 : Int64))
  else
  (bk_X3_joined_143   (1 : Int64)))
  else
  (if p0 = (12 : Int32) then
  (if (lg_cmp p1 p2) = (0 : Int32) then
  (bk_X3_joined_159   (1 : Int64))
  else
  (bk_X3_joined_159   (0 : Int64)))
  else
  (bk_X3_joined_164   (-9000000000000000000 : Int64)))))))))
set_option maxHeartbeats 4000000 in
set_option maxRecDepth 100000 in
theorem m_X3_joined (l : Launch) (dC : Nat → ClassId) (dI : Nat → Nat → Nat) (sz : Nat)  (p0 : Int32) (p1 : Int64) (p2 : Int64) (y : Int64) (h : f_X3_joined p0 p1 p2 = some y) : CL l yX3_joined cX3_joined 7 (some .long) ({ frames := 0, cells := 0, slots := 0, locals := 0 } : Room) dC dI sz [.int p0, .long p1, .long p2] [] [] y [] := by
  refine CC_of (by decide) (Nat.le_of_ble_eq_true rfl) ?_
  intro p e s m below meth c A ls hx hb hml hr hlk hnm hown hts hX hK hP hD hA hl
  have hl : lv_has ls 7 [(0, .int p0), (1, .long p1), (3, .long p2)] := hl
  have hown : s.vm.findClass RX3 = some m.cls := hown
  have hw : Wd dC dI A s.heap [] s.heap [] := ⟨hP, hD, va_S.rf⟩
  generalize hQz : (MQ below (QL dC dI (fun r (_ : Unit) => r = y) (fun _ => Jn []) (fun _ => Jt []) A) ([.int p0, .long p1, .long p2] : List Value).toArray s 0 0 A) = Qz
  clear hP hD hnm
  have bk_182_1 : ∀  (H : Heap) (locs : List Loc) (ls : Array Slot), bk_X3_joined_182    = some y → Wd dC dI A s.heap [] H locs → lv_has ls 7 [] → W p l e ({ frames := 0, cells := 0, slots := 0, locals := 0 } : Room) s m ([.int p0, .long p1, .long p2] : List Value).toArray below meth c H locs 0 0 Qz (F0 m 182 ls []) := by
    intro  H locs ls h hw hl
    unfold bk_X3_joined_182 at h
    refine lv_ldc2 (v := (-9000000000000000000)) hx hb hown (hts _ kw563) dX3_joined_182 ?_
    refine lv_goto (tgt := 190) hx hb dX3_joined_185 (by decide) ?_
    have hy := Option.some.inj h
    rw [← hQz, ← hy]
    exact xr_l (v := (-9000000000000000000 : Int64)) hx hb hr hlk hK hw dX3_joined_190
  have bk_164_0 : ∀ (v5 : Int64) (H : Heap) (locs : List Loc) (ls : Array Slot), bk_X3_joined_164   v5 = some y → Wd dC dI A s.heap [] H locs → lv_has ls 7 [(5, .long v5)] → W p l e ({ frames := 0, cells := 0, slots := 0, locals := 0 } : Room) s m ([.int p0, .long p1, .long p2] : List Value).toArray below meth c H locs 0 0 Qz (F0 m 164 ls []) := by
    intro v5 H locs ls h hw hl
    unfold bk_X3_joined_164 at h
    refine lv_lload hx hb dX3_joined_164 (lv_at hl 0 rfl) ?_
    refine lv_ldc2 (v := 1000000000) hx hb hown (hts _ kw571) dX3_joined_166 ?_
    refine W.lcmp hx hb dX3_joined_169 ?_
    refine lv_if_gt (tgt := 182) hx hb dX3_joined_170 (by decide) (fun c => ?_) (fun c => ?_)
    · have h := z_t h c
      exact bk_182_1   _ _ _ h hw (lv_sub hl [] rfl)
    · have h := z_f h c
      refine lv_lload hx hb dX3_joined_173 (lv_at hl 0 rfl) ?_
      refine lv_ldc2 (v := (-1000000000)) hx hb hown (hts _ kw572) dX3_joined_175 ?_
      refine W.lcmp hx hb dX3_joined_178 ?_
      refine lv_if_ge (tgt := 188) hx hb dX3_joined_179 (by decide) (fun c => ?_) (fun c => ?_)
      · have h := z_t h c
        refine lv_lload hx hb dX3_joined_188 (lv_at hl 0 rfl) ?_
        have hy := Option.some.inj h
        rw [← hQz, ← hy]
        exact xr_l (v := v5) hx hb hr hlk hK hw dX3_joined_190
      · have h := z_f h c
        exact bk_182_1   _ _ _ h hw (lv_sub hl [] rfl)
  have bk_91_2 : ∀ (s0 : Int64) (H : Heap) (locs : List Loc) (ls : Array Slot), bk_X3_joined_91   s0 = some y → Wd dC dI A s.heap [] H locs → lv_has ls 7 [] → W p l e ({ frames := 0, cells := 0, slots := 0, locals := 0 } : Room) s m ([.int p0, .long p1, .long p2] : List Value).toArray below meth c H locs 0 0 Qz (F0 m 91 ls [.long s0]) := by
    intro s0 H locs ls h hw hl
    unfold bk_X3_joined_91 at h
    refine lv_lstore (lv' := [(5, .long s0)]) hx hb dX3_joined_91 hl (by decide) rfl (fun ls hl => ?_)
    refine lv_goto (tgt := 164) hx hb dX3_joined_93 (by decide) ?_
    exact bk_164_0  s0 _ _ _ h hw (lv_sub hl [0] rfl)
  have bk_111_3 : ∀ (s0 : Int64) (H : Heap) (locs : List Loc) (ls : Array Slot), bk_X3_joined_111   s0 = some y → Wd dC dI A s.heap [] H locs → lv_has ls 7 [] → W p l e ({ frames := 0, cells := 0, slots := 0, locals := 0 } : Room) s m ([.int p0, .long p1, .long p2] : List Value).toArray below meth c H locs 0 0 Qz (F0 m 111 ls [.long s0]) := by
    intro s0 H locs ls h hw hl
    unfold bk_X3_joined_111 at h
    refine lv_lstore (lv' := [(5, .long s0)]) hx hb dX3_joined_111 hl (by decide) rfl (fun ls hl => ?_)
    refine lv_goto (tgt := 164) hx hb dX3_joined_113 (by decide) ?_
    exact bk_164_0  s0 _ _ _ h hw (lv_sub hl [0] rfl)
  have bk_127_4 : ∀ (s0 : Int64) (H : Heap) (locs : List Loc) (ls : Array Slot), bk_X3_joined_127   s0 = some y → Wd dC dI A s.heap [] H locs → lv_has ls 7 [] → W p l e ({ frames := 0, cells := 0, slots := 0, locals := 0 } : Room) s m ([.int p0, .long p1, .long p2] : List Value).toArray below meth c H locs 0 0 Qz (F0 m 127 ls [.long s0]) := by
    intro s0 H locs ls h hw hl
    unfold bk_X3_joined_127 at h
    refine lv_lstore (lv' := [(5, .long s0)]) hx hb dX3_joined_127 hl (by decide) rfl (fun ls hl => ?_)
    refine lv_goto (tgt := 164) hx hb dX3_joined_129 (by decide) ?_
    exact bk_164_0  s0 _ _ _ h hw (lv_sub hl [0] rfl)
  have bk_143_5 : ∀ (s0 : Int64) (H : Heap) (locs : List Loc) (ls : Array Slot), bk_X3_joined_143   s0 = some y → Wd dC dI A s.heap [] H locs → lv_has ls 7 [] → W p l e ({ frames := 0, cells := 0, slots := 0, locals := 0 } : Room) s m ([.int p0, .long p1, .long p2] : List Value).toArray below meth c H locs 0 0 Qz (F0 m 143 ls [.long s0]) := by
    intro s0 H locs ls h hw hl
    unfold bk_X3_joined_143 at h
    refine lv_lstore (lv' := [(5, .long s0)]) hx hb dX3_joined_143 hl (by decide) rfl (fun ls hl => ?_)
    refine lv_goto (tgt := 164) hx hb dX3_joined_145 (by decide) ?_
    exact bk_164_0  s0 _ _ _ h hw (lv_sub hl [0] rfl)
  have bk_159_6 : ∀ (s0 : Int64) (H : Heap) (locs : List Loc) (ls : Array Slot), bk_X3_joined_159   s0 = some y → Wd dC dI A s.heap [] H locs → lv_has ls 7 [] → W p l e ({ frames := 0, cells := 0, slots := 0, locals := 0 } : Room) s m ([.int p0, .long p1, .long p2] : List Value).toArray below meth c H locs 0 0 Qz (F0 m 159 ls [.long s0]) := by
    intro s0 H locs ls h hw hl
    unfold bk_X3_joined_159 at h
    refine lv_lstore (lv' := [(5, .long s0)]) hx hb dX3_joined_159 hl (by decide) rfl (fun ls hl => ?_)
    refine lv_goto (tgt := 164) hx hb dX3_joined_161 (by decide) ?_
    exact bk_164_0  s0 _ _ _ h hw (lv_sub hl [0] rfl)
  unfold f_X3_joined at h
  refine lv_ldc2 (v := (-9000000000000000000)) hx hb hown (hts _ kw563) dX3_joined_0 ?_
  refine lv_lstore (lv' := [(5, .long (-9000000000000000000 : Int64)), (0, .int p0), (1, .long p1), (3, .long p2)]) hx hb dX3_joined_3 hl (by decide) rfl (fun ls hl => ?_)
  refine lv_iload_n hx hb dX3_joined_5 rfl (lv_at hl 1 rfl) ?_
  rcases (show p0.toInt = 5 ∨ p0.toInt = 6 ∨ p0.toInt = 7 ∨ p0.toInt = 8 ∨ p0.toInt = 9 ∨ p0.toInt = 10 ∨ p0.toInt = 11 ∨ p0.toInt = 12 ∨ (p0.toInt < 5 ∨ 12 < p0.toInt) by omega) with c1 | c1 | c1 | c1 | c1 | c1 | c1 | c1 | c1
  · skip
    have ec1 : p0 = (5 : Int32) := Int32.toInt_inj.mp (c1.trans (by decide))
    have h := z_t h ec1
    refine lv_fi (v := 5) ec1 ?_
    refine lv_tableIn (tgt := 52) hx hb dX3_joined_6 (by decide) (by decide) rfl (by decide) ?_
    refine lv_lload_n hx hb dX3_joined_52 rfl (lv_at hl 2 rfl) ?_
    refine lv_lload_n hx hb dX3_joined_53 rfl (lv_at hl 3 rfl) ?_
    refine lv_ladd hx hb dX3_joined_54 ?_
    obtain ⟨x2, ex2, h⟩ := z_lt h
    refine lv_fl (v := x2) ex2.symm ?_
    refine lv_lstore (lv' := [(5, .long x2), (0, .int p0), (1, .long p1), (3, .long p2)]) hx hb dX3_joined_55 hl (by decide) rfl (fun ls hl => ?_)
    refine lv_goto (tgt := 164) hx hb dX3_joined_57 (by decide) ?_
    exact bk_164_0  x2 _ _ _ h hw (lv_sub hl [0] rfl)
  · skip
    have h := z_f h (fun e9 => by rw [e9] at c1; revert c1; decide)
    have ec1 : p0 = (6 : Int32) := Int32.toInt_inj.mp (c1.trans (by decide))
    have h := z_t h ec1
    refine lv_fi (v := 6) ec1 ?_
    refine lv_tableIn (tgt := 60) hx hb dX3_joined_6 (by decide) (by decide) rfl (by decide) ?_
    refine lv_lload_n hx hb dX3_joined_60 rfl (lv_at hl 2 rfl) ?_
    refine lv_lload_n hx hb dX3_joined_61 rfl (lv_at hl 3 rfl) ?_
    refine lv_lsub hx hb dX3_joined_62 ?_
    obtain ⟨x3, ex3, h⟩ := z_lt h
    refine lv_fl (v := x3) ex3.symm ?_
    refine lv_lstore (lv' := [(5, .long x3), (0, .int p0), (1, .long p1), (3, .long p2)]) hx hb dX3_joined_63 hl (by decide) rfl (fun ls hl => ?_)
    refine lv_goto (tgt := 164) hx hb dX3_joined_65 (by decide) ?_
    exact bk_164_0  x3 _ _ _ h hw (lv_sub hl [0] rfl)
  · skip
    have h := z_f h (fun e9 => by rw [e9] at c1; revert c1; decide)
    have h := z_f h (fun e9 => by rw [e9] at c1; revert c1; decide)
    have ec1 : p0 = (7 : Int32) := Int32.toInt_inj.mp (c1.trans (by decide))
    have h := z_t h ec1
    refine lv_fi (v := 7) ec1 ?_
    refine lv_tableIn (tgt := 68) hx hb dX3_joined_6 (by decide) (by decide) rfl (by decide) ?_
    refine lv_lload_n hx hb dX3_joined_68 rfl (lv_at hl 2 rfl) ?_
    refine lv_lload_n hx hb dX3_joined_69 rfl (lv_at hl 3 rfl) ?_
    refine lv_lmul hx hb dX3_joined_70 ?_
    obtain ⟨x4, ex4, h⟩ := z_lt h
    refine lv_fl (v := x4) ex4.symm ?_
    refine lv_lstore (lv' := [(5, .long x4), (0, .int p0), (1, .long p1), (3, .long p2)]) hx hb dX3_joined_71 hl (by decide) rfl (fun ls hl => ?_)
    refine lv_goto (tgt := 164) hx hb dX3_joined_73 (by decide) ?_
    exact bk_164_0  x4 _ _ _ h hw (lv_sub hl [0] rfl)
  · skip
    have h := z_f h (fun e9 => by rw [e9] at c1; revert c1; decide)
    have h := z_f h (fun e9 => by rw [e9] at c1; revert c1; decide)
    have h := z_f h (fun e9 => by rw [e9] at c1; revert c1; decide)
    have ec1 : p0 = (8 : Int32) := Int32.toInt_inj.mp (c1.trans (by decide))
    have h := z_t h ec1
    refine lv_fi (v := 8) ec1 ?_
    refine lv_tableIn (tgt := 76) hx hb dX3_joined_6 (by decide) (by decide) rfl (by decide) ?_
    refine lv_lload_n hx hb dX3_joined_76 rfl (lv_at hl 3 rfl) ?_
    refine lv_lconst (v := 0) hx hb dX3_joined_77 (by decide) ?_
    refine W.lcmp hx hb dX3_joined_78 ?_
    refine lv_if_ne (tgt := 88) hx hb dX3_joined_79 (by decide) (fun c => ?_) (fun c => ?_)
    · have h := z_f h c
      refine lv_lload_n hx hb dX3_joined_88 rfl (lv_at hl 2 rfl) ?_
      refine lv_lload_n hx hb dX3_joined_89 rfl (lv_at hl 3 rfl) ?_
      obtain ⟨g5, h⟩ := z_gd h
      refine lv_ldiv hx hb dX3_joined_90 (of_decide_eq_true g5) ?_
      exact bk_91_2  (p1 / p2) _ _ _ h hw (lv_sub hl [] rfl)
    · have h := z_t h c
      refine lv_ldc2 (v := (-9000000000000000000)) hx hb hown (hts _ kw563) dX3_joined_82 ?_
      refine lv_goto (tgt := 91) hx hb dX3_joined_85 (by decide) ?_
      exact bk_91_2  (-9000000000000000000 : Int64) _ _ _ h hw (lv_sub hl [] rfl)
  · skip
    have h := z_f h (fun e9 => by rw [e9] at c1; revert c1; decide)
    have h := z_f h (fun e9 => by rw [e9] at c1; revert c1; decide)
    have h := z_f h (fun e9 => by rw [e9] at c1; revert c1; decide)
    have h := z_f h (fun e9 => by rw [e9] at c1; revert c1; decide)
    have ec1 : p0 = (9 : Int32) := Int32.toInt_inj.mp (c1.trans (by decide))
    have h := z_t h ec1
    refine lv_fi (v := 9) ec1 ?_
    refine lv_tableIn (tgt := 96) hx hb dX3_joined_6 (by decide) (by decide) rfl (by decide) ?_
    refine lv_lload_n hx hb dX3_joined_96 rfl (lv_at hl 3 rfl) ?_
    refine lv_lconst (v := 0) hx hb dX3_joined_97 (by decide) ?_
    refine W.lcmp hx hb dX3_joined_98 ?_
    refine lv_if_ne (tgt := 108) hx hb dX3_joined_99 (by decide) (fun c => ?_) (fun c => ?_)
    · have h := z_f h c
      refine lv_lload_n hx hb dX3_joined_108 rfl (lv_at hl 2 rfl) ?_
      refine lv_lload_n hx hb dX3_joined_109 rfl (lv_at hl 3 rfl) ?_
      obtain ⟨g6, h⟩ := z_gd h
      refine lv_lrem hx hb dX3_joined_110 (of_decide_eq_true g6) ?_
      exact bk_111_3  (p1 - p1 / p2 * p2) _ _ _ h hw (lv_sub hl [] rfl)
    · have h := z_t h c
      refine lv_ldc2 (v := (-9000000000000000000)) hx hb hown (hts _ kw563) dX3_joined_102 ?_
      refine lv_goto (tgt := 111) hx hb dX3_joined_105 (by decide) ?_
      exact bk_111_3  (-9000000000000000000 : Int64) _ _ _ h hw (lv_sub hl [] rfl)
  · skip
    have h := z_f h (fun e9 => by rw [e9] at c1; revert c1; decide)
    have h := z_f h (fun e9 => by rw [e9] at c1; revert c1; decide)
    have h := z_f h (fun e9 => by rw [e9] at c1; revert c1; decide)
    have h := z_f h (fun e9 => by rw [e9] at c1; revert c1; decide)
    have h := z_f h (fun e9 => by rw [e9] at c1; revert c1; decide)
    have ec1 : p0 = (10 : Int32) := Int32.toInt_inj.mp (c1.trans (by decide))
    have h := z_t h ec1
    refine lv_fi (v := 10) ec1 ?_
    refine lv_tableIn (tgt := 116) hx hb dX3_joined_6 (by decide) (by decide) rfl (by decide) ?_
    refine lv_lload_n hx hb dX3_joined_116 rfl (lv_at hl 2 rfl) ?_
    refine lv_lload_n hx hb dX3_joined_117 rfl (lv_at hl 3 rfl) ?_
    refine W.lcmp hx hb dX3_joined_118 ?_
    refine lv_if_ge (tgt := 126) hx hb dX3_joined_119 (by decide) (fun c => ?_) (fun c => ?_)
    · have h := z_t h c
      refine lv_lconst (v := 0) hx hb dX3_joined_126 (by decide) ?_
      exact bk_127_4  (0 : Int64) _ _ _ h hw (lv_sub hl [] rfl)
    · have h := z_f h c
      refine lv_lconst (v := 1) hx hb dX3_joined_122 (by decide) ?_
      refine lv_goto (tgt := 127) hx hb dX3_joined_123 (by decide) ?_
      exact bk_127_4  (1 : Int64) _ _ _ h hw (lv_sub hl [] rfl)
  · skip
    have h := z_f h (fun e9 => by rw [e9] at c1; revert c1; decide)
    have h := z_f h (fun e9 => by rw [e9] at c1; revert c1; decide)
    have h := z_f h (fun e9 => by rw [e9] at c1; revert c1; decide)
    have h := z_f h (fun e9 => by rw [e9] at c1; revert c1; decide)
    have h := z_f h (fun e9 => by rw [e9] at c1; revert c1; decide)
    have h := z_f h (fun e9 => by rw [e9] at c1; revert c1; decide)
    have ec1 : p0 = (11 : Int32) := Int32.toInt_inj.mp (c1.trans (by decide))
    have h := z_t h ec1
    refine lv_fi (v := 11) ec1 ?_
    refine lv_tableIn (tgt := 132) hx hb dX3_joined_6 (by decide) (by decide) rfl (by decide) ?_
    refine lv_lload_n hx hb dX3_joined_132 rfl (lv_at hl 2 rfl) ?_
    refine lv_lload_n hx hb dX3_joined_133 rfl (lv_at hl 3 rfl) ?_
    refine W.lcmp hx hb dX3_joined_134 ?_
    refine lv_if_le (tgt := 142) hx hb dX3_joined_135 (by decide) (fun c => ?_) (fun c => ?_)
    · have h := z_t h c
      refine lv_lconst (v := 0) hx hb dX3_joined_142 (by decide) ?_
      exact bk_143_5  (0 : Int64) _ _ _ h hw (lv_sub hl [] rfl)
    · have h := z_f h c
      refine lv_lconst (v := 1) hx hb dX3_joined_138 (by decide) ?_
      refine lv_goto (tgt := 143) hx hb dX3_joined_139 (by decide) ?_
      exact bk_143_5  (1 : Int64) _ _ _ h hw (lv_sub hl [] rfl)
  · skip
    have h := z_f h (fun e9 => by rw [e9] at c1; revert c1; decide)
    have h := z_f h (fun e9 => by rw [e9] at c1; revert c1; decide)
    have h := z_f h (fun e9 => by rw [e9] at c1; revert c1; decide)
    have h := z_f h (fun e9 => by rw [e9] at c1; revert c1; decide)
    have h := z_f h (fun e9 => by rw [e9] at c1; revert c1; decide)
    have h := z_f h (fun e9 => by rw [e9] at c1; revert c1; decide)
    have h := z_f h (fun e9 => by rw [e9] at c1; revert c1; decide)
    have ec1 : p0 = (12 : Int32) := Int32.toInt_inj.mp (c1.trans (by decide))
    have h := z_t h ec1
    refine lv_fi (v := 12) ec1 ?_
    refine lv_tableIn (tgt := 148) hx hb dX3_joined_6 (by decide) (by decide) rfl (by decide) ?_
    refine lv_lload_n hx hb dX3_joined_148 rfl (lv_at hl 2 rfl) ?_
    refine lv_lload_n hx hb dX3_joined_149 rfl (lv_at hl 3 rfl) ?_
    refine W.lcmp hx hb dX3_joined_150 ?_
    refine lv_if_ne (tgt := 158) hx hb dX3_joined_151 (by decide) (fun c => ?_) (fun c => ?_)
    · have h := z_f h c
      refine lv_lconst (v := 0) hx hb dX3_joined_158 (by decide) ?_
      exact bk_159_6  (0 : Int64) _ _ _ h hw (lv_sub hl [] rfl)
    · have h := z_t h c
      refine lv_lconst (v := 1) hx hb dX3_joined_154 (by decide) ?_
      refine lv_goto (tgt := 159) hx hb dX3_joined_155 (by decide) ?_
      exact bk_159_6  (1 : Int64) _ _ _ h hw (lv_sub hl [] rfl)
  · skip
    have h := z_f h (fun e9 => by rw [e9] at c1; revert c1; decide)
    have h := z_f h (fun e9 => by rw [e9] at c1; revert c1; decide)
    have h := z_f h (fun e9 => by rw [e9] at c1; revert c1; decide)
    have h := z_f h (fun e9 => by rw [e9] at c1; revert c1; decide)
    have h := z_f h (fun e9 => by rw [e9] at c1; revert c1; decide)
    have h := z_f h (fun e9 => by rw [e9] at c1; revert c1; decide)
    have h := z_f h (fun e9 => by rw [e9] at c1; revert c1; decide)
    have h := z_f h (fun e9 => by rw [e9] at c1; revert c1; decide)
    refine lv_tableOut (tgt := 164) hx hb dX3_joined_6 c1 (by decide) ?_
    exact bk_164_0  (-9000000000000000000 : Int64) _ _ _ h hw (lv_sub hl [0] rfl)

def bk_X3_worth_O_287 (nc_a0 : Nat) (ns_a0 : Nat) (o_a0 : Ob)  (v4 : Int32) (o_me : Ob) : Option (Int64 × Ob) :=
  if v4 = (1 : Int32) then
  (some (gM o_me 1 (0 : Int32).toNatClampNeg, o_me))
  else
  (some ((-9000000000000000000 : Int64), o_me))
def bk_X3_worth_O_281 (nc_a0 : Nat) (ns_a0 : Nat) (o_a0 : Ob) (rec_30_0 : Int32 × Int32 × Int32 × Int32 × Int32 × Ob → Option (Int64 × Ob)) (v3 : Int32) (v4 : Int32) (v5 : Int32) (v6 : Int32) (v7 : Int32) (o_me : Ob) : Option (Int64 × Ob) :=
  zlt (v7 + (1 : Int32)) fun x12 =>
  rec_30_0 (v3, v4, v5, v6, x12, o_me)
def bk_X3_worth_O_112 (nc_a0 : Nat) (ns_a0 : Nat) (o_a0 : Ob) (rec_30_0 : Int32 × Int32 × Int32 × Int32 × Int32 × Ob → Option (Int64 × Ob)) (v3 : Int32) (v4 : Int32) (v5 : Int32) (v6 : Int32) (v7 : Int32) (s0 : Int64) (s1 : Int32) (o_me : Ob) : Option (Int64 × Ob) :=
  zgd (zin s1 50) <|
  zlt (tM o_me 1 s1.toNatClampNeg s0) fun o10 =>
  zlt (v4 + (1 : Int32)) fun x11 =>
  bk_X3_worth_O_281 nc_a0 ns_a0 o_a0 rec_30_0 v3 x11 v5 v6 v7 o10
def bk_X3_worth_O_75 (nc_a0 : Nat) (ns_a0 : Nat) (o_a0 : Ob) (rec_30_0 : Int32 × Int32 × Int32 × Int32 × Int32 × Ob → Option (Int64 × Ob)) (v3 : Int32) (v4 : Int32) (v5 : Int32) (v6 : Int32) (v7 : Int32) (v8 : Int32) (v9 : Int32) (o_me : Ob) : Option (Int64 × Ob) :=
  if v4 < (50 : Int32) then
  (if v8 = (0 : Int32) then
  (bk_X3_worth_O_112 nc_a0 ns_a0 o_a0 rec_30_0 v3 v4 v5 v6 v7 v9.toInt64 v4 o_me)
  else
  ((f_X3_wordWorth o_me v9).bind fun z8 =>
  bk_X3_worth_O_112 nc_a0 ns_a0 o_a0 rec_30_0 v3 v4 v5 v6 v7 z8 v4 o_me))
  else
  (some ((-9000000000000000000 : Int64), o_me))
def bk_X3_worth_O_215 (nc_a0 : Nat) (ns_a0 : Nat) (o_a0 : Ob) (rec_30_0 : Int32 × Int32 × Int32 × Int32 × Int32 × Ob → Option (Int64 × Ob)) (v3 : Int32) (v4 : Int32) (v5 : Int32) (v6 : Int32) (v7 : Int32) (o_me : Ob) : Option (Int64 × Ob) :=
  bk_X3_worth_O_281 nc_a0 ns_a0 o_a0 rec_30_0 v3 v4 v5 v6 v7 o_me
def bk_X3_worth_O_197 (nc_a0 : Nat) (ns_a0 : Nat) (o_a0 : Ob) (rec_30_0 : Int32 × Int32 × Int32 × Int32 × Int32 × Ob → Option (Int64 × Ob)) (v3 : Int32) (v4 : Int32) (v5 : Int32) (v6 : Int32) (v7 : Int32) (v9 : Int32) (s0 : Int32) (s1 : Int32) (o_me : Ob) : Option (Int64 × Ob) :=
  if s1 = s0 then
  (zlt (if v5 < v9 then v9 else v5) fun x22 =>
  bk_X3_worth_O_215 nc_a0 ns_a0 o_a0 rec_30_0 v3 v4 x22 v6 v7 o_me)
  else
  (zlt (v4 + (-1 : Int32)) fun x21 =>
  bk_X3_worth_O_215 nc_a0 ns_a0 o_a0 rec_30_0 v3 x21 v5 v6 v7 o_me)
def bk_X3_worth_O_180 (nc_a0 : Nat) (ns_a0 : Nat) (o_a0 : Ob) (rec_30_0 : Int32 × Int32 × Int32 × Int32 × Int32 × Ob → Option (Int64 × Ob)) (v3 : Int32) (v4 : Int32) (v5 : Int32) (v6 : Int32) (v7 : Int32) (s0 : Int64) (s1 : Int32) (o_me : Ob) : Option (Int64 × Ob) :=
  zgd (zin s1 50) <|
  zlt (tM o_me 1 s1.toNatClampNeg s0) fun o24 =>
  bk_X3_worth_O_215 nc_a0 ns_a0 o_a0 rec_30_0 v3 v4 v5 v6 v7 o24
def bk_X3_worth_O_154 (nc_a0 : Nat) (ns_a0 : Nat) (o_a0 : Ob) (rec_30_0 : Int32 × Int32 × Int32 × Int32 × Int32 × Ob → Option (Int64 × Ob)) (v3 : Int32) (v4 : Int32) (v5 : Int32) (v6 : Int32) (v7 : Int32) (v8 : Int32) (v9 : Int32) (s0 : Int32) (o_me : Ob) : Option (Int64 × Ob) :=
  if v8 = (2 : Int32) then
  (if s0 = (0 : Int32) then
  (bk_X3_worth_O_180 nc_a0 ns_a0 o_a0 rec_30_0 v3 v4 v5 v6 v7 (1 : Int64) (v4 - (1 : Int32)) o_me)
  else
  (bk_X3_worth_O_180 nc_a0 ns_a0 o_a0 rec_30_0 v3 v4 v5 v6 v7 (0 : Int64) (v4 - (1 : Int32)) o_me))
  else
  (if v8 = (4 : Int32) then
  (bk_X3_worth_O_197 nc_a0 ns_a0 o_a0 rec_30_0 v3 v4 v5 v6 v7 v9 (1 : Int32) s0 o_me)
  else
  (bk_X3_worth_O_197 nc_a0 ns_a0 o_a0 rec_30_0 v3 v4 v5 v6 v7 v9 (0 : Int32) s0 o_me))
def lb_X3_worth_O_30 (nc_a0 : Nat) (ns_a0 : Nat) (o_a0 : Ob)  (rec_30_0 : Int32 × Int32 × Int32 × Int32 × Int32 × Ob → Option (Int64 × Ob)) (v3 : Int32) (v4 : Int32) (v5 : Int32) (v6 : Int32) (v7 : Int32) (o_me : Ob) : Option (Int64 × Ob) :=
  if v3 ≤ v7 then
  (bk_X3_worth_O_287 nc_a0 ns_a0 o_a0  v4 o_me)
  else
  (if v6 ≤ v5 then
  (bk_X3_worth_O_287 nc_a0 ns_a0 o_a0  v4 o_me)
  else
  (zgd (zin v5 ns_a0) <|
  zlt (gA o_a0 5 v5.toNatClampNeg) fun x4 =>
  zgd (zin v5 ns_a0) <|
  zlt (gA o_a0 6 v5.toNatClampNeg) fun x6 =>
  zlt (v5 + (1 : Int32)) fun x7 =>
  if x4 = (0 : Int32) then
  (bk_X3_worth_O_75 nc_a0 ns_a0 o_a0 rec_30_0 v3 v4 x7 v6 v7 x4 x6 o_me)
  else
  (if x4 = (1 : Int32) then
  (bk_X3_worth_O_75 nc_a0 ns_a0 o_a0 rec_30_0 v3 v4 x7 v6 v7 x4 x6 o_me)
  else
  (if (4 : Int32) < x4 then
  (if (2 : Int32) ≤ v4 then
  (zlt (v4 + (-1 : Int32)) fun x13 =>
  zgd (zin (x13 - (1 : Int32)) 50) <|
  zgd (zin x13 50) <|
  (f_X3_joined x4 (gM o_me 1 (x13 - (1 : Int32)).toNatClampNeg) (gM o_me 1 x13.toNatClampNeg)).bind fun z16 =>
  zgd (zin (x13 - (1 : Int32)) 50) <|
  zlt (tM o_me 1 (x13 - (1 : Int32)).toNatClampNeg z16) fun o18 =>
  zgd (zin (x13 - (1 : Int32)) 50) <|
  if (lg_cmp (gM o18 1 (x13 - (1 : Int32)).toNatClampNeg) (-9000000000000000000 : Int64)) = (0 : Int32) then
  (some ((-9000000000000000000 : Int64), o18))
  else
  (bk_X3_worth_O_281 nc_a0 ns_a0 o_a0 rec_30_0 v3 x13 x7 v6 v7 o18))
  else
  (some ((-9000000000000000000 : Int64), o_me)))
  else
  (if (1 : Int32) ≤ v4 then
  (zgd (zin (v4 - (1 : Int32)) 50) <|
  if (lg_cmp (gM o_me 1 (v4 - (1 : Int32)).toNatClampNeg) (1 : Int64)) = (0 : Int32) then
  (bk_X3_worth_O_154 nc_a0 ns_a0 o_a0 rec_30_0 v3 v4 x7 v6 v7 x4 x6 (1 : Int32) o_me)
  else
  (bk_X3_worth_O_154 nc_a0 ns_a0 o_a0 rec_30_0 v3 v4 x7 v6 v7 x4 x6 (0 : Int32) o_me))
  else
  (some ((-9000000000000000000 : Int64), o_me)))))))
def lp_X3_worth_O_30 (nc_a0 : Nat) (ns_a0 : Nat) (o_a0 : Ob)  : Nat → (Int32 × Int32 × Int32 × Int32 × Int32 × Ob) → Option (Int64 × Ob) := zit (fun rec a => lb_X3_worth_O_30 nc_a0 ns_a0 o_a0  rec a.1 a.2.1 a.2.2.1 a.2.2.2.1 a.2.2.2.2.1 a.2.2.2.2.2)
def f_X3_worth_O (nc_a0 : Nat) (ns_a0 : Nat) (o_me : Ob) (o_a0 : Ob) (p1 : Int32) (p2 : Int32) : Option (Int64 × Ob) :=
  if p1 < p2 then
  (zlt (if (0 : Int32) < p1 then p1 else (0 : Int32)) fun x1 =>
  zlt (if (gI o_a0 8) < p2 then (gI o_a0 8) else p2) fun x2 =>
  lp_X3_worth_O_30 nc_a0 ns_a0 o_a0  zfu (p2, (0 : Int32), x1, x2, p1, o_me))
  else
  (some ((1 : Int64), o_me))
set_option maxHeartbeats 4000000 in
set_option maxRecDepth 100000 in
theorem m_X3_worth_O (l : Launch) (dC : Nat → ClassId) (dI : Nat → Nat → Nat) (sz : Nat) (h_me : Nat) (h_a0 : Nat) (q_me : Nat → Nat) (k_me : Nat → ClassId) (q_a0 : Nat → Nat) (k_a0 : Nat → ClassId) (nc_a0 : Nat) (ns_a0 : Nat) (o_me : Ob) (o_a0 : Ob) (p1 : Int32) (p2 : Int32) (y : Int64 × Ob) (h : f_X3_worth_O nc_a0 ns_a0 o_me o_a0 p1 p2 = some y) : CL l yX3_worth cX3_worth 11 (some .long) ({ frames := 1, cells := 0, slots := 0, locals := 26 } : Room) dC dI sz [.ref h_me, .ref h_a0, .int p1, .int p2] [wX3 h_me q_me k_me o_me, wX0 h_a0 nc_a0 ns_a0 q_a0 k_a0 o_a0] [tX3 k_me, tX0 k_a0] y.1 [wX3 h_me q_me k_me y.2, wX0 h_a0 nc_a0 ns_a0 q_a0 k_a0 o_a0] := by
  refine CC_of (by decide) (Nat.le_of_ble_eq_true rfl) ?_
  intro p e s m below meth c A ls hx hb hml hr hlk hnm hown hts hX hK hP hD hA hl
  have hl : lv_has ls 11 [(0, .ref h_me), (1, .ref h_a0), (2, .int p1), (3, .int p2)] := hl
  have hown : s.vm.findClass RX3 = some m.cls := hown
  have hw : Wd dC dI A s.heap [wX3 h_me q_me k_me o_me, wX0 h_a0 nc_a0 ns_a0 q_a0 k_a0 o_a0] s.heap [] := ⟨hP, hD, va_S.rf⟩
  generalize hQz : (MQ below (QL dC dI (fun r (_ : Unit) => r = y.1) (fun _ => Jn [wX3 h_me q_me k_me y.2, wX0 h_a0 nc_a0 ns_a0 q_a0 k_a0 o_a0]) (fun _ => Jt [tX3 k_me, tX0 k_a0]) A) ([.ref h_me, .ref h_a0, .int p1, .int p2] : List Value).toArray s 0 0 A) = Qz
  clear hP hD hnm
  have bk_287_1 : ∀ (v4 : Int32) (o_me : Ob) (H : Heap) (locs : List Loc) (ls : Array Slot), bk_X3_worth_O_287 nc_a0 ns_a0 o_a0  v4 o_me = some y → Wd dC dI A s.heap [wX3 h_me q_me k_me o_me, wX0 h_a0 nc_a0 ns_a0 q_a0 k_a0 o_a0] H locs → lv_has ls 11 [(0, .ref h_me), (4, .int v4)] → W p l e ({ frames := 1, cells := 0, slots := 0, locals := 26 } : Room) s m ([.ref h_me, .ref h_a0, .int p1, .int p2] : List Value).toArray below meth c H locs 0 0 Qz (F0 m 287 ls []) := by
    intro v4 o_me H locs ls h hw hl
    unfold bk_X3_worth_O_287 at h
    refine lv_iload hx hb dX3_worth_287 (lv_at hl 1 rfl) ?_
    refine lv_iconst (v := 1) hx hb dX3_worth_289 (by decide) ?_
    refine lv_icmp_ne (tgt := 302) hx hb dX3_worth_290 (by decide) (fun c => ?_) (fun c => ?_)
    · have h := z_f h c
      refine lv_ldc2 (v := (-9000000000000000000)) hx hb hown (hts _ kw563) dX3_worth_302 ?_
      have hy := Option.some.inj h
      rw [← hQz, ← hy]
      exact xr_l (v := (-9000000000000000000 : Int64)) hx hb hr hlk hK hw dX3_worth_305
    · have h := z_t h c
      refine lv_aload_n hx hb dX3_worth_293 rfl (lv_at hl 0 rfl) ?_
      refine fgX3_1 hx hb hts hown hK hw 0 rfl kw242 dX3_worth_294 ?_
      refine lv_iconst (v := 0) hx hb dX3_worth_297 (by decide) ?_
      refine faX3_1 hx hb hK hw 0 rfl rfl (by decide) dX3_worth_298 ?_
      refine lv_goto (tgt := 305) hx hb dX3_worth_299 (by decide) ?_
      have hy := Option.some.inj h
      rw [← hQz, ← hy]
      exact xr_l (v := gM o_me 1 (0 : Int32).toNatClampNeg) hx hb hr hlk hK hw dX3_worth_305
  have bk_281_4 : ∀ (rec_30_0 : Int32 × Int32 × Int32 × Int32 × Int32 × Ob → Option (Int64 × Ob)) (hrec_30_0 : ∀ (v3 : Int32) (v4 : Int32) (v5 : Int32) (v6 : Int32) (v7 : Int32) (o_me : Ob) (H : Heap) (locs : List Loc) (ls : Array Slot), rec_30_0 (v3, v4, v5, v6, v7, o_me) = some y → Wd dC dI A s.heap [wX3 h_me q_me k_me o_me, wX0 h_a0 nc_a0 ns_a0 q_a0 k_a0 o_a0] H locs → lv_has ls 11 [(0, .ref h_me), (1, .ref h_a0), (3, .int v3), (4, .int v4), (5, .int v5), (6, .int v6), (7, .int v7)] → W p l e ({ frames := 1, cells := 0, slots := 0, locals := 26 } : Room) s m ([.ref h_me, .ref h_a0, .int p1, .int p2] : List Value).toArray below meth c H locs 0 0 Qz (F0 m 30 ls [])), ∀ (v3 : Int32) (v4 : Int32) (v5 : Int32) (v6 : Int32) (v7 : Int32) (o_me : Ob) (H : Heap) (locs : List Loc) (ls : Array Slot), bk_X3_worth_O_281 nc_a0 ns_a0 o_a0 rec_30_0 v3 v4 v5 v6 v7 o_me = some y → Wd dC dI A s.heap [wX3 h_me q_me k_me o_me, wX0 h_a0 nc_a0 ns_a0 q_a0 k_a0 o_a0] H locs → lv_has ls 11 [(0, .ref h_me), (1, .ref h_a0), (3, .int v3), (4, .int v4), (5, .int v5), (6, .int v6), (7, .int v7)] → W p l e ({ frames := 1, cells := 0, slots := 0, locals := 26 } : Room) s m ([.ref h_me, .ref h_a0, .int p1, .int p2] : List Value).toArray below meth c H locs 0 0 Qz (F0 m 281 ls []) := by
    intro rec_30_0 hrec_30_0
    intro v3 v4 v5 v6 v7 o_me H locs ls h hw hl
    unfold bk_X3_worth_O_281 at h
    obtain ⟨x12, ex12, h⟩ := z_lt h
    refine lv_iinc (v := x12) (lv' := [(7, .int x12), (0, .ref h_me), (1, .ref h_a0), (3, .int v3), (4, .int v4), (5, .int v5), (6, .int v6)]) hx hb dX3_worth_281 hl (k := 6) rfl ((congrArg (v7 + ·) (show Int32.ofInt 1 = (1 : Int32) from by decide)).trans ex12.symm) (by decide) rfl (fun ls hl => ?_)
    refine lv_goto (tgt := 30) hx hb dX3_worth_284 (by decide) ?_
    exact hrec_30_0 v3 v4 v5 v6 x12 o_me _ _ _ h hw (lv_sub hl [1, 2, 3, 4, 5, 6, 0] rfl)
  have bk_112_3 : ∀ (rec_30_0 : Int32 × Int32 × Int32 × Int32 × Int32 × Ob → Option (Int64 × Ob)) (hrec_30_0 : ∀ (v3 : Int32) (v4 : Int32) (v5 : Int32) (v6 : Int32) (v7 : Int32) (o_me : Ob) (H : Heap) (locs : List Loc) (ls : Array Slot), rec_30_0 (v3, v4, v5, v6, v7, o_me) = some y → Wd dC dI A s.heap [wX3 h_me q_me k_me o_me, wX0 h_a0 nc_a0 ns_a0 q_a0 k_a0 o_a0] H locs → lv_has ls 11 [(0, .ref h_me), (1, .ref h_a0), (3, .int v3), (4, .int v4), (5, .int v5), (6, .int v6), (7, .int v7)] → W p l e ({ frames := 1, cells := 0, slots := 0, locals := 26 } : Room) s m ([.ref h_me, .ref h_a0, .int p1, .int p2] : List Value).toArray below meth c H locs 0 0 Qz (F0 m 30 ls [])), ∀ (v3 : Int32) (v4 : Int32) (v5 : Int32) (v6 : Int32) (v7 : Int32) (s0 : Int64) (s1 : Int32) (o_me : Ob) (H : Heap) (locs : List Loc) (ls : Array Slot), bk_X3_worth_O_112 nc_a0 ns_a0 o_a0 rec_30_0 v3 v4 v5 v6 v7 s0 s1 o_me = some y → Wd dC dI A s.heap [wX3 h_me q_me k_me o_me, wX0 h_a0 nc_a0 ns_a0 q_a0 k_a0 o_a0] H locs → lv_has ls 11 [(0, .ref h_me), (1, .ref h_a0), (3, .int v3), (4, .int v4), (5, .int v5), (6, .int v6), (7, .int v7)] → W p l e ({ frames := 1, cells := 0, slots := 0, locals := 26 } : Room) s m ([.ref h_me, .ref h_a0, .int p1, .int p2] : List Value).toArray below meth c H locs 0 0 Qz (F0 m 112 ls [.long s0, .int s1, .ref (q_me 1)]) := by
    intro rec_30_0 hrec_30_0
    intro v3 v4 v5 v6 v7 s0 s1 o_me H locs ls h hw hl
    unfold bk_X3_worth_O_112 at h
    obtain ⟨g9, h⟩ := z_gd h
    refine fbX3_1 hx hb hK hw 0 rfl rfl g9 dX3_worth_112 (fun H locs hw => ?_)
    obtain ⟨o10, eo10, h⟩ := z_lt h
    have hw : Wd dC dI A s.heap [wX3 h_me q_me k_me o10, wX0 h_a0 nc_a0 ns_a0 q_a0 k_a0 o_a0] H locs := by rw [eo10]; exact hw
    obtain ⟨x11, ex11, h⟩ := z_lt h
    refine lv_iinc (v := x11) (lv' := [(4, .int x11), (0, .ref h_me), (1, .ref h_a0), (3, .int v3), (5, .int v5), (6, .int v6), (7, .int v7)]) hx hb dX3_worth_113 hl (k := 3) rfl ((congrArg (v4 + ·) (show Int32.ofInt 1 = (1 : Int32) from by decide)).trans ex11.symm) (by decide) rfl (fun ls hl => ?_)
    refine lv_goto (tgt := 281) hx hb dX3_worth_116 (by decide) ?_
    exact bk_281_4 rec_30_0 hrec_30_0 v3 x11 v5 v6 v7 o10 _ _ _ h hw (lv_sub hl [1, 2, 3, 0, 4, 5, 6] rfl)
  have bk_75_2 : ∀ (rec_30_0 : Int32 × Int32 × Int32 × Int32 × Int32 × Ob → Option (Int64 × Ob)) (hrec_30_0 : ∀ (v3 : Int32) (v4 : Int32) (v5 : Int32) (v6 : Int32) (v7 : Int32) (o_me : Ob) (H : Heap) (locs : List Loc) (ls : Array Slot), rec_30_0 (v3, v4, v5, v6, v7, o_me) = some y → Wd dC dI A s.heap [wX3 h_me q_me k_me o_me, wX0 h_a0 nc_a0 ns_a0 q_a0 k_a0 o_a0] H locs → lv_has ls 11 [(0, .ref h_me), (1, .ref h_a0), (3, .int v3), (4, .int v4), (5, .int v5), (6, .int v6), (7, .int v7)] → W p l e ({ frames := 1, cells := 0, slots := 0, locals := 26 } : Room) s m ([.ref h_me, .ref h_a0, .int p1, .int p2] : List Value).toArray below meth c H locs 0 0 Qz (F0 m 30 ls [])), ∀ (v3 : Int32) (v4 : Int32) (v5 : Int32) (v6 : Int32) (v7 : Int32) (v8 : Int32) (v9 : Int32) (o_me : Ob) (H : Heap) (locs : List Loc) (ls : Array Slot), bk_X3_worth_O_75 nc_a0 ns_a0 o_a0 rec_30_0 v3 v4 v5 v6 v7 v8 v9 o_me = some y → Wd dC dI A s.heap [wX3 h_me q_me k_me o_me, wX0 h_a0 nc_a0 ns_a0 q_a0 k_a0 o_a0] H locs → lv_has ls 11 [(0, .ref h_me), (1, .ref h_a0), (3, .int v3), (4, .int v4), (5, .int v5), (6, .int v6), (7, .int v7), (8, .int v8), (9, .int v9)] → W p l e ({ frames := 1, cells := 0, slots := 0, locals := 26 } : Room) s m ([.ref h_me, .ref h_a0, .int p1, .int p2] : List Value).toArray below meth c H locs 0 0 Qz (F0 m 75 ls []) := by
    intro rec_30_0 hrec_30_0
    intro v3 v4 v5 v6 v7 v8 v9 o_me H locs ls h hw hl
    unfold bk_X3_worth_O_75 at h
    refine lv_iload hx hb dX3_worth_75 (lv_at hl 3 rfl) ?_
    refine lv_aload_n hx hb dX3_worth_77 rfl (lv_at hl 0 rfl) ?_
    refine fgX3_1 hx hb hts hown hK hw 0 rfl kw242 dX3_worth_78 ?_
    refine fnX3_1 hx hb hK hw 0 rfl rfl dX3_worth_81 ?_
    refine lv_fi (v := 50) (by decide) ?_
    refine lv_icmp_lt (tgt := 89) hx hb dX3_worth_82 (by decide) (fun c => ?_) (fun c => ?_)
    · have h := z_t h c
      refine lv_aload_n hx hb dX3_worth_89 rfl (lv_at hl 0 rfl) ?_
      refine fgX3_1 hx hb hts hown hK hw 0 rfl kw242 dX3_worth_90 ?_
      refine lv_iload hx hb dX3_worth_93 (lv_at hl 3 rfl) ?_
      refine lv_iload hx hb dX3_worth_95 (lv_at hl 7 rfl) ?_
      refine lv_if_ne (tgt := 106) hx hb dX3_worth_97 (by decide) (fun c => ?_) (fun c => ?_)
      · have h := z_f h c
        refine lv_aload_n hx hb dX3_worth_106 rfl (lv_at hl 0 rfl) ?_
        refine lv_iload hx hb dX3_worth_107 (lv_at hl 8 rfl) ?_
        obtain ⟨z8, ez8, h⟩ := z_bd h
        refine xj_l (xrV (As := [.int v9]) (rest := [.int v4, .ref (q_me 1)]) ⟨hx, hb, hml, hown, hts⟩ (m_X3_wordWorth l dC dI _ h_me q_me k_me o_me v9 z8 ez8) kw567 kw564 kw566 kw3 kw114 hd_X3_wordWorth ⟨rfl, rfl⟩ rfl rfl ⟨rfl, rfl⟩ hX hK hw [0] (by decide) rfl rfl rfl rfl rfl hl.1 rfl rfl dX3_worth_109) hw hA [0] (by decide) rfl rfl (fun H locs hw => ?_)
        have hw : Wd dC dI A s.heap [wX3 h_me q_me k_me o_me, wX0 h_a0 nc_a0 ns_a0 q_a0 k_a0 o_a0] H locs := hw
        exact bk_112_3 rec_30_0 hrec_30_0 v3 v4 v5 v6 v7 z8 v4 o_me _ _ _ h hw (lv_sub hl [0, 1, 2, 3, 4, 5, 6] rfl)
      · have h := z_t h c
        refine lv_iload hx hb dX3_worth_100 (lv_at hl 8 rfl) ?_
        refine lv_i2l hx hb dX3_worth_102 rfl ?_
        refine lv_goto (tgt := 112) hx hb dX3_worth_103 (by decide) ?_
        exact bk_112_3 rec_30_0 hrec_30_0 v3 v4 v5 v6 v7 v9.toInt64 v4 o_me _ _ _ h hw (lv_sub hl [0, 1, 2, 3, 4, 5, 6] rfl)
    · have h := z_f h c
      refine lv_ldc2 (v := (-9000000000000000000)) hx hb hown (hts _ kw563) dX3_worth_85 ?_
      have hy := Option.some.inj h
      rw [← hQz, ← hy]
      exact xr_l (v := (-9000000000000000000 : Int64)) hx hb hr hlk hK hw dX3_worth_88
  have bk_215_7 : ∀ (rec_30_0 : Int32 × Int32 × Int32 × Int32 × Int32 × Ob → Option (Int64 × Ob)) (hrec_30_0 : ∀ (v3 : Int32) (v4 : Int32) (v5 : Int32) (v6 : Int32) (v7 : Int32) (o_me : Ob) (H : Heap) (locs : List Loc) (ls : Array Slot), rec_30_0 (v3, v4, v5, v6, v7, o_me) = some y → Wd dC dI A s.heap [wX3 h_me q_me k_me o_me, wX0 h_a0 nc_a0 ns_a0 q_a0 k_a0 o_a0] H locs → lv_has ls 11 [(0, .ref h_me), (1, .ref h_a0), (3, .int v3), (4, .int v4), (5, .int v5), (6, .int v6), (7, .int v7)] → W p l e ({ frames := 1, cells := 0, slots := 0, locals := 26 } : Room) s m ([.ref h_me, .ref h_a0, .int p1, .int p2] : List Value).toArray below meth c H locs 0 0 Qz (F0 m 30 ls [])), ∀ (v3 : Int32) (v4 : Int32) (v5 : Int32) (v6 : Int32) (v7 : Int32) (o_me : Ob) (H : Heap) (locs : List Loc) (ls : Array Slot), bk_X3_worth_O_215 nc_a0 ns_a0 o_a0 rec_30_0 v3 v4 v5 v6 v7 o_me = some y → Wd dC dI A s.heap [wX3 h_me q_me k_me o_me, wX0 h_a0 nc_a0 ns_a0 q_a0 k_a0 o_a0] H locs → lv_has ls 11 [(0, .ref h_me), (1, .ref h_a0), (3, .int v3), (4, .int v4), (5, .int v5), (6, .int v6), (7, .int v7)] → W p l e ({ frames := 1, cells := 0, slots := 0, locals := 26 } : Room) s m ([.ref h_me, .ref h_a0, .int p1, .int p2] : List Value).toArray below meth c H locs 0 0 Qz (F0 m 215 ls []) := by
    intro rec_30_0 hrec_30_0
    intro v3 v4 v5 v6 v7 o_me H locs ls h hw hl
    unfold bk_X3_worth_O_215 at h
    refine lv_goto (tgt := 281) hx hb dX3_worth_215 (by decide) ?_
    exact bk_281_4 rec_30_0 hrec_30_0 v3 v4 v5 v6 v7 o_me _ _ _ h hw (lv_sub hl [0, 1, 2, 3, 4, 5, 6] rfl)
  have bk_197_6 : ∀ (rec_30_0 : Int32 × Int32 × Int32 × Int32 × Int32 × Ob → Option (Int64 × Ob)) (hrec_30_0 : ∀ (v3 : Int32) (v4 : Int32) (v5 : Int32) (v6 : Int32) (v7 : Int32) (o_me : Ob) (H : Heap) (locs : List Loc) (ls : Array Slot), rec_30_0 (v3, v4, v5, v6, v7, o_me) = some y → Wd dC dI A s.heap [wX3 h_me q_me k_me o_me, wX0 h_a0 nc_a0 ns_a0 q_a0 k_a0 o_a0] H locs → lv_has ls 11 [(0, .ref h_me), (1, .ref h_a0), (3, .int v3), (4, .int v4), (5, .int v5), (6, .int v6), (7, .int v7)] → W p l e ({ frames := 1, cells := 0, slots := 0, locals := 26 } : Room) s m ([.ref h_me, .ref h_a0, .int p1, .int p2] : List Value).toArray below meth c H locs 0 0 Qz (F0 m 30 ls [])), ∀ (v3 : Int32) (v4 : Int32) (v5 : Int32) (v6 : Int32) (v7 : Int32) (v9 : Int32) (s0 : Int32) (s1 : Int32) (o_me : Ob) (H : Heap) (locs : List Loc) (ls : Array Slot), bk_X3_worth_O_197 nc_a0 ns_a0 o_a0 rec_30_0 v3 v4 v5 v6 v7 v9 s0 s1 o_me = some y → Wd dC dI A s.heap [wX3 h_me q_me k_me o_me, wX0 h_a0 nc_a0 ns_a0 q_a0 k_a0 o_a0] H locs → lv_has ls 11 [(0, .ref h_me), (1, .ref h_a0), (3, .int v3), (4, .int v4), (5, .int v5), (6, .int v6), (7, .int v7), (9, .int v9)] → W p l e ({ frames := 1, cells := 0, slots := 0, locals := 26 } : Room) s m ([.ref h_me, .ref h_a0, .int p1, .int p2] : List Value).toArray below meth c H locs 0 0 Qz (F0 m 197 ls [.int s0, .int s1]) := by
    intro rec_30_0 hrec_30_0
    intro v3 v4 v5 v6 v7 v9 s0 s1 o_me H locs ls h hw hl
    unfold bk_X3_worth_O_197 at h
    refine lv_icmp_ne (tgt := 212) hx hb dX3_worth_197 (by decide) (fun c => ?_) (fun c => ?_)
    · have h := z_f h c
      obtain ⟨x21, ex21, h⟩ := z_lt h
      refine lv_iinc (v := x21) (lv' := [(4, .int x21), (0, .ref h_me), (1, .ref h_a0), (3, .int v3), (5, .int v5), (6, .int v6), (7, .int v7), (9, .int v9)]) hx hb dX3_worth_212 hl (k := 3) rfl ((congrArg (v4 + ·) (show Int32.ofInt (-1) = (-1 : Int32) from by decide)).trans ex21.symm) (by decide) rfl (fun ls hl => ?_)
      exact bk_215_7 rec_30_0 hrec_30_0 v3 x21 v5 v6 v7 o_me _ _ _ h hw (lv_sub hl [1, 2, 3, 0, 4, 5, 6] rfl)
    · have h := z_t h c
      refine lv_iload hx hb dX3_worth_200 (lv_at hl 4 rfl) ?_
      refine lv_iload hx hb dX3_worth_202 (lv_at hl 7 rfl) ?_
      refine va_mmax hx hb (hml.trans hl.1.symm) hown (hts _ kw559) (hts _ kw149) (hts _ kw113) (hts _ kw150) (Nat.le_of_ble_eq_true rfl) (Nat.le_of_ble_eq_true rfl) (Nat.le_of_ble_eq_true rfl) (Nat.le_of_ble_eq_true rfl) dX3_worth_204 ?_
      obtain ⟨x22, ex22, h⟩ := z_lt h
      refine lv_fi (v := x22) ex22.symm ?_
      refine lv_istore (lv' := [(5, .int x22), (0, .ref h_me), (1, .ref h_a0), (3, .int v3), (4, .int v4), (6, .int v6), (7, .int v7), (9, .int v9)]) hx hb dX3_worth_207 hl (by decide) rfl (fun ls hl => ?_)
      refine lv_goto (tgt := 215) hx hb dX3_worth_209 (by decide) ?_
      exact bk_215_7 rec_30_0 hrec_30_0 v3 v4 x22 v6 v7 o_me _ _ _ h hw (lv_sub hl [1, 2, 3, 4, 0, 5, 6] rfl)
  have bk_180_8 : ∀ (rec_30_0 : Int32 × Int32 × Int32 × Int32 × Int32 × Ob → Option (Int64 × Ob)) (hrec_30_0 : ∀ (v3 : Int32) (v4 : Int32) (v5 : Int32) (v6 : Int32) (v7 : Int32) (o_me : Ob) (H : Heap) (locs : List Loc) (ls : Array Slot), rec_30_0 (v3, v4, v5, v6, v7, o_me) = some y → Wd dC dI A s.heap [wX3 h_me q_me k_me o_me, wX0 h_a0 nc_a0 ns_a0 q_a0 k_a0 o_a0] H locs → lv_has ls 11 [(0, .ref h_me), (1, .ref h_a0), (3, .int v3), (4, .int v4), (5, .int v5), (6, .int v6), (7, .int v7)] → W p l e ({ frames := 1, cells := 0, slots := 0, locals := 26 } : Room) s m ([.ref h_me, .ref h_a0, .int p1, .int p2] : List Value).toArray below meth c H locs 0 0 Qz (F0 m 30 ls [])), ∀ (v3 : Int32) (v4 : Int32) (v5 : Int32) (v6 : Int32) (v7 : Int32) (s0 : Int64) (s1 : Int32) (o_me : Ob) (H : Heap) (locs : List Loc) (ls : Array Slot), bk_X3_worth_O_180 nc_a0 ns_a0 o_a0 rec_30_0 v3 v4 v5 v6 v7 s0 s1 o_me = some y → Wd dC dI A s.heap [wX3 h_me q_me k_me o_me, wX0 h_a0 nc_a0 ns_a0 q_a0 k_a0 o_a0] H locs → lv_has ls 11 [(0, .ref h_me), (1, .ref h_a0), (3, .int v3), (4, .int v4), (5, .int v5), (6, .int v6), (7, .int v7)] → W p l e ({ frames := 1, cells := 0, slots := 0, locals := 26 } : Room) s m ([.ref h_me, .ref h_a0, .int p1, .int p2] : List Value).toArray below meth c H locs 0 0 Qz (F0 m 180 ls [.long s0, .int s1, .ref (q_me 1)]) := by
    intro rec_30_0 hrec_30_0
    intro v3 v4 v5 v6 v7 s0 s1 o_me H locs ls h hw hl
    unfold bk_X3_worth_O_180 at h
    obtain ⟨g23, h⟩ := z_gd h
    refine fbX3_1 hx hb hK hw 0 rfl rfl g23 dX3_worth_180 (fun H locs hw => ?_)
    obtain ⟨o24, eo24, h⟩ := z_lt h
    have hw : Wd dC dI A s.heap [wX3 h_me q_me k_me o24, wX0 h_a0 nc_a0 ns_a0 q_a0 k_a0 o_a0] H locs := by rw [eo24]; exact hw
    refine lv_goto (tgt := 215) hx hb dX3_worth_181 (by decide) ?_
    exact bk_215_7 rec_30_0 hrec_30_0 v3 v4 v5 v6 v7 o24 _ _ _ h hw (lv_sub hl [0, 1, 2, 3, 4, 5, 6] rfl)
  have bk_154_5 : ∀ (rec_30_0 : Int32 × Int32 × Int32 × Int32 × Int32 × Ob → Option (Int64 × Ob)) (hrec_30_0 : ∀ (v3 : Int32) (v4 : Int32) (v5 : Int32) (v6 : Int32) (v7 : Int32) (o_me : Ob) (H : Heap) (locs : List Loc) (ls : Array Slot), rec_30_0 (v3, v4, v5, v6, v7, o_me) = some y → Wd dC dI A s.heap [wX3 h_me q_me k_me o_me, wX0 h_a0 nc_a0 ns_a0 q_a0 k_a0 o_a0] H locs → lv_has ls 11 [(0, .ref h_me), (1, .ref h_a0), (3, .int v3), (4, .int v4), (5, .int v5), (6, .int v6), (7, .int v7)] → W p l e ({ frames := 1, cells := 0, slots := 0, locals := 26 } : Room) s m ([.ref h_me, .ref h_a0, .int p1, .int p2] : List Value).toArray below meth c H locs 0 0 Qz (F0 m 30 ls [])), ∀ (v3 : Int32) (v4 : Int32) (v5 : Int32) (v6 : Int32) (v7 : Int32) (v8 : Int32) (v9 : Int32) (s0 : Int32) (o_me : Ob) (H : Heap) (locs : List Loc) (ls : Array Slot), bk_X3_worth_O_154 nc_a0 ns_a0 o_a0 rec_30_0 v3 v4 v5 v6 v7 v8 v9 s0 o_me = some y → Wd dC dI A s.heap [wX3 h_me q_me k_me o_me, wX0 h_a0 nc_a0 ns_a0 q_a0 k_a0 o_a0] H locs → lv_has ls 11 [(0, .ref h_me), (1, .ref h_a0), (3, .int v3), (4, .int v4), (5, .int v5), (6, .int v6), (7, .int v7), (8, .int v8), (9, .int v9)] → W p l e ({ frames := 1, cells := 0, slots := 0, locals := 26 } : Room) s m ([.ref h_me, .ref h_a0, .int p1, .int p2] : List Value).toArray below meth c H locs 0 0 Qz (F0 m 154 ls [.int s0]) := by
    intro rec_30_0 hrec_30_0
    intro v3 v4 v5 v6 v7 v8 v9 s0 o_me H locs ls h hw hl
    unfold bk_X3_worth_O_154 at h
    refine lv_istore (lv' := [(10, .int s0), (0, .ref h_me), (1, .ref h_a0), (3, .int v3), (4, .int v4), (5, .int v5), (6, .int v6), (7, .int v7), (8, .int v8), (9, .int v9)]) hx hb dX3_worth_154 hl (by decide) rfl (fun ls hl => ?_)
    refine lv_iload hx hb dX3_worth_156 (lv_at hl 8 rfl) ?_
    refine lv_iconst (v := 2) hx hb dX3_worth_158 (by decide) ?_
    refine lv_icmp_ne (tgt := 184) hx hb dX3_worth_159 (by decide) (fun c => ?_) (fun c => ?_)
    · have h := z_f h c
      refine lv_iload hx hb dX3_worth_184 (lv_at hl 0 rfl) ?_
      refine lv_iload hx hb dX3_worth_186 (lv_at hl 8 rfl) ?_
      refine lv_iconst (v := 4) hx hb dX3_worth_188 (by decide) ?_
      refine lv_icmp_ne (tgt := 196) hx hb dX3_worth_189 (by decide) (fun c => ?_) (fun c => ?_)
      · have h := z_f h c
        refine lv_iconst (v := 0) hx hb dX3_worth_196 (by decide) ?_
        exact bk_197_6 rec_30_0 hrec_30_0 v3 v4 v5 v6 v7 v9 (0 : Int32) s0 o_me _ _ _ h hw (lv_sub hl [1, 2, 3, 4, 5, 6, 7, 9] rfl)
      · have h := z_t h c
        refine lv_iconst (v := 1) hx hb dX3_worth_192 (by decide) ?_
        refine lv_goto (tgt := 197) hx hb dX3_worth_193 (by decide) ?_
        exact bk_197_6 rec_30_0 hrec_30_0 v3 v4 v5 v6 v7 v9 (1 : Int32) s0 o_me _ _ _ h hw (lv_sub hl [1, 2, 3, 4, 5, 6, 7, 9] rfl)
    · have h := z_t h c
      refine lv_aload_n hx hb dX3_worth_162 rfl (lv_at hl 1 rfl) ?_
      refine fgX3_1 hx hb hts hown hK hw 0 rfl kw242 dX3_worth_163 ?_
      refine lv_iload hx hb dX3_worth_166 (lv_at hl 4 rfl) ?_
      refine lv_iconst (v := 1) hx hb dX3_worth_168 (by decide) ?_
      refine lv_isub hx hb dX3_worth_169 ?_
      refine lv_iload hx hb dX3_worth_170 (lv_at hl 0 rfl) ?_
      refine lv_if_eq (tgt := 179) hx hb dX3_worth_172 (by decide) (fun c => ?_) (fun c => ?_)
      · have h := z_t h c
        refine lv_lconst (v := 1) hx hb dX3_worth_179 (by decide) ?_
        exact bk_180_8 rec_30_0 hrec_30_0 v3 v4 v5 v6 v7 (1 : Int64) (v4 - (1 : Int32)) o_me _ _ _ h hw (lv_sub hl [1, 2, 3, 4, 5, 6, 7] rfl)
      · have h := z_f h c
        refine lv_lconst (v := 0) hx hb dX3_worth_175 (by decide) ?_
        refine lv_goto (tgt := 180) hx hb dX3_worth_176 (by decide) ?_
        exact bk_180_8 rec_30_0 hrec_30_0 v3 v4 v5 v6 v7 (0 : Int64) (v4 - (1 : Int32)) o_me _ _ _ h hw (lv_sub hl [1, 2, 3, 4, 5, 6, 7] rfl)
  have lp_30_0 : ∀ (N : Nat), ∀ (v3 : Int32) (v4 : Int32) (v5 : Int32) (v6 : Int32) (v7 : Int32) (o_me : Ob) (H : Heap) (locs : List Loc) (ls : Array Slot), lp_X3_worth_O_30 nc_a0 ns_a0 o_a0  N (v3, v4, v5, v6, v7, o_me) = some y → Wd dC dI A s.heap [wX3 h_me q_me k_me o_me, wX0 h_a0 nc_a0 ns_a0 q_a0 k_a0 o_a0] H locs → lv_has ls 11 [(0, .ref h_me), (1, .ref h_a0), (3, .int v3), (4, .int v4), (5, .int v5), (6, .int v6), (7, .int v7)] → W p l e ({ frames := 1, cells := 0, slots := 0, locals := 26 } : Room) s m ([.ref h_me, .ref h_a0, .int p1, .int p2] : List Value).toArray below meth c H locs 0 0 Qz (F0 m 30 ls []) := by
    intro N
    induction N with
    | zero =>
      intro v3 v4 v5 v6 v7 o_me H locs ls h hw hl
      exact absurd (show (none : Option (Int64 × Ob)) = some y from h) (by simp)
    | succ N ih =>
      intro v3 v4 v5 v6 v7 o_me H locs ls h hw hl
      have h : lb_X3_worth_O_30 nc_a0 ns_a0 o_a0  (lp_X3_worth_O_30 nc_a0 ns_a0 o_a0  N) v3 v4 v5 v6 v7 o_me = some y := h
      unfold lb_X3_worth_O_30 at h
      refine lv_iload hx hb dX3_worth_30 (lv_at hl 6 rfl) ?_
      refine lv_iload_n hx hb dX3_worth_32 rfl (lv_at hl 2 rfl) ?_
      refine lv_icmp_ge (tgt := 287) hx hb dX3_worth_33 (by decide) (fun c => ?_) (fun c => ?_)
      · have h := z_t h c
        exact bk_287_1  v4 o_me _ _ _ h hw (lv_sub hl [0, 3] rfl)
      · have h := z_f h c
        refine lv_iload hx hb dX3_worth_36 (lv_at hl 4 rfl) ?_
        refine lv_iload hx hb dX3_worth_38 (lv_at hl 5 rfl) ?_
        refine lv_icmp_ge (tgt := 287) hx hb dX3_worth_40 (by decide) (fun c => ?_) (fun c => ?_)
        · have h := z_t h c
          exact bk_287_1  v4 o_me _ _ _ h hw (lv_sub hl [0, 3] rfl)
        · have h := z_f h c
          refine lv_aload_n hx hb dX3_worth_43 rfl (lv_at hl 1 rfl) ?_
          refine fgX0_5 hx hb hts hown hK hw 1 rfl kw171 dX3_worth_44 ?_
          refine lv_iload hx hb dX3_worth_47 (lv_at hl 4 rfl) ?_
          obtain ⟨g3, h⟩ := z_gd h
          refine faX0_5 hx hb hK hw 1 rfl rfl g3 dX3_worth_49 ?_
          obtain ⟨x4, ex4, h⟩ := z_lt h
          refine lv_fi (v := x4) ex4.symm ?_
          refine lv_istore (lv' := [(8, .int x4), (0, .ref h_me), (1, .ref h_a0), (3, .int v3), (4, .int v4), (5, .int v5), (6, .int v6), (7, .int v7)]) hx hb dX3_worth_50 hl (by decide) rfl (fun ls hl => ?_)
          refine lv_aload_n hx hb dX3_worth_52 rfl (lv_at hl 2 rfl) ?_
          refine fgX0_6 hx hb hts hown hK hw 1 rfl kw173 dX3_worth_53 ?_
          refine lv_iload hx hb dX3_worth_56 (lv_at hl 5 rfl) ?_
          obtain ⟨g5, h⟩ := z_gd h
          refine faX0_6 hx hb hK hw 1 rfl rfl g5 dX3_worth_58 ?_
          obtain ⟨x6, ex6, h⟩ := z_lt h
          refine lv_fi (v := x6) ex6.symm ?_
          refine lv_istore (lv' := [(9, .int x6), (8, .int x4), (0, .ref h_me), (1, .ref h_a0), (3, .int v3), (4, .int v4), (5, .int v5), (6, .int v6), (7, .int v7)]) hx hb dX3_worth_59 hl (by decide) rfl (fun ls hl => ?_)
          obtain ⟨x7, ex7, h⟩ := z_lt h
          refine lv_iinc (v := x7) (lv' := [(5, .int x7), (9, .int x6), (8, .int x4), (0, .ref h_me), (1, .ref h_a0), (3, .int v3), (4, .int v4), (6, .int v6), (7, .int v7)]) hx hb dX3_worth_61 hl (k := 6) rfl ((congrArg (v5 + ·) (show Int32.ofInt 1 = (1 : Int32) from by decide)).trans ex7.symm) (by decide) rfl (fun ls hl => ?_)
          refine lv_iload hx hb dX3_worth_64 (lv_at hl 2 rfl) ?_
          refine lv_if_eq (tgt := 75) hx hb dX3_worth_66 (by decide) (fun c => ?_) (fun c => ?_)
          · have h := z_t h c
            exact bk_75_2 (lp_X3_worth_O_30 nc_a0 ns_a0 o_a0  N) ih v3 v4 x7 v6 v7 x4 x6 o_me _ _ _ h hw (lv_sub hl [3, 4, 5, 6, 0, 7, 8, 2, 1] rfl)
          · have h := z_f h c
            refine lv_iload hx hb dX3_worth_69 (lv_at hl 2 rfl) ?_
            refine lv_iconst (v := 1) hx hb dX3_worth_71 (by decide) ?_
            refine lv_icmp_ne (tgt := 119) hx hb dX3_worth_72 (by decide) (fun c => ?_) (fun c => ?_)
            · have h := z_f h c
              refine lv_iload hx hb dX3_worth_119 (lv_at hl 2 rfl) ?_
              refine lv_iconst (v := 4) hx hb dX3_worth_121 (by decide) ?_
              refine lv_icmp_gt (tgt := 218) hx hb dX3_worth_122 (by decide) (fun c => ?_) (fun c => ?_)
              · have h := z_t h c
                refine lv_iload hx hb dX3_worth_218 (lv_at hl 6 rfl) ?_
                refine lv_iconst (v := 2) hx hb dX3_worth_220 (by decide) ?_
                refine lv_icmp_ge (tgt := 228) hx hb dX3_worth_221 (by decide) (fun c => ?_) (fun c => ?_)
                · have h := z_t h c
                  obtain ⟨x13, ex13, h⟩ := z_lt h
                  refine lv_iinc (v := x13) (lv' := [(4, .int x13), (5, .int x7), (9, .int x6), (8, .int x4), (0, .ref h_me), (1, .ref h_a0), (3, .int v3), (6, .int v6), (7, .int v7)]) hx hb dX3_worth_228 hl (k := 6) rfl ((congrArg (v4 + ·) (show Int32.ofInt (-1) = (-1 : Int32) from by decide)).trans ex13.symm) (by decide) rfl (fun ls hl => ?_)
                  refine lv_aload_n hx hb dX3_worth_231 rfl (lv_at hl 4 rfl) ?_
                  refine fgX3_1 hx hb hts hown hK hw 0 rfl kw242 dX3_worth_232 ?_
                  refine lv_iload hx hb dX3_worth_235 (lv_at hl 0 rfl) ?_
                  refine lv_iconst (v := 1) hx hb dX3_worth_237 (by decide) ?_
                  refine lv_isub hx hb dX3_worth_238 ?_
                  refine lv_iload hx hb dX3_worth_239 (lv_at hl 3 rfl) ?_
                  refine lv_aload_n hx hb dX3_worth_241 rfl (lv_at hl 4 rfl) ?_
                  refine fgX3_1 hx hb hts hown hK hw 0 rfl kw242 dX3_worth_242 ?_
                  refine lv_iload hx hb dX3_worth_245 (lv_at hl 0 rfl) ?_
                  refine lv_iconst (v := 1) hx hb dX3_worth_247 (by decide) ?_
                  refine lv_isub hx hb dX3_worth_248 ?_
                  obtain ⟨g14, h⟩ := z_gd h
                  refine faX3_1 hx hb hK hw 0 rfl rfl g14 dX3_worth_249 ?_
                  refine lv_aload_n hx hb dX3_worth_250 rfl (lv_at hl 4 rfl) ?_
                  refine fgX3_1 hx hb hts hown hK hw 0 rfl kw242 dX3_worth_251 ?_
                  refine lv_iload hx hb dX3_worth_254 (lv_at hl 0 rfl) ?_
                  obtain ⟨g15, h⟩ := z_gd h
                  refine faX3_1 hx hb hK hw 0 rfl rfl g15 dX3_worth_256 ?_
                  obtain ⟨z16, ez16, h⟩ := z_bd h
                  refine xj_l (xrS (As := [.int x4, .long (gM o_me 1 (x13 - (1 : Int32)).toNatClampNeg), .long (gM o_me 1 x13.toNatClampNeg)]) (rest := [.int (x13 - (1 : Int32)), .ref (q_me 1)]) ⟨hx, hb, hml, hown, hts⟩ (m_X3_joined l dC dI _  x4 (gM o_me 1 (x13 - (1 : Int32)).toNatClampNeg) (gM o_me 1 x13.toNatClampNeg) z16 ez16) kw570 kw568 kw569 kw114 hd_X3_joined ⟨rfl, rfl⟩ rfl rfl ⟨rfl, rfl⟩ hX hK hw [] (by decide) rfl rfl hl.1 rfl rfl dX3_worth_257) hw hA [] (by decide) rfl rfl (fun H locs hw => ?_)
                  obtain ⟨g17, h⟩ := z_gd h
                  refine fbX3_1 hx hb hK hw 0 rfl rfl g17 dX3_worth_260 (fun H locs hw => ?_)
                  obtain ⟨o18, eo18, h⟩ := z_lt h
                  have hw : Wd dC dI A s.heap [wX3 h_me q_me k_me o18, wX0 h_a0 nc_a0 ns_a0 q_a0 k_a0 o_a0] H locs := by rw [eo18]; exact hw
                  refine lv_aload_n hx hb dX3_worth_261 rfl (lv_at hl 4 rfl) ?_
                  refine fgX3_1 hx hb hts hown hK hw 0 rfl kw242 dX3_worth_262 ?_
                  refine lv_iload hx hb dX3_worth_265 (lv_at hl 0 rfl) ?_
                  refine lv_iconst (v := 1) hx hb dX3_worth_267 (by decide) ?_
                  refine lv_isub hx hb dX3_worth_268 ?_
                  obtain ⟨g19, h⟩ := z_gd h
                  refine faX3_1 hx hb hK hw 0 rfl rfl g19 dX3_worth_269 ?_
                  refine lv_ldc2 (v := (-9000000000000000000)) hx hb hown (hts _ kw563) dX3_worth_270 ?_
                  refine W.lcmp hx hb dX3_worth_273 ?_
                  refine lv_if_ne (tgt := 281) hx hb dX3_worth_274 (by decide) (fun c => ?_) (fun c => ?_)
                  · have h := z_f h c
                    exact bk_281_4 (lp_X3_worth_O_30 nc_a0 ns_a0 o_a0  N) ih v3 x13 x7 v6 v7 o18 _ _ _ h hw (lv_sub hl [4, 5, 6, 0, 1, 7, 8] rfl)
                  · have h := z_t h c
                    refine lv_ldc2 (v := (-9000000000000000000)) hx hb hown (hts _ kw563) dX3_worth_277 ?_
                    have hy := Option.some.inj h
                    rw [← hQz, ← hy]
                    exact xr_l (v := (-9000000000000000000 : Int64)) hx hb hr hlk hK hw dX3_worth_280
                · have h := z_f h c
                  refine lv_ldc2 (v := (-9000000000000000000)) hx hb hown (hts _ kw563) dX3_worth_224 ?_
                  have hy := Option.some.inj h
                  rw [← hQz, ← hy]
                  exact xr_l (v := (-9000000000000000000 : Int64)) hx hb hr hlk hK hw dX3_worth_227
              · have h := z_f h c
                refine lv_iload hx hb dX3_worth_125 (lv_at hl 6 rfl) ?_
                refine lv_iconst (v := 1) hx hb dX3_worth_127 (by decide) ?_
                refine lv_icmp_ge (tgt := 135) hx hb dX3_worth_128 (by decide) (fun c => ?_) (fun c => ?_)
                · have h := z_t h c
                  refine lv_aload_n hx hb dX3_worth_135 rfl (lv_at hl 3 rfl) ?_
                  refine fgX3_1 hx hb hts hown hK hw 0 rfl kw242 dX3_worth_136 ?_
                  refine lv_iload hx hb dX3_worth_139 (lv_at hl 6 rfl) ?_
                  refine lv_iconst (v := 1) hx hb dX3_worth_141 (by decide) ?_
                  refine lv_isub hx hb dX3_worth_142 ?_
                  obtain ⟨g20, h⟩ := z_gd h
                  refine faX3_1 hx hb hK hw 0 rfl rfl g20 dX3_worth_143 ?_
                  refine lv_lconst (v := 1) hx hb dX3_worth_144 (by decide) ?_
                  refine W.lcmp hx hb dX3_worth_145 ?_
                  refine lv_if_ne (tgt := 153) hx hb dX3_worth_146 (by decide) (fun c => ?_) (fun c => ?_)
                  · have h := z_f h c
                    refine lv_iconst (v := 0) hx hb dX3_worth_153 (by decide) ?_
                    exact bk_154_5 (lp_X3_worth_O_30 nc_a0 ns_a0 o_a0  N) ih v3 v4 x7 v6 v7 x4 x6 (0 : Int32) o_me _ _ _ h hw (lv_sub hl [3, 4, 5, 6, 0, 7, 8, 2, 1] rfl)
                  · have h := z_t h c
                    refine lv_iconst (v := 1) hx hb dX3_worth_149 (by decide) ?_
                    refine lv_goto (tgt := 154) hx hb dX3_worth_150 (by decide) ?_
                    exact bk_154_5 (lp_X3_worth_O_30 nc_a0 ns_a0 o_a0  N) ih v3 v4 x7 v6 v7 x4 x6 (1 : Int32) o_me _ _ _ h hw (lv_sub hl [3, 4, 5, 6, 0, 7, 8, 2, 1] rfl)
                · have h := z_f h c
                  refine lv_ldc2 (v := (-9000000000000000000)) hx hb hown (hts _ kw563) dX3_worth_131 ?_
                  have hy := Option.some.inj h
                  rw [← hQz, ← hy]
                  exact xr_l (v := (-9000000000000000000 : Int64)) hx hb hr hlk hK hw dX3_worth_134
            · have h := z_t h c
              exact bk_75_2 (lp_X3_worth_O_30 nc_a0 ns_a0 o_a0  N) ih v3 v4 x7 v6 v7 x4 x6 o_me _ _ _ h hw (lv_sub hl [3, 4, 5, 6, 0, 7, 8, 2, 1] rfl)
  unfold f_X3_worth_O at h
  refine lv_iload_n hx hb dX3_worth_0 rfl (lv_at hl 2 rfl) ?_
  refine lv_iload_n hx hb dX3_worth_1 rfl (lv_at hl 3 rfl) ?_
  refine lv_icmp_lt (tgt := 7) hx hb dX3_worth_2 (by decide) (fun c => ?_) (fun c => ?_)
  · have h := z_t h c
    refine lv_iconst (v := 0) hx hb dX3_worth_7 (by decide) ?_
    refine lv_istore (lv' := [(4, .int (0 : Int32)), (0, .ref h_me), (1, .ref h_a0), (2, .int p1), (3, .int p2)]) hx hb dX3_worth_8 hl (by decide) rfl (fun ls hl => ?_)
    refine lv_iconst (v := 0) hx hb dX3_worth_10 (by decide) ?_
    refine lv_iload_n hx hb dX3_worth_11 rfl (lv_at hl 3 rfl) ?_
    refine va_mmax hx hb (hml.trans hl.1.symm) hown (hts _ kw559) (hts _ kw149) (hts _ kw113) (hts _ kw150) (Nat.le_of_ble_eq_true rfl) (Nat.le_of_ble_eq_true rfl) (Nat.le_of_ble_eq_true rfl) (Nat.le_of_ble_eq_true rfl) dX3_worth_12 ?_
    obtain ⟨x1, ex1, h⟩ := z_lt h
    refine lv_fi (v := x1) ex1.symm ?_
    refine lv_istore (lv' := [(5, .int x1), (4, .int (0 : Int32)), (0, .ref h_me), (1, .ref h_a0), (2, .int p1), (3, .int p2)]) hx hb dX3_worth_15 hl (by decide) rfl (fun ls hl => ?_)
    refine lv_iload_n hx hb dX3_worth_17 rfl (lv_at hl 5 rfl) ?_
    refine lv_aload_n hx hb dX3_worth_18 rfl (lv_at hl 3 rfl) ?_
    refine fgX0_8 hx hb hts hown hK hw 1 rfl kw179 dX3_worth_19 ?_
    refine va_mmin hx hb (hml.trans hl.1.symm) hown (hts _ kw560) (hts _ kw561) (hts _ kw113) (hts _ kw562) (Nat.le_of_ble_eq_true rfl) (Nat.le_of_ble_eq_true rfl) (Nat.le_of_ble_eq_true rfl) (Nat.le_of_ble_eq_true rfl) dX3_worth_22 ?_
    obtain ⟨x2, ex2, h⟩ := z_lt h
    refine lv_fi (v := x2) ex2.symm ?_
    refine lv_istore (lv' := [(6, .int x2), (5, .int x1), (4, .int (0 : Int32)), (0, .ref h_me), (1, .ref h_a0), (2, .int p1), (3, .int p2)]) hx hb dX3_worth_25 hl (by decide) rfl (fun ls hl => ?_)
    refine lv_iload_n hx hb dX3_worth_27 rfl (lv_at hl 5 rfl) ?_
    refine lv_istore (lv' := [(7, .int p1), (6, .int x2), (5, .int x1), (4, .int (0 : Int32)), (0, .ref h_me), (1, .ref h_a0), (2, .int p1), (3, .int p2)]) hx hb dX3_worth_28 hl (by decide) rfl (fun ls hl => ?_)
    exact lp_30_0  zfu p2 (0 : Int32) x1 x2 p1 o_me _ _ _ h hw (lv_sub hl [4, 5, 7, 3, 2, 1, 0] rfl)
  · have h := z_f h c
    refine lv_lconst (v := 1) hx hb dX3_worth_5 (by decide) ?_
    have hy := Option.some.inj h
    rw [← hQz, ← hy]
    exact xr_l (v := (1 : Int64)) hx hb hr hlk hK hw dX3_worth_6

def bk_X1_told_O_130 (nc_a0 : Nat) (ns_a0 : Nat) (o_me : Ob) (o_me_isles : Ob) (o_me_isles_now : Ob) (o_a0 : Ob) (rec_51_0 : Int32 × Int32 × Ob → Option (Int64 × Ob)) (v2 : Int32) (v6 : Int32) (o_me_machine : Ob) : Option (Int64 × Ob) :=
  zlt (v6 + (-1 : Int32)) fun x6 =>
  rec_51_0 (v2, x6, o_me_machine)
def lb_X1_told_O_51 (nc_a0 : Nat) (ns_a0 : Nat) (o_me : Ob) (o_me_isles : Ob) (o_me_isles_now : Ob) (o_a0 : Ob)  (rec_51_0 : Int32 × Int32 × Ob → Option (Int64 × Ob)) (v2 : Int32) (v6 : Int32) (o_me_machine : Ob) : Option (Int64 × Ob) :=
  if v6 < (0 : Int32) then
  (some ((-9000000000000000000 : Int64), o_me_machine))
  else
  (zgd (zin v6 nc_a0) <|
  if (gA o_a0 0 v6.toNatClampNeg) = v2 then
  (zgd (zin v6 nc_a0) <|
  zgd (zin v6 nc_a0) <|
  (f_X3_worth_O nc_a0 ns_a0 o_me_machine o_a0 (gA o_a0 3 v6.toNatClampNeg) (gA o_a0 4 v6.toNatClampNeg)).bind fun z9 =>
  if (lg_cmp z9.1 (1 : Int64)) = (0 : Int32) then
  (zgd (zin v6 nc_a0) <|
  zgd (zin v6 nc_a0) <|
  (f_X3_worth_O nc_a0 ns_a0 z9.2 o_a0 (gA o_a0 2 v6.toNatClampNeg) (gA o_a0 3 v6.toNatClampNeg)).bind fun z12 =>
  if (lg_cmp z12.1 (-9000000000000000000 : Int64)) = (0 : Int32) then
  (bk_X1_told_O_130 nc_a0 ns_a0 o_me o_me_isles o_me_isles_now o_a0 rec_51_0 v2 v6 z12.2)
  else
  (some (z12.1, z12.2)))
  else
  (bk_X1_told_O_130 nc_a0 ns_a0 o_me o_me_isles o_me_isles_now o_a0 rec_51_0 v2 v6 z9.2))
  else
  (bk_X1_told_O_130 nc_a0 ns_a0 o_me o_me_isles o_me_isles_now o_a0 rec_51_0 v2 v6 o_me_machine))
def lp_X1_told_O_51 (nc_a0 : Nat) (ns_a0 : Nat) (o_me : Ob) (o_me_isles : Ob) (o_me_isles_now : Ob) (o_a0 : Ob)  : Nat → (Int32 × Int32 × Ob) → Option (Int64 × Ob) := zit (fun rec a => lb_X1_told_O_51 nc_a0 ns_a0 o_me o_me_isles o_me_isles_now o_a0  rec a.1 a.2.1 a.2.2)
def f_X1_told_O (nc_a0 : Nat) (ns_a0 : Nat) (o_me : Ob) (o_me_isles : Ob) (o_me_isles_now : Ob) (o_me_machine : Ob) (o_a0 : Ob) (p1 : Int32) (p2 : Int32) (p3 : Int32) (p4 : Int32) : Option (Int64 × Ob) :=
  (f_X2_isPerson o_me_isles p2).bind fun z1 =>
  if z1 = (0 : Int32) then
  (some ((-9000000000000000000 : Int64), o_me_machine))
  else
  ((f_X8_isRace p3).bind fun z2 =>
  if z2 = (0 : Int32) then
  (some ((-9000000000000000000 : Int64), o_me_machine))
  else
  ((f_X3_setLawWords_O o_me_machine o_me_isles o_me_isles_now p2 p3 p4).bind fun z3 =>
  zlt ((gI o_a0 7) - (1 : Int32)) fun x4 =>
  lp_X1_told_O_51 nc_a0 ns_a0 o_me o_me_isles o_me_isles_now o_a0  zfu (p1, x4, z3)))
set_option maxHeartbeats 4000000 in
set_option maxRecDepth 100000 in
theorem m_X1_told_O (l : Launch) (dC : Nat → ClassId) (dI : Nat → Nat → Nat) (sz : Nat) (h_me : Nat) (h_me_isles : Nat) (h_me_machine : Nat) (h_me_isles_now : Nat) (h_a0 : Nat) (q_me : Nat → Nat) (k_me : Nat → ClassId) (q_me_isles : Nat → Nat) (k_me_isles : Nat → ClassId) (q_me_isles_now : Nat → Nat) (k_me_isles_now : Nat → ClassId) (q_me_machine : Nat → Nat) (k_me_machine : Nat → ClassId) (q_a0 : Nat → Nat) (k_a0 : Nat → ClassId) (nc_a0 : Nat) (ns_a0 : Nat) (o_me : Ob) (o_me_isles : Ob) (o_me_isles_now : Ob) (o_me_machine : Ob) (o_a0 : Ob) (p1 : Int32) (p2 : Int32) (p3 : Int32) (p4 : Int32) (y : Int64 × Ob) (h : f_X1_told_O nc_a0 ns_a0 o_me o_me_isles o_me_isles_now o_me_machine o_a0 p1 p2 p3 p4 = some y) : CL l yX1_told cX1_told 9 (some .long) ({ frames := 2, cells := 0, slots := 0, locals := 56 } : Room) dC dI sz [.ref h_me, .ref h_a0, .int p1, .int p2, .int p3, .int p4] [wX1 h_me h_me_isles h_me_machine q_me k_me o_me, wX2 h_me_isles h_me_isles_now q_me_isles k_me_isles o_me_isles, wX4 h_me_isles_now q_me_isles_now k_me_isles_now o_me_isles_now, wX3 h_me_machine q_me_machine k_me_machine o_me_machine, wX0 h_a0 nc_a0 ns_a0 q_a0 k_a0 o_a0] [tX1 k_me, tX2 k_me_isles, tX4 k_me_isles_now, tX3 k_me_machine, tX0 k_a0] y.1 [wX1 h_me h_me_isles h_me_machine q_me k_me o_me, wX2 h_me_isles h_me_isles_now q_me_isles k_me_isles o_me_isles, wX4 h_me_isles_now q_me_isles_now k_me_isles_now o_me_isles_now, wX3 h_me_machine q_me_machine k_me_machine y.2, wX0 h_a0 nc_a0 ns_a0 q_a0 k_a0 o_a0] := by
  refine CC_of (by decide) (Nat.le_of_ble_eq_true rfl) ?_
  intro p e s m below meth c A ls hx hb hml hr hlk hnm hown hts hX hK hP hD hA hl
  have hl : lv_has ls 9 [(0, .ref h_me), (1, .ref h_a0), (2, .int p1), (3, .int p2), (4, .int p3), (5, .int p4)] := hl
  have hown : s.vm.findClass RX1 = some m.cls := hown
  have hw : Wd dC dI A s.heap [wX1 h_me h_me_isles h_me_machine q_me k_me o_me, wX2 h_me_isles h_me_isles_now q_me_isles k_me_isles o_me_isles, wX4 h_me_isles_now q_me_isles_now k_me_isles_now o_me_isles_now, wX3 h_me_machine q_me_machine k_me_machine o_me_machine, wX0 h_a0 nc_a0 ns_a0 q_a0 k_a0 o_a0] s.heap [] := ⟨hP, hD, va_S.rf⟩
  generalize hQz : (MQ below (QL dC dI (fun r (_ : Unit) => r = y.1) (fun _ => Jn [wX1 h_me h_me_isles h_me_machine q_me k_me o_me, wX2 h_me_isles h_me_isles_now q_me_isles k_me_isles o_me_isles, wX4 h_me_isles_now q_me_isles_now k_me_isles_now o_me_isles_now, wX3 h_me_machine q_me_machine k_me_machine y.2, wX0 h_a0 nc_a0 ns_a0 q_a0 k_a0 o_a0]) (fun _ => Jt [tX1 k_me, tX2 k_me_isles, tX4 k_me_isles_now, tX3 k_me_machine, tX0 k_a0]) A) ([.ref h_me, .ref h_a0, .int p1, .int p2, .int p3, .int p4] : List Value).toArray s 0 0 A) = Qz
  clear hP hD hnm
  have bk_130_1 : ∀ (rec_51_0 : Int32 × Int32 × Ob → Option (Int64 × Ob)) (hrec_51_0 : ∀ (v2 : Int32) (v6 : Int32) (o_me_machine : Ob) (H : Heap) (locs : List Loc) (ls : Array Slot), rec_51_0 (v2, v6, o_me_machine) = some y → Wd dC dI A s.heap [wX1 h_me h_me_isles h_me_machine q_me k_me o_me, wX2 h_me_isles h_me_isles_now q_me_isles k_me_isles o_me_isles, wX4 h_me_isles_now q_me_isles_now k_me_isles_now o_me_isles_now, wX3 h_me_machine q_me_machine k_me_machine o_me_machine, wX0 h_a0 nc_a0 ns_a0 q_a0 k_a0 o_a0] H locs → lv_has ls 9 [(0, .ref h_me), (1, .ref h_a0), (2, .int v2), (6, .int v6)] → W p l e ({ frames := 2, cells := 0, slots := 0, locals := 56 } : Room) s m ([.ref h_me, .ref h_a0, .int p1, .int p2, .int p3, .int p4] : List Value).toArray below meth c H locs 0 0 Qz (F0 m 51 ls [])), ∀ (v2 : Int32) (v6 : Int32) (o_me_machine : Ob) (H : Heap) (locs : List Loc) (ls : Array Slot), bk_X1_told_O_130 nc_a0 ns_a0 o_me o_me_isles o_me_isles_now o_a0 rec_51_0 v2 v6 o_me_machine = some y → Wd dC dI A s.heap [wX1 h_me h_me_isles h_me_machine q_me k_me o_me, wX2 h_me_isles h_me_isles_now q_me_isles k_me_isles o_me_isles, wX4 h_me_isles_now q_me_isles_now k_me_isles_now o_me_isles_now, wX3 h_me_machine q_me_machine k_me_machine o_me_machine, wX0 h_a0 nc_a0 ns_a0 q_a0 k_a0 o_a0] H locs → lv_has ls 9 [(0, .ref h_me), (1, .ref h_a0), (2, .int v2), (6, .int v6)] → W p l e ({ frames := 2, cells := 0, slots := 0, locals := 56 } : Room) s m ([.ref h_me, .ref h_a0, .int p1, .int p2, .int p3, .int p4] : List Value).toArray below meth c H locs 0 0 Qz (F0 m 130 ls []) := by
    intro rec_51_0 hrec_51_0
    intro v2 v6 o_me_machine H locs ls h hw hl
    unfold bk_X1_told_O_130 at h
    obtain ⟨x6, ex6, h⟩ := z_lt h
    refine lv_iinc (v := x6) (lv' := [(6, .int x6), (0, .ref h_me), (1, .ref h_a0), (2, .int v2)]) hx hb dX1_told_130 hl (k := 3) rfl ((congrArg (v6 + ·) (show Int32.ofInt (-1) = (-1 : Int32) from by decide)).trans ex6.symm) (by decide) rfl (fun ls hl => ?_)
    refine lv_goto (tgt := 51) hx hb dX1_told_133 (by decide) ?_
    exact hrec_51_0 v2 x6 o_me_machine _ _ _ h hw (lv_sub hl [1, 2, 3, 0] rfl)
  have lp_51_0 : ∀ (N : Nat), ∀ (v2 : Int32) (v6 : Int32) (o_me_machine : Ob) (H : Heap) (locs : List Loc) (ls : Array Slot), lp_X1_told_O_51 nc_a0 ns_a0 o_me o_me_isles o_me_isles_now o_a0  N (v2, v6, o_me_machine) = some y → Wd dC dI A s.heap [wX1 h_me h_me_isles h_me_machine q_me k_me o_me, wX2 h_me_isles h_me_isles_now q_me_isles k_me_isles o_me_isles, wX4 h_me_isles_now q_me_isles_now k_me_isles_now o_me_isles_now, wX3 h_me_machine q_me_machine k_me_machine o_me_machine, wX0 h_a0 nc_a0 ns_a0 q_a0 k_a0 o_a0] H locs → lv_has ls 9 [(0, .ref h_me), (1, .ref h_a0), (2, .int v2), (6, .int v6)] → W p l e ({ frames := 2, cells := 0, slots := 0, locals := 56 } : Room) s m ([.ref h_me, .ref h_a0, .int p1, .int p2, .int p3, .int p4] : List Value).toArray below meth c H locs 0 0 Qz (F0 m 51 ls []) := by
    intro N
    induction N with
    | zero =>
      intro v2 v6 o_me_machine H locs ls h hw hl
      exact absurd (show (none : Option (Int64 × Ob)) = some y from h) (by simp)
    | succ N ih =>
      intro v2 v6 o_me_machine H locs ls h hw hl
      have h : lb_X1_told_O_51 nc_a0 ns_a0 o_me o_me_isles o_me_isles_now o_a0  (lp_X1_told_O_51 nc_a0 ns_a0 o_me o_me_isles o_me_isles_now o_a0  N) v2 v6 o_me_machine = some y := h
      unfold lb_X1_told_O_51 at h
      refine lv_iload hx hb dX1_told_51 (lv_at hl 3 rfl) ?_
      refine lv_if_lt (tgt := 136) hx hb dX1_told_53 (by decide) (fun c => ?_) (fun c => ?_)
      · have h := z_t h c
        refine lv_ldc2 (v := (-9000000000000000000)) hx hb hown (hts _ kw550) dX1_told_136 ?_
        have hy := Option.some.inj h
        rw [← hQz, ← hy]
        exact xr_l (v := (-9000000000000000000 : Int64)) hx hb hr hlk hK hw dX1_told_139
      · have h := z_f h c
        refine lv_aload_n hx hb dX1_told_56 rfl (lv_at hl 1 rfl) ?_
        refine fgX0_0 hx hb hts hown hK hw 4 rfl kw152 dX1_told_57 ?_
        refine lv_iload hx hb dX1_told_60 (lv_at hl 3 rfl) ?_
        obtain ⟨g5, h⟩ := z_gd h
        refine faX0_0 hx hb hK hw 4 rfl rfl g5 dX1_told_62 ?_
        refine lv_iload_n hx hb dX1_told_63 rfl (lv_at hl 2 rfl) ?_
        refine lv_icmp_ne (tgt := 130) hx hb dX1_told_64 (by decide) (fun c => ?_) (fun c => ?_)
        · have h := z_f h c
          exact bk_130_1 (lp_X1_told_O_51 nc_a0 ns_a0 o_me o_me_isles o_me_isles_now o_a0  N) ih v2 v6 o_me_machine _ _ _ h hw (lv_sub hl [0, 1, 2, 3] rfl)
        · have h := z_t h c
          refine lv_aload_n hx hb dX1_told_67 rfl (lv_at hl 0 rfl) ?_
          refine fgX1_1 hx hb hts hown hK hw 0 rfl kw365 dX1_told_68 ?_
          refine lv_aload_n hx hb dX1_told_71 rfl (lv_at hl 1 rfl) ?_
          refine lv_aload_n hx hb dX1_told_72 rfl (lv_at hl 1 rfl) ?_
          refine fgX0_3 hx hb hts hown hK hw 4 rfl kw163 dX1_told_73 ?_
          refine lv_iload hx hb dX1_told_76 (lv_at hl 3 rfl) ?_
          obtain ⟨g7, h⟩ := z_gd h
          refine faX0_3 hx hb hK hw 4 rfl rfl g7 dX1_told_78 ?_
          refine lv_aload_n hx hb dX1_told_79 rfl (lv_at hl 1 rfl) ?_
          refine fgX0_4 hx hb hts hown hK hw 4 rfl kw167 dX1_told_80 ?_
          refine lv_iload hx hb dX1_told_83 (lv_at hl 3 rfl) ?_
          obtain ⟨g8, h⟩ := z_gd h
          refine faX0_4 hx hb hK hw 4 rfl rfl g8 dX1_told_85 ?_
          obtain ⟨z9, ez9, h⟩ := z_bd h
          refine xj_l (xrV (As := [.ref h_a0, .int (gA o_a0 3 v6.toNatClampNeg), .int (gA o_a0 4 v6.toNatClampNeg)]) (rest := []) ⟨hx, hb, hml, hown, hts⟩ (m_X3_worth_O l dC dI _ h_me_machine h_a0 q_me_machine k_me_machine q_a0 k_a0 nc_a0 ns_a0 o_me_machine o_a0 (gA o_a0 3 v6.toNatClampNeg) (gA o_a0 4 v6.toNatClampNeg) z9 ez9) kw558 kw555 kw556 kw557 kw114 hd_X3_worth ⟨rfl, rfl⟩ rfl rfl ⟨rfl, rfl⟩ hX hK hw [3, 4] (by decide) rfl rfl rfl rfl rfl hl.1 rfl rfl dX1_told_86) hw hA [3, 4] (by decide) rfl rfl (fun H locs hw => ?_)
          have hw : Wd dC dI A s.heap [wX1 h_me h_me_isles h_me_machine q_me k_me o_me, wX2 h_me_isles h_me_isles_now q_me_isles k_me_isles o_me_isles, wX4 h_me_isles_now q_me_isles_now k_me_isles_now o_me_isles_now, wX3 h_me_machine q_me_machine k_me_machine z9.2, wX0 h_a0 nc_a0 ns_a0 q_a0 k_a0 o_a0] H locs := hw
          refine lv_lconst (v := 1) hx hb dX1_told_89 (by decide) ?_
          refine W.lcmp hx hb dX1_told_90 ?_
          refine lv_if_ne (tgt := 130) hx hb dX1_told_91 (by decide) (fun c => ?_) (fun c => ?_)
          · have h := z_f h c
            exact bk_130_1 (lp_X1_told_O_51 nc_a0 ns_a0 o_me o_me_isles o_me_isles_now o_a0  N) ih v2 v6 z9.2 _ _ _ h hw (lv_sub hl [0, 1, 2, 3] rfl)
          · have h := z_t h c
            refine lv_aload_n hx hb dX1_told_94 rfl (lv_at hl 0 rfl) ?_
            refine fgX1_1 hx hb hts hown hK hw 0 rfl kw365 dX1_told_95 ?_
            refine lv_aload_n hx hb dX1_told_98 rfl (lv_at hl 1 rfl) ?_
            refine lv_aload_n hx hb dX1_told_99 rfl (lv_at hl 1 rfl) ?_
            refine fgX0_2 hx hb hts hown hK hw 4 rfl kw159 dX1_told_100 ?_
            refine lv_iload hx hb dX1_told_103 (lv_at hl 3 rfl) ?_
            obtain ⟨g10, h⟩ := z_gd h
            refine faX0_2 hx hb hK hw 4 rfl rfl g10 dX1_told_105 ?_
            refine lv_aload_n hx hb dX1_told_106 rfl (lv_at hl 1 rfl) ?_
            refine fgX0_3 hx hb hts hown hK hw 4 rfl kw163 dX1_told_107 ?_
            refine lv_iload hx hb dX1_told_110 (lv_at hl 3 rfl) ?_
            obtain ⟨g11, h⟩ := z_gd h
            refine faX0_3 hx hb hK hw 4 rfl rfl g11 dX1_told_112 ?_
            obtain ⟨z12, ez12, h⟩ := z_bd h
            refine xj_l (xrV (As := [.ref h_a0, .int (gA o_a0 2 v6.toNatClampNeg), .int (gA o_a0 3 v6.toNatClampNeg)]) (rest := []) ⟨hx, hb, hml, hown, hts⟩ (m_X3_worth_O l dC dI _ h_me_machine h_a0 q_me_machine k_me_machine q_a0 k_a0 nc_a0 ns_a0 z9.2 o_a0 (gA o_a0 2 v6.toNatClampNeg) (gA o_a0 3 v6.toNatClampNeg) z12 ez12) kw558 kw555 kw556 kw557 kw114 hd_X3_worth ⟨rfl, rfl⟩ rfl rfl ⟨rfl, rfl⟩ hX hK hw [3, 4] (by decide) rfl rfl rfl rfl rfl hl.1 rfl rfl dX1_told_113) hw hA [3, 4] (by decide) rfl rfl (fun H locs hw => ?_)
            have hw : Wd dC dI A s.heap [wX1 h_me h_me_isles h_me_machine q_me k_me o_me, wX2 h_me_isles h_me_isles_now q_me_isles k_me_isles o_me_isles, wX4 h_me_isles_now q_me_isles_now k_me_isles_now o_me_isles_now, wX3 h_me_machine q_me_machine k_me_machine z12.2, wX0 h_a0 nc_a0 ns_a0 q_a0 k_a0 o_a0] H locs := hw
            refine lv_lstore (lv' := [(7, .long z12.1), (0, .ref h_me), (1, .ref h_a0), (2, .int v2), (6, .int v6)]) hx hb dX1_told_116 hl (by decide) rfl (fun ls hl => ?_)
            refine lv_lload hx hb dX1_told_118 (lv_at hl 0 rfl) ?_
            refine lv_ldc2 (v := (-9000000000000000000)) hx hb hown (hts _ kw550) dX1_told_120 ?_
            refine W.lcmp hx hb dX1_told_123 ?_
            refine lv_if_eq (tgt := 130) hx hb dX1_told_124 (by decide) (fun c => ?_) (fun c => ?_)
            · have h := z_t h c
              exact bk_130_1 (lp_X1_told_O_51 nc_a0 ns_a0 o_me o_me_isles o_me_isles_now o_a0  N) ih v2 v6 z12.2 _ _ _ h hw (lv_sub hl [1, 2, 3, 4] rfl)
            · have h := z_f h c
              refine lv_lload hx hb dX1_told_127 (lv_at hl 0 rfl) ?_
              have hy := Option.some.inj h
              rw [← hQz, ← hy]
              exact xr_l (v := z12.1) hx hb hr hlk hK hw dX1_told_129
  unfold f_X1_told_O at h
  refine lv_aload_n hx hb dX1_told_0 rfl (lv_at hl 1 rfl) ?_
  refine lv_ifnull hx hb dX1_told_1 ?_
  refine lv_aload_n hx hb dX1_told_4 rfl (lv_at hl 0 rfl) ?_
  refine fgX1_0 hx hb hts hown hK hw 0 rfl kw363 dX1_told_5 ?_
  refine lv_iload_n hx hb dX1_told_8 rfl (lv_at hl 3 rfl) ?_
  obtain ⟨z1, ez1, h⟩ := z_bd h
  refine xj_i (xrV (As := [.int p2]) (rest := []) ⟨hx, hb, hml, hown, hts⟩ (m_X2_isPerson l dC dI _ h_me_isles h_me_isles_now q_me_isles k_me_isles o_me_isles p2 z1 ez1) kw504 kw548 kw502 kw503 kw115 hd_X2_isPerson ⟨rfl, rfl⟩ rfl rfl ⟨rfl, rfl⟩ hX hK hw [1] (by decide) rfl rfl rfl rfl rfl hl.1 rfl rfl dX1_told_9) hw hA [1] (by decide) rfl rfl (fun H locs hw => ?_)
  have hw : Wd dC dI A s.heap [wX1 h_me h_me_isles h_me_machine q_me k_me o_me, wX2 h_me_isles h_me_isles_now q_me_isles k_me_isles o_me_isles, wX4 h_me_isles_now q_me_isles_now k_me_isles_now o_me_isles_now, wX3 h_me_machine q_me_machine k_me_machine o_me_machine, wX0 h_a0 nc_a0 ns_a0 q_a0 k_a0 o_a0] H locs := hw
  refine lv_if_eq (tgt := 23) hx hb dX1_told_12 (by decide) (fun c => ?_) (fun c => ?_)
  · have h := z_t h c
    refine lv_ldc2 (v := (-9000000000000000000)) hx hb hown (hts _ kw550) dX1_told_23 ?_
    have hy := Option.some.inj h
    rw [← hQz, ← hy]
    exact xr_l (v := (-9000000000000000000 : Int64)) hx hb hr hlk hK hw dX1_told_26
  · have h := z_f h c
    refine lv_iload hx hb dX1_told_15 (lv_at hl 4 rfl) ?_
    obtain ⟨z2, ez2, h⟩ := z_bd h
    refine xj_i (xrSN (As := [.int p3]) (rest := []) ⟨hx, hb, hml, hown, hts⟩ (m_X8_isRace l dC dI _  p3 z2 ez2) kw527 (hX.1.2.2.2.2.2.2.1) kw526 kw110 hd_X8_isRace ⟨rfl, rfl⟩ rfl rfl ⟨rfl, rfl⟩ hX hK hw [] (by decide) rfl rfl hl.1 rfl rfl dX1_told_17) hw hA [] (by decide) rfl rfl (fun H locs hw => ?_)
    refine lv_if_ne (tgt := 27) hx hb dX1_told_20 (by decide) (fun c => ?_) (fun c => ?_)
    · have h := z_f h c
      refine lv_aload_n hx hb dX1_told_27 rfl (lv_at hl 0 rfl) ?_
      refine fgX1_1 hx hb hts hown hK hw 0 rfl kw365 dX1_told_28 ?_
      refine lv_aload_n hx hb dX1_told_31 rfl (lv_at hl 0 rfl) ?_
      refine fgX1_0 hx hb hts hown hK hw 0 rfl kw363 dX1_told_32 ?_
      refine lv_iload_n hx hb dX1_told_35 rfl (lv_at hl 3 rfl) ?_
      refine lv_iload hx hb dX1_told_36 (lv_at hl 4 rfl) ?_
      refine lv_iload hx hb dX1_told_38 (lv_at hl 5 rfl) ?_
      obtain ⟨z3, ez3, h⟩ := z_bd h
      refine xj_v (xrV (As := [.ref h_me_isles, .int p2, .int p3, .int p4]) (rest := []) ⟨hx, hb, hml, hown, hts⟩ (m_X3_setLawWords_O l dC dI _ h_me_machine h_me_isles h_me_isles_now q_me_machine k_me_machine q_me_isles k_me_isles q_me_isles_now k_me_isles_now o_me_machine o_me_isles o_me_isles_now p2 p3 p4 z3 ez3) kw554 kw551 kw552 kw553 kw114 hd_X3_setLawWords ⟨rfl, rfl⟩ rfl rfl ⟨rfl, rfl⟩ hX hK hw [3, 1, 2] (by decide) rfl rfl rfl rfl rfl hl.1 rfl rfl dX1_told_40) hw hA [3, 1, 2] (by decide) rfl rfl (fun H locs hw => ?_)
      have hw : Wd dC dI A s.heap [wX1 h_me h_me_isles h_me_machine q_me k_me o_me, wX2 h_me_isles h_me_isles_now q_me_isles k_me_isles o_me_isles, wX4 h_me_isles_now q_me_isles_now k_me_isles_now o_me_isles_now, wX3 h_me_machine q_me_machine k_me_machine z3, wX0 h_a0 nc_a0 ns_a0 q_a0 k_a0 o_a0] H locs := hw
      refine lv_aload_n hx hb dX1_told_43 rfl (lv_at hl 1 rfl) ?_
      refine fgX0_7 hx hb hts hown hK hw 4 rfl kw175 dX1_told_44 ?_
      refine lv_iconst (v := 1) hx hb dX1_told_47 (by decide) ?_
      refine lv_isub hx hb dX1_told_48 ?_
      obtain ⟨x4, ex4, h⟩ := z_lt h
      refine lv_fi (v := x4) ex4.symm ?_
      refine lv_istore (lv' := [(6, .int x4), (0, .ref h_me), (1, .ref h_a0), (2, .int p1), (3, .int p2), (4, .int p3), (5, .int p4)]) hx hb dX1_told_49 hl (by decide) rfl (fun ls hl => ?_)
      exact lp_51_0  zfu p1 x4 z3 _ _ _ h hw (lv_sub hl [1, 2, 3, 0] rfl)
    · have h := z_t h c
      refine lv_ldc2 (v := (-9000000000000000000)) hx hb hown (hts _ kw550) dX1_told_23 ?_
      have hy := Option.some.inj h
      rw [← hQz, ← hy]
      exact xr_l (v := (-9000000000000000000 : Int64)) hx hb hr hlk hK hw dX1_told_26

def f_X1_isBarred_Q (o_me : Ob) (o_me_isles : Ob) (o_me_isles_now : Ob) (o_me_machine : Ob) (o_pool : List CR) (p0 : Option Nat) (p1 : Int32) (p2 : Int32) : Option (Int32 × Ob) :=
  (zop p0 o_pool ((f_X1_told_N o_me (3 : Int32) p1 p2 (-1 : Int32)).map (fun v => (v, o_me_machine))) (fun cr => f_X1_told_O cr.2.2.2.1 cr.2.2.2.2.1 o_me o_me_isles o_me_isles_now o_me_machine cr.2.2.2.2.2 (3 : Int32) p1 p2 (-1 : Int32))).bind fun z1 =>
  if (lg_cmp z1.1 (-9000000000000000000 : Int64)) = (0 : Int32) then
  (some ((0 : Int32), z1.2))
  else
  (some ((1 : Int32), z1.2))
set_option maxHeartbeats 4000000 in
set_option maxRecDepth 100000 in
theorem m_X1_isBarred_Q (l : Launch) (dC : Nat → ClassId) (dI : Nat → Nat → Nat) (sz : Nat) (h_me : Nat) (h_me_isles : Nat) (h_me_machine : Nat) (h_me_isles_now : Nat) (q_me : Nat → Nat) (k_me : Nat → ClassId) (q_me_isles : Nat → Nat) (k_me_isles : Nat → ClassId) (q_me_isles_now : Nat → Nat) (k_me_isles_now : Nat → ClassId) (q_me_machine : Nat → Nat) (k_me_machine : Nat → ClassId) (o_me : Ob) (o_me_isles : Ob) (o_me_isles_now : Ob) (o_me_machine : Ob) (o_pool : List CR) (p0 : Option Nat) (p1 : Int32) (p2 : Int32) (y : Int32 × Ob) (h : f_X1_isBarred_Q o_me o_me_isles o_me_isles_now o_me_machine o_pool p0 p1 p2 = some y) : CI l yX1_isBarred cX1_isBarred 4 (some .boolean) ({ frames := 3, cells := 0, slots := 0, locals := 84 } : Room) dC dI sz [.ref h_me, va_rf p0, .int p1, .int p2] [wX1 h_me h_me_isles h_me_machine q_me k_me o_me, wX2 h_me_isles h_me_isles_now q_me_isles k_me_isles o_me_isles, wX4 h_me_isles_now q_me_isles_now k_me_isles_now o_me_isles_now, wX3 h_me_machine q_me_machine k_me_machine o_me_machine, wPL o_pool] [tX1 k_me, tX2 k_me_isles, tX4 k_me_isles_now, tX3 k_me_machine, tPL o_pool] y.1 [wX1 h_me h_me_isles h_me_machine q_me k_me o_me, wX2 h_me_isles h_me_isles_now q_me_isles k_me_isles o_me_isles, wX4 h_me_isles_now q_me_isles_now k_me_isles_now o_me_isles_now, wX3 h_me_machine q_me_machine k_me_machine y.2, wPL o_pool] := by
  refine CC_of (by decide) (by cases p0 <;> exact Nat.le_of_ble_eq_true rfl) ?_
  intro p e s m below meth c A ls hx hb hml hr hlk hnm hown hts hX hK hP hD hA hl
  have hl : lv_has ls 4 [(0, .ref h_me), (1, va_rf p0), (2, .int p1), (3, .int p2)] := by
    have e9 : lv_args 0 [.ref h_me, va_rf p0, .int p1, .int p2] = [(0, .ref h_me), (1, va_rf p0), (2, .int p1), (3, .int p2)] := by cases p0 <;> rfl
    rw [← e9]; exact hl
  have hown : s.vm.findClass RX1 = some m.cls := hown
  have hw : Wd dC dI A s.heap [wX1 h_me h_me_isles h_me_machine q_me k_me o_me, wX2 h_me_isles h_me_isles_now q_me_isles k_me_isles o_me_isles, wX4 h_me_isles_now q_me_isles_now k_me_isles_now o_me_isles_now, wX3 h_me_machine q_me_machine k_me_machine o_me_machine, wPL o_pool] s.heap [] := ⟨hP, hD, va_S.rf⟩
  generalize hQz : (MQ below (QI dC dI (fun r (_ : Unit) => r = y.1) (fun _ => Jn [wX1 h_me h_me_isles h_me_machine q_me k_me o_me, wX2 h_me_isles h_me_isles_now q_me_isles k_me_isles o_me_isles, wX4 h_me_isles_now q_me_isles_now k_me_isles_now o_me_isles_now, wX3 h_me_machine q_me_machine k_me_machine y.2, wPL o_pool]) (fun _ => Jt [tX1 k_me, tX2 k_me_isles, tX4 k_me_isles_now, tX3 k_me_machine, tPL o_pool]) A) ([.ref h_me, va_rf p0, .int p1, .int p2] : List Value).toArray s 0 0 A) = Qz
  clear hP hD hnm
  unfold f_X1_isBarred_Q at h
  refine lv_aload_n hx hb dX1_isBarred_0 rfl (lv_at hl 0 rfl) ?_
  refine xaload_n hx hb dX1_isBarred_1 rfl (lv_at hl 1 rfl) ?_
  refine lv_iconst (v := 3) hx hb dX1_isBarred_2 (by decide) ?_
  refine lv_iload_n hx hb dX1_isBarred_3 rfl (lv_at hl 2 rfl) ?_
  refine lv_iload_n hx hb dX1_isBarred_4 rfl (lv_at hl 3 rfl) ?_
  refine lv_iconst (v := (-1)) hx hb dX1_isBarred_5 (by decide) ?_
  obtain ⟨z1, ez1, h⟩ := z_bd h
  have kk9 : ∀ (H : Heap) (locs : List Loc), Wd dC dI A s.heap [wX1 h_me h_me_isles h_me_machine q_me k_me o_me, wX2 h_me_isles h_me_isles_now q_me_isles k_me_isles o_me_isles, wX4 h_me_isles_now q_me_isles_now k_me_isles_now o_me_isles_now, wX3 h_me_machine q_me_machine k_me_machine z1.2, wPL o_pool] H locs → W p l e ({ frames := 3, cells := 0, slots := 0, locals := 84 } : Room) s m ([.ref h_me, va_rf p0, .int p1, .int p2] : List Value).toArray below meth c H locs 0 0 Qz (F0 m 9 ls [.long z1.1]) := by
    intro H locs hw
    refine lv_ldc2 (v := (-9000000000000000000)) hx hb hown (hts _ kw550) dX1_isBarred_9 ?_
    refine W.lcmp hx hb dX1_isBarred_12 ?_
    refine lv_if_eq (tgt := 20) hx hb dX1_isBarred_13 (by decide) (fun c => ?_) (fun c => ?_)
    · have h := z_t h c
      refine lv_iconst (v := 0) hx hb dX1_isBarred_20 (by decide) ?_
      have hy := Option.some.inj h
      rw [← hQz, ← hy]
      exact xr_i (v := (0 : Int32)) hx hb hr rfl hlk hK hw dX1_isBarred_21
    · have h := z_f h c
      refine lv_iconst (v := 1) hx hb dX1_isBarred_16 (by decide) ?_
      refine lv_goto (tgt := 21) hx hb dX1_isBarred_17 (by decide) ?_
      have hy := Option.some.inj h
      rw [← hQz, ← hy]
      exact xr_i (v := (1 : Int32)) hx hb hr rfl hlk hK hw dX1_isBarred_21
  rcases z_op ez1 with ⟨er, ek⟩ | ⟨⟨h_law, q_law, k_law, nc_law, ns_law, o_law⟩, l1, l2, er, el, ek⟩
  · refine W.eq (g2 := F0 m 6 ls [.int (-1 : Int32), .int p2, .int p1, .int (3 : Int32), .null, .ref h_me]) (by rw [er]; rfl) ?_
    obtain ⟨v9, ev9, ek⟩ := Option.map_eq_some_iff.mp ek
    refine xj_l (xrV (As := [.null, .int (3 : Int32), .int p1, .int p2, .int (-1 : Int32)]) (rest := []) ⟨hx, hb, hml, hown, hts⟩ (m_X1_told_N l dC dI _ h_me h_me_isles h_me_machine q_me k_me o_me (3 : Int32) p1 p2 (-1 : Int32) v9 ev9) kw547 kw544 kw546 kw2 kw117 hd_X1_told ⟨rfl, rfl⟩ rfl rfl ⟨rfl, rfl⟩ hX hK hw [0] (by decide) rfl rfl rfl rfl rfl hl.1 rfl rfl dX1_isBarred_6) hw hA [0] (by decide) rfl rfl (fun H locs hw => ?_)
    refine lv_fl (v := z1.1) (by rw [← ek]) ?_
    refine kk9 H locs ?_
    rw [← ek]
    exact hw
  · refine W.eq (g2 := F0 m 6 ls [.int (-1 : Int32), .int p2, .int p1, .int (3 : Int32), .ref h_law, .ref h_me]) (by rw [er]; rfl) ?_
    have hw := wd_split 4 (l1 := l1) (l2 := l2) (c := (h_law, q_law, k_law, nc_law, ns_law, o_law)) (by rw [← el]; rfl) hw
    have hK9 := wk_split (Ts := [tX1 k_me, tX2 k_me_isles, tX4 k_me_isles_now, tX3 k_me_machine, tPL o_pool]) 4 (l1 := l1) (l2 := l2) (c := (h_law, q_law, k_law, nc_law, ns_law, o_law)) (by rw [← el]; rfl) hK
    have hw : Wd dC dI A s.heap [wX1 h_me h_me_isles h_me_machine q_me k_me o_me, wX2 h_me_isles h_me_isles_now q_me_isles k_me_isles o_me_isles, wX4 h_me_isles_now q_me_isles_now k_me_isles_now o_me_isles_now, wX3 h_me_machine q_me_machine k_me_machine o_me_machine, wPL (l1 ++ l2), wX0 h_law nc_law ns_law q_law k_law o_law] _ _ := hw
    have hK9 : va_K (dC, dI) vwCl (Jt [tX1 k_me, tX2 k_me_isles, tX4 k_me_isles_now, tX3 k_me_machine, tPL (l1 ++ l2), tX0 k_law]) s := hK9
    refine xj_l (xrV (As := [.ref h_law, .int (3 : Int32), .int p1, .int p2, .int (-1 : Int32)]) (rest := []) ⟨hx, hb, hml, hown, hts⟩ (m_X1_told_O l dC dI _ h_me h_me_isles h_me_machine h_me_isles_now h_law q_me k_me q_me_isles k_me_isles q_me_isles_now k_me_isles_now q_me_machine k_me_machine q_law k_law nc_law ns_law o_me o_me_isles o_me_isles_now o_me_machine o_law (3 : Int32) p1 p2 (-1 : Int32) z1 ek) kw547 kw544 kw546 kw2 kw117 hd_X1_told ⟨rfl, rfl⟩ rfl rfl ⟨rfl, rfl⟩ hX hK9 hw [0, 1, 2, 3, 5] (by decide) rfl rfl rfl rfl rfl hl.1 rfl rfl dX1_isBarred_6) hw hA [0, 1, 2, 3, 5] (by decide) rfl rfl (fun H locs hw => ?_)
    have hw := wd_join 4 (l1 := l1) (l2 := l2) (c := (h_law, q_law, k_law, nc_law, ns_law, o_law)) (Ls := [wX1 h_me h_me_isles h_me_machine q_me k_me o_me, wX2 h_me_isles h_me_isles_now q_me_isles k_me_isles o_me_isles, wX4 h_me_isles_now q_me_isles_now k_me_isles_now o_me_isles_now, wX3 h_me_machine q_me_machine k_me_machine z1.2, wPL o_pool]) rfl hw
    rw [← el] at hw
    exact kk9 H locs hw

