def f_X2_isPerson (o_me : Ob) (p0 : Int32) : Option (Int32) :=
  if p0 < (0 : Int32) then
  (some (0 : Int32))
  else
  (if (gI o_me 7) ≤ p0 then
  (some (0 : Int32))
  else
  (some (1 : Int32)))
set_option maxHeartbeats 4000000 in
set_option maxRecDepth 100000 in
theorem m_X2_isPerson (l : Launch) (dC : Nat → ClassId) (dI : Nat → Nat → Nat) (sz : Nat) (h_me : Nat) (h_me_now : Nat) (q_me : Nat → Nat) (k_me : Nat → ClassId) (o_me : Ob) (p0 : Int32) (y : Int32) (h : f_X2_isPerson o_me p0 = some y) : CI l yX2_isPerson cX2_isPerson 2 (some .boolean) ({ frames := 0, cells := 0, slots := 0, locals := 0 } : Room) dC dI sz [.ref h_me, .int p0] [wX2 h_me h_me_now q_me k_me o_me] [tX2 k_me] y [wX2 h_me h_me_now q_me k_me o_me] := by
  refine CC_of (by decide) (Nat.le_of_ble_eq_true rfl) ?_
  intro p e s m below meth c A ls hx hb hml hr hlk hnm hown hts hX hK hP hD hA hl
  have hl : lv_has ls 2 [(0, .ref h_me), (1, .int p0)] := hl
  have hown : s.vm.findClass RX2 = some m.cls := hown
  have hw : Wd dC dI A s.heap [wX2 h_me h_me_now q_me k_me o_me] s.heap [] := ⟨hP, hD, va_S.rf⟩
  generalize hQz : (MQ below (QI dC dI (fun r (_ : Unit) => r = y) (fun _ => Jn [wX2 h_me h_me_now q_me k_me o_me]) (fun _ => Jt [tX2 k_me]) A) ([.ref h_me, .int p0] : List Value).toArray s 0 0 A) = Qz
  clear hP hD hnm
  unfold f_X2_isPerson at h
  refine lv_iload_n hx hb dX2_isPerson_0 rfl (lv_at hl 1 rfl) ?_
  refine lv_if_lt (tgt := 16) hx hb dX2_isPerson_1 (by decide) (fun c => ?_) (fun c => ?_)
  · have h := z_t h c
    refine lv_iconst (v := 0) hx hb dX2_isPerson_16 (by decide) ?_
    have hy := Option.some.inj h
    rw [← hQz, ← hy]
    exact xr_i (v := (0 : Int32)) hx hb hr rfl hlk hK hw dX2_isPerson_17
  · have h := z_f h c
    refine lv_iload_n hx hb dX2_isPerson_4 rfl (lv_at hl 1 rfl) ?_
    refine lv_aload_n hx hb dX2_isPerson_5 rfl (lv_at hl 0 rfl) ?_
    refine fgX2_7 hx hb hts hown hK hw 0 rfl kw315 dX2_isPerson_6 ?_
    refine lv_icmp_ge (tgt := 16) hx hb dX2_isPerson_9 (by decide) (fun c => ?_) (fun c => ?_)
    · have h := z_t h c
      refine lv_iconst (v := 0) hx hb dX2_isPerson_16 (by decide) ?_
      have hy := Option.some.inj h
      rw [← hQz, ← hy]
      exact xr_i (v := (0 : Int32)) hx hb hr rfl hlk hK hw dX2_isPerson_17
    · have h := z_f h c
      refine lv_iconst (v := 1) hx hb dX2_isPerson_12 (by decide) ?_
      refine lv_goto (tgt := 17) hx hb dX2_isPerson_13 (by decide) ?_
      have hy := Option.some.inj h
      rw [← hQz, ← hy]
      exact xr_i (v := (1 : Int32)) hx hb hr rfl hlk hK hw dX2_isPerson_17

def f_X8_isRace (p0 : Int32) : Option (Int32) :=
  if p0 < (0 : Int32) then
  (some (0 : Int32))
  else
  (if (4 : Int32) ≤ p0 then
  (some (0 : Int32))
  else
  (some (1 : Int32)))
set_option maxHeartbeats 4000000 in
set_option maxRecDepth 100000 in
theorem m_X8_isRace (l : Launch) (dC : Nat → ClassId) (dI : Nat → Nat → Nat) (sz : Nat)  (p0 : Int32) (y : Int32) (h : f_X8_isRace p0 = some y) : CI l yX8_isRace cX8_isRace 1 (some .boolean) ({ frames := 0, cells := 0, slots := 0, locals := 0 } : Room) dC dI sz [.int p0] [] [] y [] := by
  refine CC_of (by decide) (Nat.le_of_ble_eq_true rfl) ?_
  intro p e s m below meth c A ls hx hb hml hr hlk hnm hown hts hX hK hP hD hA hl
  have hl : lv_has ls 1 [(0, .int p0)] := hl
  have hown : s.vm.findClass RX8 = some m.cls := hown
  have hw : Wd dC dI A s.heap [] s.heap [] := ⟨hP, hD, va_S.rf⟩
  generalize hQz : (MQ below (QI dC dI (fun r (_ : Unit) => r = y) (fun _ => Jn []) (fun _ => Jt []) A) ([.int p0] : List Value).toArray s 0 0 A) = Qz
  clear hP hD hnm
  unfold f_X8_isRace at h
  refine lv_iload_n hx hb dX8_isRace_0 rfl (lv_at hl 0 rfl) ?_
  refine lv_if_lt (tgt := 13) hx hb dX8_isRace_1 (by decide) (fun c => ?_) (fun c => ?_)
  · have h := z_t h c
    refine lv_iconst (v := 0) hx hb dX8_isRace_13 (by decide) ?_
    have hy := Option.some.inj h
    rw [← hQz, ← hy]
    exact xr_i (v := (0 : Int32)) hx hb hr rfl hlk hK hw dX8_isRace_14
  · have h := z_f h c
    refine lv_iload_n hx hb dX8_isRace_4 rfl (lv_at hl 0 rfl) ?_
    refine lv_iconst (v := 4) hx hb dX8_isRace_5 (by decide) ?_
    refine lv_icmp_ge (tgt := 13) hx hb dX8_isRace_6 (by decide) (fun c => ?_) (fun c => ?_)
    · have h := z_t h c
      refine lv_iconst (v := 0) hx hb dX8_isRace_13 (by decide) ?_
      have hy := Option.some.inj h
      rw [← hQz, ← hy]
      exact xr_i (v := (0 : Int32)) hx hb hr rfl hlk hK hw dX8_isRace_14
    · have h := z_f h c
      refine lv_iconst (v := 1) hx hb dX8_isRace_9 (by decide) ?_
      refine lv_goto (tgt := 14) hx hb dX8_isRace_10 (by decide) ?_
      have hy := Option.some.inj h
      rw [← hQz, ← hy]
      exact xr_i (v := (1 : Int32)) hx hb hr rfl hlk hK hw dX8_isRace_14

def f_X2_isLaw (o_me : Ob) (p0 : Int32) : Option (Int32) :=
  if p0 < (0 : Int32) then
  (some (0 : Int32))
  else
  (if (gI o_me 9) ≤ p0 then
  (some (0 : Int32))
  else
  (some (1 : Int32)))
set_option maxHeartbeats 4000000 in
set_option maxRecDepth 100000 in
theorem m_X2_isLaw (l : Launch) (dC : Nat → ClassId) (dI : Nat → Nat → Nat) (sz : Nat) (h_me : Nat) (h_me_now : Nat) (q_me : Nat → Nat) (k_me : Nat → ClassId) (o_me : Ob) (p0 : Int32) (y : Int32) (h : f_X2_isLaw o_me p0 = some y) : CI l yX2_isLaw cX2_isLaw 2 (some .boolean) ({ frames := 0, cells := 0, slots := 0, locals := 0 } : Room) dC dI sz [.ref h_me, .int p0] [wX2 h_me h_me_now q_me k_me o_me] [tX2 k_me] y [wX2 h_me h_me_now q_me k_me o_me] := by
  refine CC_of (by decide) (Nat.le_of_ble_eq_true rfl) ?_
  intro p e s m below meth c A ls hx hb hml hr hlk hnm hown hts hX hK hP hD hA hl
  have hl : lv_has ls 2 [(0, .ref h_me), (1, .int p0)] := hl
  have hown : s.vm.findClass RX2 = some m.cls := hown
  have hw : Wd dC dI A s.heap [wX2 h_me h_me_now q_me k_me o_me] s.heap [] := ⟨hP, hD, va_S.rf⟩
  generalize hQz : (MQ below (QI dC dI (fun r (_ : Unit) => r = y) (fun _ => Jn [wX2 h_me h_me_now q_me k_me o_me]) (fun _ => Jt [tX2 k_me]) A) ([.ref h_me, .int p0] : List Value).toArray s 0 0 A) = Qz
  clear hP hD hnm
  unfold f_X2_isLaw at h
  refine lv_iload_n hx hb dX2_isLaw_0 rfl (lv_at hl 1 rfl) ?_
  refine lv_if_lt (tgt := 16) hx hb dX2_isLaw_1 (by decide) (fun c => ?_) (fun c => ?_)
  · have h := z_t h c
    refine lv_iconst (v := 0) hx hb dX2_isLaw_16 (by decide) ?_
    have hy := Option.some.inj h
    rw [← hQz, ← hy]
    exact xr_i (v := (0 : Int32)) hx hb hr rfl hlk hK hw dX2_isLaw_17
  · have h := z_f h c
    refine lv_iload_n hx hb dX2_isLaw_4 rfl (lv_at hl 1 rfl) ?_
    refine lv_aload_n hx hb dX2_isLaw_5 rfl (lv_at hl 0 rfl) ?_
    refine fgX2_9 hx hb hts hown hK hw 0 rfl kw322 dX2_isLaw_6 ?_
    refine lv_icmp_ge (tgt := 16) hx hb dX2_isLaw_9 (by decide) (fun c => ?_) (fun c => ?_)
    · have h := z_t h c
      refine lv_iconst (v := 0) hx hb dX2_isLaw_16 (by decide) ?_
      have hy := Option.some.inj h
      rw [← hQz, ← hy]
      exact xr_i (v := (0 : Int32)) hx hb hr rfl hlk hK hw dX2_isLaw_17
    · have h := z_f h c
      refine lv_iconst (v := 1) hx hb dX2_isLaw_12 (by decide) ?_
      refine lv_goto (tgt := 17) hx hb dX2_isLaw_13 (by decide) ?_
      have hy := Option.some.inj h
      rw [← hQz, ← hy]
      exact xr_i (v := (1 : Int32)) hx hb hr rfl hlk hK hw dX2_isLaw_17

def f_X2_lawAt (o_me : Ob) (p0 : Int32) : Option (Option Nat) :=
  (f_X2_isLaw o_me p0).bind fun z1 =>
  if z1 = (0 : Int32) then
  (some none)
  else
  (zgd (zin p0 6) <|
  some (gR o_me 6 p0.toNatClampNeg))
set_option maxHeartbeats 4000000 in
set_option maxRecDepth 100000 in
theorem m_X2_lawAt (l : Launch) (dC : Nat → ClassId) (dI : Nat → Nat → Nat) (sz : Nat) (h_me : Nat) (h_me_now : Nat) (q_me : Nat → Nat) (k_me : Nat → ClassId) (o_me : Ob) (p0 : Int32) (y : Option Nat) (h : f_X2_lawAt o_me p0 = some y) : CQ l yX2_lawAt cX2_lawAt 2 (some (.object "NoSecond$Code")) ({ frames := 1, cells := 0, slots := 0, locals := 21 } : Room) dC dI sz [.ref h_me, .int p0] [wX2 h_me h_me_now q_me k_me o_me] [tX2 k_me] y [wX2 h_me h_me_now q_me k_me o_me] := by
  refine CC_of (by decide) (Nat.le_of_ble_eq_true rfl) ?_
  intro p e s m below meth c A ls hx hb hml hr hlk hnm hown hts hX hK hP hD hA hl
  have hl : lv_has ls 2 [(0, .ref h_me), (1, .int p0)] := hl
  have hown : s.vm.findClass RX2 = some m.cls := hown
  have hw : Wd dC dI A s.heap [wX2 h_me h_me_now q_me k_me o_me] s.heap [] := ⟨hP, hD, va_S.rf⟩
  generalize hQz : (MQ below (QQ dC dI (fun r (_ : Unit) => r = y) (fun _ => Jn [wX2 h_me h_me_now q_me k_me o_me]) (fun _ => Jt [tX2 k_me]) A) ([.ref h_me, .int p0] : List Value).toArray s 0 0 A) = Qz
  clear hP hD hnm
  unfold f_X2_lawAt at h
  refine lv_aload_n hx hb dX2_lawAt_0 rfl (lv_at hl 0 rfl) ?_
  refine lv_iload_n hx hb dX2_lawAt_1 rfl (lv_at hl 1 rfl) ?_
  obtain ⟨z1, ez1, h⟩ := z_bd h
  refine xj_i (xrV (As := [.int p0]) (rest := []) ⟨hx, hb, hml, hown, hts⟩ (m_X2_isLaw l dC dI _ h_me h_me_now q_me k_me o_me p0 z1 ez1) kw539 kw536 kw537 kw538 kw115 hd_X2_isLaw ⟨rfl, rfl⟩ rfl rfl ⟨rfl, rfl⟩ hX hK hw [0] (by decide) rfl rfl rfl rfl rfl hl.1 rfl rfl dX2_lawAt_2) hw hA [0] (by decide) rfl rfl (fun H locs hw => ?_)
  have hw : Wd dC dI A s.heap [wX2 h_me h_me_now q_me k_me o_me] H locs := hw
  refine lv_if_eq (tgt := 17) hx hb dX2_lawAt_5 (by decide) (fun c => ?_) (fun c => ?_)
  · have h := z_t h c
    refine lv_null hx hb dX2_lawAt_17 ?_
    have hy := Option.some.inj h
    rw [← hQz, ← hy]
    exact xr_q none rfl hx hb hr hlk hK hw dX2_lawAt_18
  · have h := z_f h c
    refine lv_aload_n hx hb dX2_lawAt_8 rfl (lv_at hl 0 rfl) ?_
    refine fgX2_6 hx hb hts hown hK hw 0 rfl kw314 dX2_lawAt_9 ?_
    refine lv_iload_n hx hb dX2_lawAt_12 rfl (lv_at hl 1 rfl) ?_
    obtain ⟨g2, h⟩ := z_gd h
    refine faX2_6 hx hb hK hw 0 rfl rfl g2 dX2_lawAt_13 ?_
    refine lv_goto (tgt := 18) hx hb dX2_lawAt_14 (by decide) ?_
    have hy := Option.some.inj h
    rw [← hQz, ← hy]
    exact xr_q (gR o_me 6 p0.toNatClampNeg) rfl hx hb hr hlk hK hw dX2_lawAt_18

def f_X2_lawInForce (o_me : Ob) : Option (Option Nat) :=
  (f_X2_lawAt o_me (gI o_me 10)).bind fun z1 =>
  some z1
set_option maxHeartbeats 4000000 in
set_option maxRecDepth 100000 in
theorem m_X2_lawInForce (l : Launch) (dC : Nat → ClassId) (dI : Nat → Nat → Nat) (sz : Nat) (h_me : Nat) (h_me_now : Nat) (q_me : Nat → Nat) (k_me : Nat → ClassId) (o_me : Ob) (y : Option Nat) (h : f_X2_lawInForce o_me = some y) : CQ l yX2_lawInForce cX2_lawInForce 1 (some (.object "NoSecond$Code")) ({ frames := 2, cells := 0, slots := 0, locals := 42 } : Room) dC dI sz [.ref h_me] [wX2 h_me h_me_now q_me k_me o_me] [tX2 k_me] y [wX2 h_me h_me_now q_me k_me o_me] := by
  refine CC_of (by decide) (Nat.le_of_ble_eq_true rfl) ?_
  intro p e s m below meth c A ls hx hb hml hr hlk hnm hown hts hX hK hP hD hA hl
  have hl : lv_has ls 1 [(0, .ref h_me)] := hl
  have hown : s.vm.findClass RX2 = some m.cls := hown
  have hw : Wd dC dI A s.heap [wX2 h_me h_me_now q_me k_me o_me] s.heap [] := ⟨hP, hD, va_S.rf⟩
  generalize hQz : (MQ below (QQ dC dI (fun r (_ : Unit) => r = y) (fun _ => Jn [wX2 h_me h_me_now q_me k_me o_me]) (fun _ => Jt [tX2 k_me]) A) ([.ref h_me] : List Value).toArray s 0 0 A) = Qz
  clear hP hD hnm
  unfold f_X2_lawInForce at h
  refine lv_aload_n hx hb dX2_lawInForce_0 rfl (lv_at hl 0 rfl) ?_
  refine lv_aload_n hx hb dX2_lawInForce_1 rfl (lv_at hl 0 rfl) ?_
  refine fgX2_10 hx hb hts hown hK hw 0 rfl kw324 dX2_lawInForce_2 ?_
  obtain ⟨z1, ez1, h⟩ := z_bd h
  refine xj_q (xrV (As := [.int (gI o_me 10)]) (rest := []) ⟨hx, hb, hml, hown, hts⟩ (m_X2_lawAt l dC dI _ h_me h_me_now q_me k_me o_me (gI o_me 10) z1 ez1) kw535 kw532 kw533 kw534 kw115 hd_X2_lawAt ⟨rfl, rfl⟩ rfl rfl ⟨rfl, rfl⟩ hX hK hw [0] (by decide) rfl rfl rfl rfl rfl hl.1 rfl rfl dX2_lawInForce_5) hw hA [0] (by decide) rfl rfl (fun H locs hw => ?_)
  have hw : Wd dC dI A s.heap [wX2 h_me h_me_now q_me k_me o_me] H locs := hw
  have hy := Option.some.inj h
  rw [← hQz, ← hy]
  exact xr_q z1 rfl hx hb hr hlk hK hw dX2_lawInForce_8

def f_X1_told_N (o_me : Ob) (p1 : Int32) (p2 : Int32) (p3 : Int32) (p4 : Int32) : Option (Int64) :=
  some (-9000000000000000000 : Int64)
set_option maxHeartbeats 4000000 in
set_option maxRecDepth 100000 in
theorem m_X1_told_N (l : Launch) (dC : Nat → ClassId) (dI : Nat → Nat → Nat) (sz : Nat) (h_me : Nat) (h_me_isles : Nat) (h_me_machine : Nat) (q_me : Nat → Nat) (k_me : Nat → ClassId) (o_me : Ob) (p1 : Int32) (p2 : Int32) (p3 : Int32) (p4 : Int32) (y : Int64) (h : f_X1_told_N o_me p1 p2 p3 p4 = some y) : CL l yX1_told cX1_told 9 (some .long) ({ frames := 0, cells := 0, slots := 0, locals := 0 } : Room) dC dI sz [.ref h_me, .null, .int p1, .int p2, .int p3, .int p4] [wX1 h_me h_me_isles h_me_machine q_me k_me o_me] [tX1 k_me] y [wX1 h_me h_me_isles h_me_machine q_me k_me o_me] := by
  refine CC_of (by decide) (Nat.le_of_ble_eq_true rfl) ?_
  intro p e s m below meth c A ls hx hb hml hr hlk hnm hown hts hX hK hP hD hA hl
  have hl : lv_has ls 9 [(0, .ref h_me), (1, .null), (2, .int p1), (3, .int p2), (4, .int p3), (5, .int p4)] := hl
  have hown : s.vm.findClass RX1 = some m.cls := hown
  have hw : Wd dC dI A s.heap [wX1 h_me h_me_isles h_me_machine q_me k_me o_me] s.heap [] := ⟨hP, hD, va_S.rf⟩
  generalize hQz : (MQ below (QL dC dI (fun r (_ : Unit) => r = y) (fun _ => Jn [wX1 h_me h_me_isles h_me_machine q_me k_me o_me]) (fun _ => Jt [tX1 k_me]) A) ([.ref h_me, .null, .int p1, .int p2, .int p3, .int p4] : List Value).toArray s 0 0 A) = Qz
  clear hP hD hnm
  unfold f_X1_told_N at h
  refine lv_aload_nN hx hb dX1_told_0 rfl (lv_at hl 1 rfl) ?_
  refine lv_ifnullN (tgt := 23) hx hb dX1_told_1 (by decide) ?_
  refine lv_ldc2 (v := (-9000000000000000000)) hx hb hown (hts _ kw550) dX1_told_23 ?_
  have hy := Option.some.inj h
  rw [← hQz, ← hy]
  exact xr_l (v := (-9000000000000000000 : Int64)) hx hb hr hlk hK hw dX1_told_26

def f_X3_setLawWords_O (o_me : Ob) (o_a0 : Ob) (o_a0_now : Ob) (p1 : Int32) (p2 : Int32) (p3 : Int32) : Option (Ob) :=
  zlt (tA o_me 0 (0 : Int32).toNatClampNeg p1) fun o1 =>
  zlt (tA o1 0 (1 : Int32).toNatClampNeg p2) fun o2 =>
  zgd (zin ((p1 * (4 : Int32)) + p2) 28) <|
  zlt (tA o2 0 (2 : Int32).toNatClampNeg (gA o_a0 2 ((p1 * (4 : Int32)) + p2).toNatClampNeg)) fun o4 =>
  zgd (zin p1 7) <|
  zlt (tA o4 0 (3 : Int32).toNatClampNeg (gA o_a0_now 0 p1.toNatClampNeg)) fun o6 =>
  zgd (zin p1 7) <|
  zlt (tA o6 0 (4 : Int32).toNatClampNeg (gA o_a0_now 1 p1.toNatClampNeg)) fun o8 =>
  zlt (tA o8 0 (5 : Int32).toNatClampNeg p3) fun o9 =>
  zlt (tA o9 0 (6 : Int32).toNatClampNeg (gI o_a0_now 3)) fun o10 =>
  zlt (tA o10 0 (7 : Int32).toNatClampNeg (gI o_a0_now 4)) fun o11 =>
  zlt (tA o11 0 (8 : Int32).toNatClampNeg (gI o_a0 12)) fun o12 =>
  some o12
set_option maxHeartbeats 4000000 in
set_option maxRecDepth 100000 in
theorem m_X3_setLawWords_O (l : Launch) (dC : Nat → ClassId) (dI : Nat → Nat → Nat) (sz : Nat) (h_me : Nat) (h_a0 : Nat) (h_a0_now : Nat) (q_me : Nat → Nat) (k_me : Nat → ClassId) (q_a0 : Nat → Nat) (k_a0 : Nat → ClassId) (q_a0_now : Nat → Nat) (k_a0_now : Nat → ClassId) (o_me : Ob) (o_a0 : Ob) (o_a0_now : Ob) (p1 : Int32) (p2 : Int32) (p3 : Int32) (y : Ob) (h : f_X3_setLawWords_O o_me o_a0 o_a0_now p1 p2 p3 = some y) : CV l yX3_setLawWords cX3_setLawWords 5 none ({ frames := 0, cells := 0, slots := 0, locals := 0 } : Room) dC dI sz [.ref h_me, .ref h_a0, .int p1, .int p2, .int p3] [wX3 h_me q_me k_me o_me, wX2 h_a0 h_a0_now q_a0 k_a0 o_a0, wX4 h_a0_now q_a0_now k_a0_now o_a0_now] [tX3 k_me, tX2 k_a0, tX4 k_a0_now] [wX3 h_me q_me k_me y, wX2 h_a0 h_a0_now q_a0 k_a0 o_a0, wX4 h_a0_now q_a0_now k_a0_now o_a0_now] := by
  refine CC_of (by decide) (Nat.le_of_ble_eq_true rfl) ?_
  intro p e s m below meth c A ls hx hb hml hr hlk hnm hown hts hX hK hP hD hA hl
  have hl : lv_has ls 5 [(0, .ref h_me), (1, .ref h_a0), (2, .int p1), (3, .int p2), (4, .int p3)] := hl
  have hown : s.vm.findClass RX3 = some m.cls := hown
  have hw : Wd dC dI A s.heap [wX3 h_me q_me k_me o_me, wX2 h_a0 h_a0_now q_a0 k_a0 o_a0, wX4 h_a0_now q_a0_now k_a0_now o_a0_now] s.heap [] := ⟨hP, hD, va_S.rf⟩
  generalize hQz : (MQ below (QV dC dI (fun (_ : Unit) => True) (fun _ => Jn [wX3 h_me q_me k_me y, wX2 h_a0 h_a0_now q_a0 k_a0 o_a0, wX4 h_a0_now q_a0_now k_a0_now o_a0_now]) (fun _ => Jt [tX3 k_me, tX2 k_a0, tX4 k_a0_now]) A) ([.ref h_me, .ref h_a0, .int p1, .int p2, .int p3] : List Value).toArray s 0 0 A) = Qz
  clear hP hD hnm
  unfold f_X3_setLawWords_O at h
  refine lv_aload_n hx hb dX3_setLawWords_0 rfl (lv_at hl 0 rfl) ?_
  refine fgX3_0 hx hb hts hown hK hw 0 rfl kw241 dX3_setLawWords_1 ?_
  refine lv_iconst (v := 0) hx hb dX3_setLawWords_4 (by decide) ?_
  refine lv_iload_n hx hb dX3_setLawWords_5 rfl (lv_at hl 2 rfl) ?_
  refine fbX3_0 hx hb hK hw 0 rfl rfl (by decide) dX3_setLawWords_6 (fun H locs hw => ?_)
  obtain ⟨o1, eo1, h⟩ := z_lt h
  have hw : Wd dC dI A s.heap [wX3 h_me q_me k_me o1, wX2 h_a0 h_a0_now q_a0 k_a0 o_a0, wX4 h_a0_now q_a0_now k_a0_now o_a0_now] H locs := by rw [eo1]; exact hw
  refine lv_aload_n hx hb dX3_setLawWords_7 rfl (lv_at hl 0 rfl) ?_
  refine fgX3_0 hx hb hts hown hK hw 0 rfl kw241 dX3_setLawWords_8 ?_
  refine lv_iconst (v := 1) hx hb dX3_setLawWords_11 (by decide) ?_
  refine lv_iload_n hx hb dX3_setLawWords_12 rfl (lv_at hl 3 rfl) ?_
  refine fbX3_0 hx hb hK hw 0 rfl rfl (by decide) dX3_setLawWords_13 (fun H locs hw => ?_)
  obtain ⟨o2, eo2, h⟩ := z_lt h
  have hw : Wd dC dI A s.heap [wX3 h_me q_me k_me o2, wX2 h_a0 h_a0_now q_a0 k_a0 o_a0, wX4 h_a0_now q_a0_now k_a0_now o_a0_now] H locs := by rw [eo2]; exact hw
  refine lv_aload_n hx hb dX3_setLawWords_14 rfl (lv_at hl 0 rfl) ?_
  refine fgX3_0 hx hb hts hown hK hw 0 rfl kw241 dX3_setLawWords_15 ?_
  refine lv_iconst (v := 2) hx hb dX3_setLawWords_18 (by decide) ?_
  refine lv_aload_n hx hb dX3_setLawWords_19 rfl (lv_at hl 1 rfl) ?_
  refine fgX2_2 hx hb hts hown hK hw 1 rfl kw304 dX3_setLawWords_20 ?_
  refine lv_iload_n hx hb dX3_setLawWords_23 rfl (lv_at hl 2 rfl) ?_
  refine lv_iconst (v := 4) hx hb dX3_setLawWords_24 (by decide) ?_
  refine lv_imul hx hb dX3_setLawWords_25 ?_
  refine lv_iload_n hx hb dX3_setLawWords_26 rfl (lv_at hl 3 rfl) ?_
  refine lv_iadd hx hb dX3_setLawWords_27 ?_
  obtain ⟨g3, h⟩ := z_gd h
  refine faX2_2 hx hb hK hw 1 rfl rfl g3 dX3_setLawWords_28 ?_
  refine fbX3_0 hx hb hK hw 0 rfl rfl (by decide) dX3_setLawWords_29 (fun H locs hw => ?_)
  obtain ⟨o4, eo4, h⟩ := z_lt h
  have hw : Wd dC dI A s.heap [wX3 h_me q_me k_me o4, wX2 h_a0 h_a0_now q_a0 k_a0 o_a0, wX4 h_a0_now q_a0_now k_a0_now o_a0_now] H locs := by rw [eo4]; exact hw
  refine lv_aload_n hx hb dX3_setLawWords_30 rfl (lv_at hl 0 rfl) ?_
  refine fgX3_0 hx hb hts hown hK hw 0 rfl kw241 dX3_setLawWords_31 ?_
  refine lv_iconst (v := 3) hx hb dX3_setLawWords_34 (by decide) ?_
  refine lv_aload_n hx hb dX3_setLawWords_35 rfl (lv_at hl 1 rfl) ?_
  refine fgX2_0 hx hb hts hown hK hw 1 rfl kw296 dX3_setLawWords_36 ?_
  refine fgX4_0 hx hb hts hown hK hw 2 rfl kw262 dX3_setLawWords_39 ?_
  refine lv_iload_n hx hb dX3_setLawWords_42 rfl (lv_at hl 2 rfl) ?_
  obtain ⟨g5, h⟩ := z_gd h
  refine faX4_0 hx hb hK hw 2 rfl rfl g5 dX3_setLawWords_43 ?_
  refine fbX3_0 hx hb hK hw 0 rfl rfl (by decide) dX3_setLawWords_44 (fun H locs hw => ?_)
  obtain ⟨o6, eo6, h⟩ := z_lt h
  have hw : Wd dC dI A s.heap [wX3 h_me q_me k_me o6, wX2 h_a0 h_a0_now q_a0 k_a0 o_a0, wX4 h_a0_now q_a0_now k_a0_now o_a0_now] H locs := by rw [eo6]; exact hw
  refine lv_aload_n hx hb dX3_setLawWords_45 rfl (lv_at hl 0 rfl) ?_
  refine fgX3_0 hx hb hts hown hK hw 0 rfl kw241 dX3_setLawWords_46 ?_
  refine lv_iconst (v := 4) hx hb dX3_setLawWords_49 (by decide) ?_
  refine lv_aload_n hx hb dX3_setLawWords_50 rfl (lv_at hl 1 rfl) ?_
  refine fgX2_0 hx hb hts hown hK hw 1 rfl kw296 dX3_setLawWords_51 ?_
  refine fgX4_1 hx hb hts hown hK hw 2 rfl kw266 dX3_setLawWords_54 ?_
  refine lv_iload_n hx hb dX3_setLawWords_57 rfl (lv_at hl 2 rfl) ?_
  obtain ⟨g7, h⟩ := z_gd h
  refine faX4_1 hx hb hK hw 2 rfl rfl g7 dX3_setLawWords_58 ?_
  refine fbX3_0 hx hb hK hw 0 rfl rfl (by decide) dX3_setLawWords_59 (fun H locs hw => ?_)
  obtain ⟨o8, eo8, h⟩ := z_lt h
  have hw : Wd dC dI A s.heap [wX3 h_me q_me k_me o8, wX2 h_a0 h_a0_now q_a0 k_a0 o_a0, wX4 h_a0_now q_a0_now k_a0_now o_a0_now] H locs := by rw [eo8]; exact hw
  refine lv_aload_n hx hb dX3_setLawWords_60 rfl (lv_at hl 0 rfl) ?_
  refine fgX3_0 hx hb hts hown hK hw 0 rfl kw241 dX3_setLawWords_61 ?_
  refine lv_iconst (v := 5) hx hb dX3_setLawWords_64 (by decide) ?_
  refine lv_iload hx hb dX3_setLawWords_65 (lv_at hl 4 rfl) ?_
  refine fbX3_0 hx hb hK hw 0 rfl rfl (by decide) dX3_setLawWords_67 (fun H locs hw => ?_)
  obtain ⟨o9, eo9, h⟩ := z_lt h
  have hw : Wd dC dI A s.heap [wX3 h_me q_me k_me o9, wX2 h_a0 h_a0_now q_a0 k_a0 o_a0, wX4 h_a0_now q_a0_now k_a0_now o_a0_now] H locs := by rw [eo9]; exact hw
  refine lv_aload_n hx hb dX3_setLawWords_68 rfl (lv_at hl 0 rfl) ?_
  refine fgX3_0 hx hb hts hown hK hw 0 rfl kw241 dX3_setLawWords_69 ?_
  refine lv_bipush (v := 6) hx hb dX3_setLawWords_72 (by decide) ?_
  refine lv_aload_n hx hb dX3_setLawWords_74 rfl (lv_at hl 1 rfl) ?_
  refine fgX2_0 hx hb hts hown hK hw 1 rfl kw296 dX3_setLawWords_75 ?_
  refine fgX4_3 hx hb hts hown hK hw 2 rfl kw274 dX3_setLawWords_78 ?_
  refine fbX3_0 hx hb hK hw 0 rfl rfl (by decide) dX3_setLawWords_81 (fun H locs hw => ?_)
  obtain ⟨o10, eo10, h⟩ := z_lt h
  have hw : Wd dC dI A s.heap [wX3 h_me q_me k_me o10, wX2 h_a0 h_a0_now q_a0 k_a0 o_a0, wX4 h_a0_now q_a0_now k_a0_now o_a0_now] H locs := by rw [eo10]; exact hw
  refine lv_aload_n hx hb dX3_setLawWords_82 rfl (lv_at hl 0 rfl) ?_
  refine fgX3_0 hx hb hts hown hK hw 0 rfl kw241 dX3_setLawWords_83 ?_
  refine lv_bipush (v := 7) hx hb dX3_setLawWords_86 (by decide) ?_
  refine lv_aload_n hx hb dX3_setLawWords_88 rfl (lv_at hl 1 rfl) ?_
  refine fgX2_0 hx hb hts hown hK hw 1 rfl kw296 dX3_setLawWords_89 ?_
  refine fgX4_4 hx hb hts hown hK hw 2 rfl kw278 dX3_setLawWords_92 ?_
  refine fbX3_0 hx hb hK hw 0 rfl rfl (by decide) dX3_setLawWords_95 (fun H locs hw => ?_)
  obtain ⟨o11, eo11, h⟩ := z_lt h
  have hw : Wd dC dI A s.heap [wX3 h_me q_me k_me o11, wX2 h_a0 h_a0_now q_a0 k_a0 o_a0, wX4 h_a0_now q_a0_now k_a0_now o_a0_now] H locs := by rw [eo11]; exact hw
  refine lv_aload_n hx hb dX3_setLawWords_96 rfl (lv_at hl 0 rfl) ?_
  refine fgX3_0 hx hb hts hown hK hw 0 rfl kw241 dX3_setLawWords_97 ?_
  refine lv_bipush (v := 8) hx hb dX3_setLawWords_100 (by decide) ?_
  refine lv_aload_n hx hb dX3_setLawWords_102 rfl (lv_at hl 1 rfl) ?_
  refine fgX2_12 hx hb hts hown hK hw 1 rfl kw329 dX3_setLawWords_103 ?_
  refine fbX3_0 hx hb hK hw 0 rfl rfl (by decide) dX3_setLawWords_106 (fun H locs hw => ?_)
  obtain ⟨o12, eo12, h⟩ := z_lt h
  have hw : Wd dC dI A s.heap [wX3 h_me q_me k_me o12, wX2 h_a0 h_a0_now q_a0 k_a0 o_a0, wX4 h_a0_now q_a0_now k_a0_now o_a0_now] H locs := by rw [eo12]; exact hw
  have hy := Option.some.inj h
  rw [← hQz, ← hy]
  exact xr_v hx hb hr hlk hK hw dX3_setLawWords_107

def f_X3_wordWorth (o_me : Ob) (p0 : Int32) : Option (Int64) :=
  if p0 < (0 : Int32) then
  (some (-9000000000000000000 : Int64))
  else
  (if (19 : Int32) ≤ p0 then
  (some (-9000000000000000000 : Int64))
  else
  (zgd (zin p0 19) <|
  some ((gA o_me 0 p0.toNatClampNeg).toInt64)))
set_option maxHeartbeats 4000000 in
set_option maxRecDepth 100000 in
theorem m_X3_wordWorth (l : Launch) (dC : Nat → ClassId) (dI : Nat → Nat → Nat) (sz : Nat) (h_me : Nat) (q_me : Nat → Nat) (k_me : Nat → ClassId) (o_me : Ob) (p0 : Int32) (y : Int64) (h : f_X3_wordWorth o_me p0 = some y) : CL l yX3_wordWorth cX3_wordWorth 2 (some .long) ({ frames := 0, cells := 0, slots := 0, locals := 0 } : Room) dC dI sz [.ref h_me, .int p0] [wX3 h_me q_me k_me o_me] [tX3 k_me] y [wX3 h_me q_me k_me o_me] := by
  refine CC_of (by decide) (Nat.le_of_ble_eq_true rfl) ?_
  intro p e s m below meth c A ls hx hb hml hr hlk hnm hown hts hX hK hP hD hA hl
  have hl : lv_has ls 2 [(0, .ref h_me), (1, .int p0)] := hl
  have hown : s.vm.findClass RX3 = some m.cls := hown
  have hw : Wd dC dI A s.heap [wX3 h_me q_me k_me o_me] s.heap [] := ⟨hP, hD, va_S.rf⟩
  generalize hQz : (MQ below (QL dC dI (fun r (_ : Unit) => r = y) (fun _ => Jn [wX3 h_me q_me k_me o_me]) (fun _ => Jt [tX3 k_me]) A) ([.ref h_me, .int p0] : List Value).toArray s 0 0 A) = Qz
  clear hP hD hnm
  unfold f_X3_wordWorth at h
  refine lv_iload_n hx hb dX3_wordWorth_0 rfl (lv_at hl 1 rfl) ?_
  refine lv_if_lt (tgt := 20) hx hb dX3_wordWorth_1 (by decide) (fun c => ?_) (fun c => ?_)
  · have h := z_t h c
    refine lv_ldc2 (v := (-9000000000000000000)) hx hb hown (hts _ kw563) dX3_wordWorth_20 ?_
    have hy := Option.some.inj h
    rw [← hQz, ← hy]
    exact xr_l (v := (-9000000000000000000 : Int64)) hx hb hr hlk hK hw dX3_wordWorth_23
  · have h := z_f h c
    refine lv_iload_n hx hb dX3_wordWorth_4 rfl (lv_at hl 1 rfl) ?_
    refine lv_bipush (v := 19) hx hb dX3_wordWorth_5 (by decide) ?_
    refine lv_icmp_ge (tgt := 20) hx hb dX3_wordWorth_7 (by decide) (fun c => ?_) (fun c => ?_)
    · have h := z_t h c
      refine lv_ldc2 (v := (-9000000000000000000)) hx hb hown (hts _ kw563) dX3_wordWorth_20 ?_
      have hy := Option.some.inj h
      rw [← hQz, ← hy]
      exact xr_l (v := (-9000000000000000000 : Int64)) hx hb hr hlk hK hw dX3_wordWorth_23
    · have h := z_f h c
      refine lv_aload_n hx hb dX3_wordWorth_10 rfl (lv_at hl 0 rfl) ?_
      refine fgX3_0 hx hb hts hown hK hw 0 rfl kw241 dX3_wordWorth_11 ?_
      refine lv_iload_n hx hb dX3_wordWorth_14 rfl (lv_at hl 1 rfl) ?_
      obtain ⟨g1, h⟩ := z_gd h
      refine faX3_0 hx hb hK hw 0 rfl rfl g1 dX3_wordWorth_15 ?_
      refine lv_i2l hx hb dX3_wordWorth_16 rfl ?_
      refine lv_goto (tgt := 23) hx hb dX3_wordWorth_17 (by decide) ?_
      have hy := Option.some.inj h
      rw [← hQz, ← hy]
      exact xr_l (v := (gA o_me 0 p0.toNatClampNeg).toInt64) hx hb hr hlk hK hw dX3_wordWorth_23

def bk_X3_joined_182    : Option (Int64) :=
  some (-9000000000000000000 : Int64)
def bk_X3_joined_164   (v5 : Int64) : Option (Int64) :=
  if (0 : Int32) < (lg_cmp v5 (1000000000 : Int64)) then
  (bk_X3_joined_182   )
  else
  (if (0 : Int32) ≤ (lg_cmp v5 (-1000000000 : Int64)) then
  (some v5)
  else
  (bk_X3_joined_182   ))
def bk_X3_joined_91   (s0 : Int64) : Option (Int64) :=
  bk_X3_joined_164   s0
def bk_X3_joined_111   (s0 : Int64) : Option (Int64) :=
  bk_X3_joined_164   s0
def bk_X3_joined_127   (s0 : Int64) : Option (Int64) :=
  bk_X3_joined_164   s0
def bk_X3_joined_143   (s0 : Int64) : Option (Int64) :=
  bk_X3_joined_164   s0
def bk_X3_joined_159   (s0 : Int64) : Option (Int64) :=
  bk_X3_joined_164   s0
def f_X3_joined (p0 : Int32) (p1 : Int64) (p2 : Int64) : Option (Int64) :=
  if p0 = (5 : Int32) then
  (zlt (p1 + p2) fun x2 =>
  bk_X3_joined_164   x2)
  else
  (if p0 = (6 : Int32) then
  (zlt (p1 - p2) fun x3 =>
  bk_X3_joined_164   x3)
  else
  (if p0 = (7 : Int32) then
  (zlt (p1 * p2) fun x4 =>
  bk_X3_joined_164   x4)
  else
  (if p0 = (8 : Int32) then
  (if (lg_cmp p2 (0 : Int64)) = (0 : Int32) then
  (bk_X3_joined_91   (-9000000000000000000 : Int64))
  else
  (zgd (decide (¬ p2 = 0)) <|
  bk_X3_joined_91   (p1 / p2)))
  else
  (if p0 = (9 : Int32) then
  (if (lg_cmp p2 (0 : Int64)) = (0 : Int32) then
  (bk_X3_joined_111   (-9000000000000000000 : Int64))
  else
  (zgd (decide (¬ p2 = 0)) <|
  bk_X3_joined_111   (p1 - p1 / p2 * p2)))
  else
  (if p0 = (10 : Int32) then
  (if (0 : Int32) ≤ (lg_cmp p1 p2) then
  (bk_X3_joined_127   (0 : Int64))
  else
  (bk_X3_joined_127   (1 : Int64)))
  else
  (if p0 = (11 : Int32) then
  (if (lg_cmp p1 p2) ≤ (0 : Int32) then
  (bk_X3_joined_143   (0 : Int64))
  else
  (bk_X3_joined_143   (1 : Int64)))
  else
  (if p0 = (12 : Int32) then
  (if (lg_cmp p1 p2) = (0 : Int32) then
  (bk_X3_joined_159   (1 : Int64))
  else
  (bk_X3_joined_159   (0 : Int64)))
  else
  (bk_X3_joined_164   (-9000000000000000000 : Int64)))))))))
set_option maxHeartbeats 4000000 in
set_option maxRecDepth 100000 in
theorem m_X3_joined (l : Launch) (dC : Nat → ClassId) (dI : Nat → Nat → Nat) (sz : Nat)  (p0 : Int32) (p1 : Int64) (p2 : Int64) (y : Int64) (h : f_X3_joined p0 p1 p2 = some y) : CL l yX3_joined cX3_joined 7 (some .long) ({ frames := 0, cells := 0, slots := 0, locals := 0 } : Room) dC dI sz [.int p0, .long p1, .long p2] [] [] y [] := by
  refine CC_of (by decide) (Nat.le_of_ble_eq_true rfl) ?_
  intro p e s m below meth c A ls hx hb hml hr hlk hnm hown hts hX hK hP hD hA hl
  have hl : lv_has ls 7 [(0, .int p0), (1, .long p1), (3, .long p2)] := hl
  have hown : s.vm.findClass RX3 = some m.cls := hown
  have hw : Wd dC dI A s.heap [] s.heap [] := ⟨hP, hD, va_S.rf⟩
  generalize hQz : (MQ below (QL dC dI (fun r (_ : Unit) => r = y) (fun _ => Jn []) (fun _ => Jt []) A) ([.int p0, .long p1, .long p2] : List Value).toArray s 0 0 A) = Qz
  clear hP hD hnm
  have bk_182_1 : ∀  (H : Heap) (locs : List Loc) (ls : Array Slot), bk_X3_joined_182    = some y → Wd dC dI A s.heap [] H locs → lv_has ls 7 [] → W p l e ({ frames := 0, cells := 0, slots := 0, locals := 0 } : Room) s m ([.int p0, .long p1, .long p2] : List Value).toArray below meth c H locs 0 0 Qz (F0 m 182 ls []) := by
    intro  H locs ls h hw hl
    unfold bk_X3_joined_182 at h
    refine lv_ldc2 (v := (-9000000000000000000)) hx hb hown (hts _ kw563) dX3_joined_182 ?_
    refine lv_goto (tgt := 190) hx hb dX3_joined_185 (by decide) ?_
    have hy := Option.some.inj h
    rw [← hQz, ← hy]
    exact xr_l (v := (-9000000000000000000 : Int64)) hx hb hr hlk hK hw dX3_joined_190
  have bk_164_0 : ∀ (v5 : Int64) (H : Heap) (locs : List Loc) (ls : Array Slot), bk_X3_joined_164   v5 = some y → Wd dC dI A s.heap [] H locs → lv_has ls 7 [(5, .long v5)] → W p l e ({ frames := 0, cells := 0, slots := 0, locals := 0 } : Room) s m ([.int p0, .long p1, .long p2] : List Value).toArray below meth c H locs 0 0 Qz (F0 m 164 ls []) := by
    intro v5 H locs ls h hw hl
    unfold bk_X3_joined_164 at h
    refine lv_lload hx hb dX3_joined_164 (lv_at hl 0 rfl) ?_
    refine lv_ldc2 (v := 1000000000) hx hb hown (hts _ kw571) dX3_joined_166 ?_
    refine W.lcmp hx hb dX3_joined_169 ?_
    refine lv_if_gt (tgt := 182) hx hb dX3_joined_170 (by decide) (fun c => ?_) (fun c => ?_)
    · have h := z_t h c
      exact bk_182_1   _ _ _ h hw (lv_sub hl [] rfl)
    · have h := z_f h c
      refine lv_lload hx hb dX3_joined_173 (lv_at hl 0 rfl) ?_
      refine lv_ldc2 (v := (-1000000000)) hx hb hown (hts _ kw572) dX3_joined_175 ?_
      refine W.lcmp hx hb dX3_joined_178 ?_
      refine lv_if_ge (tgt := 188) hx hb dX3_joined_179 (by decide) (fun c => ?_) (fun c => ?_)
      · have h := z_t h c
        refine lv_lload hx hb dX3_joined_188 (lv_at hl 0 rfl) ?_
        have hy := Option.some.inj h
        rw [← hQz, ← hy]
        exact xr_l (v := v5) hx hb hr hlk hK hw dX3_joined_190
      · have h := z_f h c
        exact bk_182_1   _ _ _ h hw (lv_sub hl [] rfl)
  have bk_91_2 : ∀ (s0 : Int64) (H : Heap) (locs : List Loc) (ls : Array Slot), bk_X3_joined_91   s0 = some y → Wd dC dI A s.heap [] H locs → lv_has ls 7 [] → W p l e ({ frames := 0, cells := 0, slots := 0, locals := 0 } : Room) s m ([.int p0, .long p1, .long p2] : List Value).toArray below meth c H locs 0 0 Qz (F0 m 91 ls [.long s0]) := by
    intro s0 H locs ls h hw hl
    unfold bk_X3_joined_91 at h
    refine lv_lstore (lv' := [(5, .long s0)]) hx hb dX3_joined_91 hl (by decide) rfl (fun ls hl => ?_)
    refine lv_goto (tgt := 164) hx hb dX3_joined_93 (by decide) ?_
    exact bk_164_0  s0 _ _ _ h hw (lv_sub hl [0] rfl)
  have bk_111_3 : ∀ (s0 : Int64) (H : Heap) (locs : List Loc) (ls : Array Slot), bk_X3_joined_111   s0 = some y → Wd dC dI A s.heap [] H locs → lv_has ls 7 [] → W p l e ({ frames := 0, cells := 0, slots := 0, locals := 0 } : Room) s m ([.int p0, .long p1, .long p2] : List Value).toArray below meth c H locs 0 0 Qz (F0 m 111 ls [.long s0]) := by
    intro s0 H locs ls h hw hl
    unfold bk_X3_joined_111 at h
    refine lv_lstore (lv' := [(5, .long s0)]) hx hb dX3_joined_111 hl (by decide) rfl (fun ls hl => ?_)
    refine lv_goto (tgt := 164) hx hb dX3_joined_113 (by decide) ?_
    exact bk_164_0  s0 _ _ _ h hw (lv_sub hl [0] rfl)
  have bk_127_4 : ∀ (s0 : Int64) (H : Heap) (locs : List Loc) (ls : Array Slot), bk_X3_joined_127   s0 = some y → Wd dC dI A s.heap [] H locs → lv_has ls 7 [] → W p l e ({ frames := 0, cells := 0, slots := 0, locals := 0 } : Room) s m ([.int p0, .long p1, .long p2] : List Value).toArray below meth c H locs 0 0 Qz (F0 m 127 ls [.long s0]) := by
    intro s0 H locs ls h hw hl
    unfold bk_X3_joined_127 at h
    refine lv_lstore (lv' := [(5, .long s0)]) hx hb dX3_joined_127 hl (by decide) rfl (fun ls hl => ?_)
    refine lv_goto (tgt := 164) hx hb dX3_joined_129 (by decide) ?_
    exact bk_164_0  s0 _ _ _ h hw (lv_sub hl [0] rfl)
  have bk_143_5 : ∀ (s0 : Int64) (H : Heap) (locs : List Loc) (ls : Array Slot), bk_X3_joined_143   s0 = some y → Wd dC dI A s.heap [] H locs → lv_has ls 7 [] → W p l e ({ frames := 0, cells := 0, slots := 0, locals := 0 } : Room) s m ([.int p0, .long p1, .long p2] : List Value).toArray below meth c H locs 0 0 Qz (F0 m 143 ls [.long s0]) := by
    intro s0 H locs ls h hw hl
    unfold bk_X3_joined_143 at h
    refine lv_lstore (lv' := [(5, .long s0)]) hx hb dX3_joined_143 hl (by decide) rfl (fun ls hl => ?_)
    refine lv_goto (tgt := 164) hx hb dX3_joined_145 (by decide) ?_
    exact bk_164_0  s0 _ _ _ h hw (lv_sub hl [0] rfl)
  have bk_159_6 : ∀ (s0 : Int64) (H : Heap) (locs : List Loc) (ls : Array Slot), bk_X3_joined_159   s0 = some y → Wd dC dI A s.heap [] H locs → lv_has ls 7 [] → W p l e ({ frames := 0, cells := 0, slots := 0, locals := 0 } : Room) s m ([.int p0, .long p1, .long p2] : List Value).toArray below meth c H locs 0 0 Qz (F0 m 159 ls [.long s0]) := by
    intro s0 H locs ls h hw hl
    unfold bk_X3_joined_159 at h
    refine lv_lstore (lv' := [(5, .long s0)]) hx hb dX3_joined_159 hl (by decide) rfl (fun ls hl => ?_)
    refine lv_goto (tgt := 164) hx hb dX3_joined_161 (by decide) ?_
    exact bk_164_0  s0 _ _ _ h hw (lv_sub hl [0] rfl)
  unfold f_X3_joined at h
  refine lv_ldc2 (v := (-9000000000000000000)) hx hb hown (hts _ kw563) dX3_joined_0 ?_
  refine lv_lstore (lv' := [(5, .long (-9000000000000000000 : Int64)), (0, .int p0), (1, .long p1), (3, .long p2)]) hx hb dX3_joined_3 hl (by decide) rfl (fun ls hl => ?_)
  refine lv_iload_n hx hb dX3_joined_5 rfl (lv_at hl 1 rfl) ?_
  rcases (show p0.toInt = 5 ∨ p0.toInt = 6 ∨ p0.toInt = 7 ∨ p0.toInt = 8 ∨ p0.toInt = 9 ∨ p0.toInt = 10 ∨ p0.toInt = 11 ∨ p0.toInt = 12 ∨ (p0.toInt < 5 ∨ 12 < p0.toInt) by omega) with c1 | c1 | c1 | c1 | c1 | c1 | c1 | c1 | c1
  · skip
    have ec1 : p0 = (5 : Int32) := Int32.toInt_inj.mp (c1.trans (by decide))
    have h := z_t h ec1
    refine lv_fi (v := 5) ec1 ?_
    refine lv_tableIn (tgt := 52) hx hb dX3_joined_6 (by decide) (by decide) rfl (by decide) ?_
    refine lv_lload_n hx hb dX3_joined_52 rfl (lv_at hl 2 rfl) ?_
    refine lv_lload_n hx hb dX3_joined_53 rfl (lv_at hl 3 rfl) ?_
    refine lv_ladd hx hb dX3_joined_54 ?_
    obtain ⟨x2, ex2, h⟩ := z_lt h
    refine lv_fl (v := x2) ex2.symm ?_
    refine lv_lstore (lv' := [(5, .long x2), (0, .int p0), (1, .long p1), (3, .long p2)]) hx hb dX3_joined_55 hl (by decide) rfl (fun ls hl => ?_)
    refine lv_goto (tgt := 164) hx hb dX3_joined_57 (by decide) ?_
    exact bk_164_0  x2 _ _ _ h hw (lv_sub hl [0] rfl)
  · skip
    have h := z_f h (fun e9 => by rw [e9] at c1; revert c1; decide)
    have ec1 : p0 = (6 : Int32) := Int32.toInt_inj.mp (c1.trans (by decide))
    have h := z_t h ec1
    refine lv_fi (v := 6) ec1 ?_
    refine lv_tableIn (tgt := 60) hx hb dX3_joined_6 (by decide) (by decide) rfl (by decide) ?_
    refine lv_lload_n hx hb dX3_joined_60 rfl (lv_at hl 2 rfl) ?_
    refine lv_lload_n hx hb dX3_joined_61 rfl (lv_at hl 3 rfl) ?_
    refine lv_lsub hx hb dX3_joined_62 ?_
    obtain ⟨x3, ex3, h⟩ := z_lt h
    refine lv_fl (v := x3) ex3.symm ?_
    refine lv_lstore (lv' := [(5, .long x3), (0, .int p0), (1, .long p1), (3, .long p2)]) hx hb dX3_joined_63 hl (by decide) rfl (fun ls hl => ?_)
    refine lv_goto (tgt := 164) hx hb dX3_joined_65 (by decide) ?_
    exact bk_164_0  x3 _ _ _ h hw (lv_sub hl [0] rfl)
  · skip
    have h := z_f h (fun e9 => by rw [e9] at c1; revert c1; decide)
    have h := z_f h (fun e9 => by rw [e9] at c1; revert c1; decide)
    have ec1 : p0 = (7 : Int32) := Int32.toInt_inj.mp (c1.trans (by decide))
    have h := z_t h ec1
    refine lv_fi (v := 7) ec1 ?_
    refine lv_tableIn (tgt := 68) hx hb dX3_joined_6 (by decide) (by decide) rfl (by decide) ?_
    refine lv_lload_n hx hb dX3_joined_68 rfl (lv_at hl 2 rfl) ?_
    refine lv_lload_n hx hb dX3_joined_69 rfl (lv_at hl 3 rfl) ?_
    refine lv_lmul hx hb dX3_joined_70 ?_
    obtain ⟨x4, ex4, h⟩ := z_lt h
    refine lv_fl (v := x4) ex4.symm ?_
    refine lv_lstore (lv' := [(5, .long x4), (0, .int p0), (1, .long p1), (3, .long p2)]) hx hb dX3_joined_71 hl (by decide) rfl (fun ls hl => ?_)
    refine lv_goto (tgt := 164) hx hb dX3_joined_73 (by decide) ?_
    exact bk_164_0  x4 _ _ _ h hw (lv_sub hl [0] rfl)
  · skip
    have h := z_f h (fun e9 => by rw [e9] at c1; revert c1; decide)
    have h := z_f h (fun e9 => by rw [e9] at c1; revert c1; decide)
    have h := z_f h (fun e9 => by rw [e9] at c1; revert c1; decide)
    have ec1 : p0 = (8 : Int32) := Int32.toInt_inj.mp (c1.trans (by decide))
    have h := z_t h ec1
    refine lv_fi (v := 8) ec1 ?_
    refine lv_tableIn (tgt := 76) hx hb dX3_joined_6 (by decide) (by decide) rfl (by decide) ?_
    refine lv_lload_n hx hb dX3_joined_76 rfl (lv_at hl 3 rfl) ?_
    refine lv_lconst (v := 0) hx hb dX3_joined_77 (by decide) ?_
    refine W.lcmp hx hb dX3_joined_78 ?_
    refine lv_if_ne (tgt := 88) hx hb dX3_joined_79 (by decide) (fun c => ?_) (fun c => ?_)
    · have h := z_f h c
      refine lv_lload_n hx hb dX3_joined_88 rfl (lv_at hl 2 rfl) ?_
      refine lv_lload_n hx hb dX3_joined_89 rfl (lv_at hl 3 rfl) ?_
      obtain ⟨g5, h⟩ := z_gd h
      refine lv_ldiv hx hb dX3_joined_90 (of_decide_eq_true g5) ?_
      exact bk_91_2  (p1 / p2) _ _ _ h hw (lv_sub hl [] rfl)
    · have h := z_t h c
      refine lv_ldc2 (v := (-9000000000000000000)) hx hb hown (hts _ kw563) dX3_joined_82 ?_
      refine lv_goto (tgt := 91) hx hb dX3_joined_85 (by decide) ?_
      exact bk_91_2  (-9000000000000000000 : Int64) _ _ _ h hw (lv_sub hl [] rfl)
  · skip
    have h := z_f h (fun e9 => by rw [e9] at c1; revert c1; decide)
    have h := z_f h (fun e9 => by rw [e9] at c1; revert c1; decide)
    have h := z_f h (fun e9 => by rw [e9] at c1; revert c1; decide)
    have h := z_f h (fun e9 => by rw [e9] at c1; revert c1; decide)
    have ec1 : p0 = (9 : Int32) := Int32.toInt_inj.mp (c1.trans (by decide))
    have h := z_t h ec1
    refine lv_fi (v := 9) ec1 ?_
    refine lv_tableIn (tgt := 96) hx hb dX3_joined_6 (by decide) (by decide) rfl (by decide) ?_
    refine lv_lload_n hx hb dX3_joined_96 rfl (lv_at hl 3 rfl) ?_
    refine lv_lconst (v := 0) hx hb dX3_joined_97 (by decide) ?_
    refine W.lcmp hx hb dX3_joined_98 ?_
    refine lv_if_ne (tgt := 108) hx hb dX3_joined_99 (by decide) (fun c => ?_) (fun c => ?_)
    · have h := z_f h c
      refine lv_lload_n hx hb dX3_joined_108 rfl (lv_at hl 2 rfl) ?_
      refine lv_lload_n hx hb dX3_joined_109 rfl (lv_at hl 3 rfl) ?_
      obtain ⟨g6, h⟩ := z_gd h
      refine lv_lrem hx hb dX3_joined_110 (of_decide_eq_true g6) ?_
      exact bk_111_3  (p1 - p1 / p2 * p2) _ _ _ h hw (lv_sub hl [] rfl)
    · have h := z_t h c
      refine lv_ldc2 (v := (-9000000000000000000)) hx hb hown (hts _ kw563) dX3_joined_102 ?_
      refine lv_goto (tgt := 111) hx hb dX3_joined_105 (by decide) ?_
      exact bk_111_3  (-9000000000000000000 : Int64) _ _ _ h hw (lv_sub hl [] rfl)
  · skip
    have h := z_f h (fun e9 => by rw [e9] at c1; revert c1; decide)
    have h := z_f h (fun e9 => by rw [e9] at c1; revert c1; decide)
    have h := z_f h (fun e9 => by rw [e9] at c1; revert c1; decide)
    have h := z_f h (fun e9 => by rw [e9] at c1; revert c1; decide)
    have h := z_f h (fun e9 => by rw [e9] at c1; revert c1; decide)
    have ec1 : p0 = (10 : Int32) := Int32.toInt_inj.mp (c1.trans (by decide))
    have h := z_t h ec1
    refine lv_fi (v := 10) ec1 ?_
    refine lv_tableIn (tgt := 116) hx hb dX3_joined_6 (by decide) (by decide) rfl (by decide) ?_
    refine lv_lload_n hx hb dX3_joined_116 rfl (lv_at hl 2 rfl) ?_
    refine lv_lload_n hx hb dX3_joined_117 rfl (lv_at hl 3 rfl) ?_
    refine W.lcmp hx hb dX3_joined_118 ?_
    refine lv_if_ge (tgt := 126) hx hb dX3_joined_119 (by decide) (fun c => ?_) (fun c => ?_)
    · have h := z_t h c
      refine lv_lconst (v := 0) hx hb dX3_joined_126 (by decide) ?_
      exact bk_127_4  (0 : Int64) _ _ _ h hw (lv_sub hl [] rfl)
    · have h := z_f h c
      refine lv_lconst (v := 1) hx hb dX3_joined_122 (by decide) ?_
      refine lv_goto (tgt := 127) hx hb dX3_joined_123 (by decide) ?_
      exact bk_127_4  (1 : Int64) _ _ _ h hw (lv_sub hl [] rfl)
  · skip
    have h := z_f h (fun e9 => by rw [e9] at c1; revert c1; decide)
    have h := z_f h (fun e9 => by rw [e9] at c1; revert c1; decide)
    have h := z_f h (fun e9 => by rw [e9] at c1; revert c1; decide)
    have h := z_f h (fun e9 => by rw [e9] at c1; revert c1; decide)
    have h := z_f h (fun e9 => by rw [e9] at c1; revert c1; decide)
    have h := z_f h (fun e9 => by rw [e9] at c1; revert c1; decide)
    have ec1 : p0 = (11 : Int32) := Int32.toInt_inj.mp (c1.trans (by decide))
    have h := z_t h ec1
    refine lv_fi (v := 11) ec1 ?_
    refine lv_tableIn (tgt := 132) hx hb dX3_joined_6 (by decide) (by decide) rfl (by decide) ?_
    refine lv_lload_n hx hb dX3_joined_132 rfl (lv_at hl 2 rfl) ?_
    refine lv_lload_n hx hb dX3_joined_133 rfl (lv_at hl 3 rfl) ?_
    refine W.lcmp hx hb dX3_joined_134 ?_
    refine lv_if_le (tgt := 142) hx hb dX3_joined_135 (by decide) (fun c => ?_) (fun c => ?_)
    · have h := z_t h c
      refine lv_lconst (v := 0) hx hb dX3_joined_142 (by decide) ?_
      exact bk_143_5  (0 : Int64) _ _ _ h hw (lv_sub hl [] rfl)
    · have h := z_f h c
      refine lv_lconst (v := 1) hx hb dX3_joined_138 (by decide) ?_
      refine lv_goto (tgt := 143) hx hb dX3_joined_139 (by decide) ?_
      exact bk_143_5  (1 : Int64) _ _ _ h hw (lv_sub hl [] rfl)
  · skip
    have h := z_f h (fun e9 => by rw [e9] at c1; revert c1; decide)
    have h := z_f h (fun e9 => by rw [e9] at c1; revert c1; decide)
    have h := z_f h (fun e9 => by rw [e9] at c1; revert c1; decide)
    have h := z_f h (fun e9 => by rw [e9] at c1; revert c1; decide)
    have h := z_f h (fun e9 => by rw [e9] at c1; revert c1; decide)
    have h := z_f h (fun e9 => by rw [e9] at c1; revert c1; decide)
    have h := z_f h (fun e9 => by rw [e9] at c1; revert c1; decide)
    have ec1 : p0 = (12 : Int32) := Int32.toInt_inj.mp (c1.trans (by decide))
    have h := z_t h ec1
    refine lv_fi (v := 12) ec1 ?_
    refine lv_tableIn (tgt := 148) hx hb dX3_joined_6 (by decide) (by decide) rfl (by decide) ?_
    refine lv_lload_n hx hb dX3_joined_148 rfl (lv_at hl 2 rfl) ?_
    refine lv_lload_n hx hb dX3_joined_149 rfl (lv_at hl 3 rfl) ?_
    refine W.lcmp hx hb dX3_joined_150 ?_
    refine lv_if_ne (tgt := 158) hx hb dX3_joined_151 (by decide) (fun c => ?_) (fun c => ?_)
    · have h := z_f h c
      refine lv_lconst (v := 0) hx hb dX3_joined_158 (by decide) ?_
      exact bk_159_6  (0 : Int64) _ _ _ h hw (lv_sub hl [] rfl)
    · have h := z_t h c
      refine lv_lconst (v := 1) hx hb dX3_joined_154 (by decide) ?_
      refine lv_goto (tgt := 159) hx hb dX3_joined_155 (by decide) ?_
      exact bk_159_6  (1 : Int64) _ _ _ h hw (lv_sub hl [] rfl)
  · skip
    have h := z_f h (fun e9 => by rw [e9] at c1; revert c1; decide)
    have h := z_f h (fun e9 => by rw [e9] at c1; revert c1; decide)
    have h := z_f h (fun e9 => by rw [e9] at c1; revert c1; decide)
    have h := z_f h (fun e9 => by rw [e9] at c1; revert c1; decide)
    have h := z_f h (fun e9 => by rw [e9] at c1; revert c1; decide)
    have h := z_f h (fun e9 => by rw [e9] at c1; revert c1; decide)
    have h := z_f h (fun e9 => by rw [e9] at c1; revert c1; decide)
    have h := z_f h (fun e9 => by rw [e9] at c1; revert c1; decide)
    refine lv_tableOut (tgt := 164) hx hb dX3_joined_6 c1 (by decide) ?_
    exact bk_164_0  (-9000000000000000000 : Int64) _ _ _ h hw (lv_sub hl [0] rfl)

def bk_X3_worth_O_287 (nc_a0 : Nat) (ns_a0 : Nat) (o_a0 : Ob)  (v4 : Int32) (o_me : Ob) : Option (Int64 × Ob) :=
  if v4 = (1 : Int32) then
  (some (gM o_me 1 (0 : Int32).toNatClampNeg, o_me))
  else
  (some ((-9000000000000000000 : Int64), o_me))
def bk_X3_worth_O_281 (nc_a0 : Nat) (ns_a0 : Nat) (o_a0 : Ob) (rec_30_0 : Int32 × Int32 × Int32 × Int32 × Int32 × Ob → Option (Int64 × Ob)) (v3 : Int32) (v4 : Int32) (v5 : Int32) (v6 : Int32) (v7 : Int32) (o_me : Ob) : Option (Int64 × Ob) :=
  zlt (v7 + (1 : Int32)) fun x12 =>
  rec_30_0 (v3, v4, v5, v6, x12, o_me)
def bk_X3_worth_O_112 (nc_a0 : Nat) (ns_a0 : Nat) (o_a0 : Ob) (rec_30_0 : Int32 × Int32 × Int32 × Int32 × Int32 × Ob → Option (Int64 × Ob)) (v3 : Int32) (v4 : Int32) (v5 : Int32) (v6 : Int32) (v7 : Int32) (s0 : Int64) (s1 : Int32) (o_me : Ob) : Option (Int64 × Ob) :=
  zgd (zin s1 50) <|
  zlt (tM o_me 1 s1.toNatClampNeg s0) fun o10 =>
  zlt (v4 + (1 : Int32)) fun x11 =>
  bk_X3_worth_O_281 nc_a0 ns_a0 o_a0 rec_30_0 v3 x11 v5 v6 v7 o10
def bk_X3_worth_O_75 (nc_a0 : Nat) (ns_a0 : Nat) (o_a0 : Ob) (rec_30_0 : Int32 × Int32 × Int32 × Int32 × Int32 × Ob → Option (Int64 × Ob)) (v3 : Int32) (v4 : Int32) (v5 : Int32) (v6 : Int32) (v7 : Int32) (v8 : Int32) (v9 : Int32) (o_me : Ob) : Option (Int64 × Ob) :=
  if v4 < (50 : Int32) then
  (if v8 = (0 : Int32) then
  (bk_X3_worth_O_112 nc_a0 ns_a0 o_a0 rec_30_0 v3 v4 v5 v6 v7 v9.toInt64 v4 o_me)
  else
  ((f_X3_wordWorth o_me v9).bind fun z8 =>
  bk_X3_worth_O_112 nc_a0 ns_a0 o_a0 rec_30_0 v3 v4 v5 v6 v7 z8 v4 o_me))
  else
  (some ((-9000000000000000000 : Int64), o_me))
def bk_X3_worth_O_215 (nc_a0 : Nat) (ns_a0 : Nat) (o_a0 : Ob) (rec_30_0 : Int32 × Int32 × Int32 × Int32 × Int32 × Ob → Option (Int64 × Ob)) (v3 : Int32) (v4 : Int32) (v5 : Int32) (v6 : Int32) (v7 : Int32) (o_me : Ob) : Option (Int64 × Ob) :=
  bk_X3_worth_O_281 nc_a0 ns_a0 o_a0 rec_30_0 v3 v4 v5 v6 v7 o_me
def bk_X3_worth_O_197 (nc_a0 : Nat) (ns_a0 : Nat) (o_a0 : Ob) (rec_30_0 : Int32 × Int32 × Int32 × Int32 × Int32 × Ob → Option (Int64 × Ob)) (v3 : Int32) (v4 : Int32) (v5 : Int32) (v6 : Int32) (v7 : Int32) (v9 : Int32) (s0 : Int32) (s1 : Int32) (o_me : Ob) : Option (Int64 × Ob) :=
  if s1 = s0 then
  (zlt (if v5 < v9 then v9 else v5) fun x22 =>
  bk_X3_worth_O_215 nc_a0 ns_a0 o_a0 rec_30_0 v3 v4 x22 v6 v7 o_me)
  else
  (zlt (v4 + (-1 : Int32)) fun x21 =>
  bk_X3_worth_O_215 nc_a0 ns_a0 o_a0 rec_30_0 v3 x21 v5 v6 v7 o_me)
def bk_X3_worth_O_180 (nc_a0 : Nat) (ns_a0 : Nat) (o_a0 : Ob) (rec_30_0 : Int32 × Int32 × Int32 × Int32 × Int32 × Ob → Option (Int64 × Ob)) (v3 : Int32) (v4 : Int32) (v5 : Int32) (v6 : Int32) (v7 : Int32) (s0 : Int64) (s1 : Int32) (o_me : Ob) : Option (Int64 × Ob) :=
  zgd (zin s1 50) <|
  zlt (tM o_me 1 s1.toNatClampNeg s0) fun o24 =>
  bk_X3_worth_O_215 nc_a0 ns_a0 o_a0 rec_30_0 v3 v4 v5 v6 v7 o24
def bk_X3_worth_O_154 (nc_a0 : Nat) (ns_a0 : Nat) (o_a0 : Ob) (rec_30_0 : Int32 × Int32 × Int32 × Int32 × Int32 × Ob → Option (Int64 × Ob)) (v3 : Int32) (v4 : Int32) (v5 : Int32) (v6 : Int32) (v7 : Int32) (v8 : Int32) (v9 : Int32) (s0 : Int32) (o_me : Ob) : Option (Int64 × Ob) :=
  if v8 = (2 : Int32) then
  (if s0 = (0 : Int32) then
  (bk_X3_worth_O_180 nc_a0 ns_a0 o_a0 rec_30_0 v3 v4 v5 v6 v7 (1 : Int64) (v4 - (1 : Int32)) o_me)
  else
  (bk_X3_worth_O_180 nc_a0 ns_a0 o_a0 rec_30_0 v3 v4 v5 v6 v7 (0 : Int64) (v4 - (1 : Int32)) o_me))
  else
  (if v8 = (4 : Int32) then
  (bk_X3_worth_O_197 nc_a0 ns_a0 o_a0 rec_30_0 v3 v4 v5 v6 v7 v9 (1 : Int32) s0 o_me)
  else
  (bk_X3_worth_O_197 nc_a0 ns_a0 o_a0 rec_30_0 v3 v4 v5 v6 v7 v9 (0 : Int32) s0 o_me))
def lb_X3_worth_O_30 (nc_a0 : Nat) (ns_a0 : Nat) (o_a0 : Ob)  (rec_30_0 : Int32 × Int32 × Int32 × Int32 × Int32 × Ob → Option (Int64 × Ob)) (v3 : Int32) (v4 : Int32) (v5 : Int32) (v6 : Int32) (v7 : Int32) (o_me : Ob) : Option (Int64 × Ob) :=
  if v3 ≤ v7 then
  (bk_X3_worth_O_287 nc_a0 ns_a0 o_a0  v4 o_me)
  else
  (if v6 ≤ v5 then
  (bk_X3_worth_O_287 nc_a0 ns_a0 o_a0  v4 o_me)
  else
  (zgd (zin v5 ns_a0) <|
  zlt (gA o_a0 5 v5.toNatClampNeg) fun x4 =>
  zgd (zin v5 ns_a0) <|
  zlt (gA o_a0 6 v5.toNatClampNeg) fun x6 =>
  zlt (v5 + (1 : Int32)) fun x7 =>
  if x4 = (0 : Int32) then
  (bk_X3_worth_O_75 nc_a0 ns_a0 o_a0 rec_30_0 v3 v4 x7 v6 v7 x4 x6 o_me)
  else
  (if x4 = (1 : Int32) then
  (bk_X3_worth_O_75 nc_a0 ns_a0 o_a0 rec_30_0 v3 v4 x7 v6 v7 x4 x6 o_me)
  else
  (if (4 : Int32) < x4 then
  (if (2 : Int32) ≤ v4 then
  (zlt (v4 + (-1 : Int32)) fun x13 =>
  zgd (zin (x13 - (1 : Int32)) 50) <|
  zgd (zin x13 50) <|
  (f_X3_joined x4 (gM o_me 1 (x13 - (1 : Int32)).toNatClampNeg) (gM o_me 1 x13.toNatClampNeg)).bind fun z16 =>
  zgd (zin (x13 - (1 : Int32)) 50) <|
  zlt (tM o_me 1 (x13 - (1 : Int32)).toNatClampNeg z16) fun o18 =>
  zgd (zin (x13 - (1 : Int32)) 50) <|
  if (lg_cmp (gM o18 1 (x13 - (1 : Int32)).toNatClampNeg) (-9000000000000000000 : Int64)) = (0 : Int32) then
  (some ((-9000000000000000000 : Int64), o18))
  else
  (bk_X3_worth_O_281 nc_a0 ns_a0 o_a0 rec_30_0 v3 x13 x7 v6 v7 o18))
  else
  (some ((-9000000000000000000 : Int64), o_me)))
  else
  (if (1 : Int32) ≤ v4 then
  (zgd (zin (v4 - (1 : Int32)) 50) <|
  if (lg_cmp (gM o_me 1 (v4 - (1 : Int32)).toNatClampNeg) (1 : Int64)) = (0 : Int32) then
  (bk_X3_worth_O_154 nc_a0 ns_a0 o_a0 rec_30_0 v3 v4 x7 v6 v7 x4 x6 (1 : Int32) o_me)
  else
  (bk_X3_worth_O_154 nc_a0 ns_a0 o_a0 rec_30_0 v3 v4 x7 v6 v7 x4 x6 (0 : Int32) o_me))
  else
  (some ((-9000000000000000000 : Int64), o_me)))))))
def lp_X3_worth_O_30 (nc_a0 : Nat) (ns_a0 : Nat) (o_a0 : Ob)  : Nat → (Int32 × Int32 × Int32 × Int32 × Int32 × Ob) → Option (Int64 × Ob) := zit (fun rec a => lb_X3_worth_O_30 nc_a0 ns_a0 o_a0  rec a.1 a.2.1 a.2.2.1 a.2.2.2.1 a.2.2.2.2.1 a.2.2.2.2.2)
def f_X3_worth_O (nc_a0 : Nat) (ns_a0 : Nat) (o_me : Ob) (o_a0 : Ob) (p1 : Int32) (p2 : Int32) : Option (Int64 × Ob) :=
  if p1 < p2 then
  (zlt (if (0 : Int32) < p1 then p1 else (0 : Int32)) fun x1 =>
  zlt (if (gI o_a0 8) < p2 then (gI o_a0 8) else p2) fun x2 =>
  lp_X3_worth_O_30 nc_a0 ns_a0 o_a0  zfu (p2, (0 : Int32), x1, x2, p1, o_me))
  else
  (some ((1 : Int64), o_me))
set_option maxHeartbeats 4000000 in
set_option maxRecDepth 100000 in
theorem m_X3_worth_O (l : Launch) (dC : Nat → ClassId) (dI : Nat → Nat → Nat) (sz : Nat) (h_me : Nat) (h_a0 : Nat) (q_me : Nat → Nat) (k_me : Nat → ClassId) (q_a0 : Nat → Nat) (k_a0 : Nat → ClassId) (nc_a0 : Nat) (ns_a0 : Nat) (o_me : Ob) (o_a0 : Ob) (p1 : Int32) (p2 : Int32) (y : Int64 × Ob) (h : f_X3_worth_O nc_a0 ns_a0 o_me o_a0 p1 p2 = some y) : CL l yX3_worth cX3_worth 11 (some .long) ({ frames := 1, cells := 0, slots := 0, locals := 26 } : Room) dC dI sz [.ref h_me, .ref h_a0, .int p1, .int p2] [wX3 h_me q_me k_me o_me, wX0 h_a0 nc_a0 ns_a0 q_a0 k_a0 o_a0] [tX3 k_me, tX0 k_a0] y.1 [wX3 h_me q_me k_me y.2, wX0 h_a0 nc_a0 ns_a0 q_a0 k_a0 o_a0] := by
  refine CC_of (by decide) (Nat.le_of_ble_eq_true rfl) ?_
  intro p e s m below meth c A ls hx hb hml hr hlk hnm hown hts hX hK hP hD hA hl
  have hl : lv_has ls 11 [(0, .ref h_me), (1, .ref h_a0), (2, .int p1), (3, .int p2)] := hl
  have hown : s.vm.findClass RX3 = some m.cls := hown
  have hw : Wd dC dI A s.heap [wX3 h_me q_me k_me o_me, wX0 h_a0 nc_a0 ns_a0 q_a0 k_a0 o_a0] s.heap [] := ⟨hP, hD, va_S.rf⟩
  generalize hQz : (MQ below (QL dC dI (fun r (_ : Unit) => r = y.1) (fun _ => Jn [wX3 h_me q_me k_me y.2, wX0 h_a0 nc_a0 ns_a0 q_a0 k_a0 o_a0]) (fun _ => Jt [tX3 k_me, tX0 k_a0]) A) ([.ref h_me, .ref h_a0, .int p1, .int p2] : List Value).toArray s 0 0 A) = Qz
  clear hP hD hnm
  have bk_287_1 : ∀ (v4 : Int32) (o_me : Ob) (H : Heap) (locs : List Loc) (ls : Array Slot), bk_X3_worth_O_287 nc_a0 ns_a0 o_a0  v4 o_me = some y → Wd dC dI A s.heap [wX3 h_me q_me k_me o_me, wX0 h_a0 nc_a0 ns_a0 q_a0 k_a0 o_a0] H locs → lv_has ls 11 [(0, .ref h_me), (4, .int v4)] → W p l e ({ frames := 1, cells := 0, slots := 0, locals := 26 } : Room) s m ([.ref h_me, .ref h_a0, .int p1, .int p2] : List Value).toArray below meth c H locs 0 0 Qz (F0 m 287 ls []) := by
    intro v4 o_me H locs ls h hw hl
    unfold bk_X3_worth_O_287 at h
    refine lv_iload hx hb dX3_worth_287 (lv_at hl 1 rfl) ?_
    refine lv_iconst (v := 1) hx hb dX3_worth_289 (by decide) ?_
    refine lv_icmp_ne (tgt := 302) hx hb dX3_worth_290 (by decide) (fun c => ?_) (fun c => ?_)
    · have h := z_f h c
      refine lv_ldc2 (v := (-9000000000000000000)) hx hb hown (hts _ kw563) dX3_worth_302 ?_
      have hy := Option.some.inj h
      rw [← hQz, ← hy]
      exact xr_l (v := (-9000000000000000000 : Int64)) hx hb hr hlk hK hw dX3_worth_305
    · have h := z_t h c
      refine lv_aload_n hx hb dX3_worth_293 rfl (lv_at hl 0 rfl) ?_
      refine fgX3_1 hx hb hts hown hK hw 0 rfl kw242 dX3_worth_294 ?_
      refine lv_iconst (v := 0) hx hb dX3_worth_297 (by decide) ?_
      refine faX3_1 hx hb hK hw 0 rfl rfl (by decide) dX3_worth_298 ?_
      refine lv_goto (tgt := 305) hx hb dX3_worth_299 (by decide) ?_
      have hy := Option.some.inj h
      rw [← hQz, ← hy]
      exact xr_l (v := gM o_me 1 (0 : Int32).toNatClampNeg) hx hb hr hlk hK hw dX3_worth_305
  have bk_281_4 : ∀ (rec_30_0 : Int32 × Int32 × Int32 × Int32 × Int32 × Ob → Option (Int64 × Ob)) (hrec_30_0 : ∀ (v3 : Int32) (v4 : Int32) (v5 : Int32) (v6 : Int32) (v7 : Int32) (o_me : Ob) (H : Heap) (locs : List Loc) (ls : Array Slot), rec_30_0 (v3, v4, v5, v6, v7, o_me) = some y → Wd dC dI A s.heap [wX3 h_me q_me k_me o_me, wX0 h_a0 nc_a0 ns_a0 q_a0 k_a0 o_a0] H locs → lv_has ls 11 [(0, .ref h_me), (1, .ref h_a0), (3, .int v3), (4, .int v4), (5, .int v5), (6, .int v6), (7, .int v7)] → W p l e ({ frames := 1, cells := 0, slots := 0, locals := 26 } : Room) s m ([.ref h_me, .ref h_a0, .int p1, .int p2] : List Value).toArray below meth c H locs 0 0 Qz (F0 m 30 ls [])), ∀ (v3 : Int32) (v4 : Int32) (v5 : Int32) (v6 : Int32) (v7 : Int32) (o_me : Ob) (H : Heap) (locs : List Loc) (ls : Array Slot), bk_X3_worth_O_281 nc_a0 ns_a0 o_a0 rec_30_0 v3 v4 v5 v6 v7 o_me = some y → Wd dC dI A s.heap [wX3 h_me q_me k_me o_me, wX0 h_a0 nc_a0 ns_a0 q_a0 k_a0 o_a0] H locs → lv_has ls 11 [(0, .ref h_me), (1, .ref h_a0), (3, .int v3), (4, .int v4), (5, .int v5), (6, .int v6), (7, .int v7)] → W p l e ({ frames := 1, cells := 0, slots := 0, locals := 26 } : Room) s m ([.ref h_me, .ref h_a0, .int p1, .int p2] : List Value).toArray below meth c H locs 0 0 Qz (F0 m 281 ls []) := by
    intro rec_30_0 hrec_30_0
    intro v3 v4 v5 v6 v7 o_me H locs ls h hw hl
    unfold bk_X3_worth_O_281 at h
    obtain ⟨x12, ex12, h⟩ := z_lt h
    refine lv_iinc (v := x12) (lv' := [(7, .int x12), (0, .ref h_me), (1, .ref h_a0), (3, .int v3), (4, .int v4), (5, .int v5), (6, .int v6)]) hx hb dX3_worth_281 hl (k := 6) rfl ((congrArg (v7 + ·) (show Int32.ofInt 1 = (1 : Int32) from by decide)).trans ex12.symm) (by decide) rfl (fun ls hl => ?_)
    refine lv_goto (tgt := 30) hx hb dX3_worth_284 (by decide) ?_
    exact hrec_30_0 v3 v4 v5 v6 x12 o_me _ _ _ h hw (lv_sub hl [1, 2, 3, 4, 5, 6, 0] rfl)
  have bk_112_3 : ∀ (rec_30_0 : Int32 × Int32 × Int32 × Int32 × Int32 × Ob → Option (Int64 × Ob)) (hrec_30_0 : ∀ (v3 : Int32) (v4 : Int32) (v5 : Int32) (v6 : Int32) (v7 : Int32) (o_me : Ob) (H : Heap) (locs : List Loc) (ls : Array Slot), rec_30_0 (v3, v4, v5, v6, v7, o_me) = some y → Wd dC dI A s.heap [wX3 h_me q_me k_me o_me, wX0 h_a0 nc_a0 ns_a0 q_a0 k_a0 o_a0] H locs → lv_has ls 11 [(0, .ref h_me), (1, .ref h_a0), (3, .int v3), (4, .int v4), (5, .int v5), (6, .int v6), (7, .int v7)] → W p l e ({ frames := 1, cells := 0, slots := 0, locals := 26 } : Room) s m ([.ref h_me, .ref h_a0, .int p1, .int p2] : List Value).toArray below meth c H locs 0 0 Qz (F0 m 30 ls [])), ∀ (v3 : Int32) (v4 : Int32) (v5 : Int32) (v6 : Int32) (v7 : Int32) (s0 : Int64) (s1 : Int32) (o_me : Ob) (H : Heap) (locs : List Loc) (ls : Array Slot), bk_X3_worth_O_112 nc_a0 ns_a0 o_a0 rec_30_0 v3 v4 v5 v6 v7 s0 s1 o_me = some y → Wd dC dI A s.heap [wX3 h_me q_me k_me o_me, wX0 h_a0 nc_a0 ns_a0 q_a0 k_a0 o_a0] H locs → lv_has ls 11 [(0, .ref h_me), (1, .ref h_a0), (3, .int v3), (4, .int v4), (5, .int v5), (6, .int v6), (7, .int v7)] → W p l e ({ frames := 1, cells := 0, slots := 0, locals := 26 } : Room) s m ([.ref h_me, .ref h_a0, .int p1, .int p2] : List Value).toArray below meth c H locs 0 0 Qz (F0 m 112 ls [.long s0, .int s1, .ref (q_me 1)]) := by
    intro rec_30_0 hrec_30_0
    intro v3 v4 v5 v6 v7 s0 s1 o_me H locs ls h hw hl
    unfold bk_X3_worth_O_112 at h
    obtain ⟨g9, h⟩ := z_gd h
    refine fbX3_1 hx hb hK hw 0 rfl rfl g9 dX3_worth_112 (fun H locs hw => ?_)
    obtain ⟨o10, eo10, h⟩ := z_lt h
    have hw : Wd dC dI A s.heap [wX3 h_me q_me k_me o10, wX0 h_a0 nc_a0 ns_a0 q_a0 k_a0 o_a0] H locs := by rw [eo10]; exact hw
    obtain ⟨x11, ex11, h⟩ := z_lt h
    refine lv_iinc (v := x11) (lv' := [(4, .int x11), (0, .ref h_me), (1, .ref h_a0), (3, .int v3), (5, .int v5), (6, .int v6), (7, .int v7)]) hx hb dX3_worth_113 hl (k := 3) rfl ((congrArg (v4 + ·) (show Int32.ofInt 1 = (1 : Int32) from by decide)).trans ex11.symm) (by decide) rfl (fun ls hl => ?_)
    refine lv_goto (tgt := 281) hx hb dX3_worth_116 (by decide) ?_
    exact bk_281_4 rec_30_0 hrec_30_0 v3 x11 v5 v6 v7 o10 _ _ _ h hw (lv_sub hl [1, 2, 3, 0, 4, 5, 6] rfl)
  have bk_75_2 : ∀ (rec_30_0 : Int32 × Int32 × Int32 × Int32 × Int32 × Ob → Option (Int64 × Ob)) (hrec_30_0 : ∀ (v3 : Int32) (v4 : Int32) (v5 : Int32) (v6 : Int32) (v7 : Int32) (o_me : Ob) (H : Heap) (locs : List Loc) (ls : Array Slot), rec_30_0 (v3, v4, v5, v6, v7, o_me) = some y → Wd dC dI A s.heap [wX3 h_me q_me k_me o_me, wX0 h_a0 nc_a0 ns_a0 q_a0 k_a0 o_a0] H locs → lv_has ls 11 [(0, .ref h_me), (1, .ref h_a0), (3, .int v3), (4, .int v4), (5, .int v5), (6, .int v6), (7, .int v7)] → W p l e ({ frames := 1, cells := 0, slots := 0, locals := 26 } : Room) s m ([.ref h_me, .ref h_a0, .int p1, .int p2] : List Value).toArray below meth c H locs 0 0 Qz (F0 m 30 ls [])), ∀ (v3 : Int32) (v4 : Int32) (v5 : Int32) (v6 : Int32) (v7 : Int32) (v8 : Int32) (v9 : Int32) (o_me : Ob) (H : Heap) (locs : List Loc) (ls : Array Slot), bk_X3_worth_O_75 nc_a0 ns_a0 o_a0 rec_30_0 v3 v4 v5 v6 v7 v8 v9 o_me = some y → Wd dC dI A s.heap [wX3 h_me q_me k_me o_me, wX0 h_a0 nc_a0 ns_a0 q_a0 k_a0 o_a0] H locs → lv_has ls 11 [(0, .ref h_me), (1, .ref h_a0), (3, .int v3), (4, .int v4), (5, .int v5), (6, .int v6), (7, .int v7), (8, .int v8), (9, .int v9)] → W p l e ({ frames := 1, cells := 0, slots := 0, locals := 26 } : Room) s m ([.ref h_me, .ref h_a0, .int p1, .int p2] : List Value).toArray below meth c H locs 0 0 Qz (F0 m 75 ls []) := by
    intro rec_30_0 hrec_30_0
    intro v3 v4 v5 v6 v7 v8 v9 o_me H locs ls h hw hl
    unfold bk_X3_worth_O_75 at h
    refine lv_iload hx hb dX3_worth_75 (lv_at hl 3 rfl) ?_
    refine lv_aload_n hx hb dX3_worth_77 rfl (lv_at hl 0 rfl) ?_
    refine fgX3_1 hx hb hts hown hK hw 0 rfl kw242 dX3_worth_78 ?_
    refine fnX3_1 hx hb hK hw 0 rfl rfl dX3_worth_81 ?_
    refine lv_fi (v := 50) (by decide) ?_
    refine lv_icmp_lt (tgt := 89) hx hb dX3_worth_82 (by decide) (fun c => ?_) (fun c => ?_)
    · have h := z_t h c
      refine lv_aload_n hx hb dX3_worth_89 rfl (lv_at hl 0 rfl) ?_
      refine fgX3_1 hx hb hts hown hK hw 0 rfl kw242 dX3_worth_90 ?_
      refine lv_iload hx hb dX3_worth_93 (lv_at hl 3 rfl) ?_
      refine lv_iload hx hb dX3_worth_95 (lv_at hl 7 rfl) ?_
      refine lv_if_ne (tgt := 106) hx hb dX3_worth_97 (by decide) (fun c => ?_) (fun c => ?_)
      · have h := z_f h c
        refine lv_aload_n hx hb dX3_worth_106 rfl (lv_at hl 0 rfl) ?_
        refine lv_iload hx hb dX3_worth_107 (lv_at hl 8 rfl) ?_
        obtain ⟨z8, ez8, h⟩ := z_bd h
        refine xj_l (xrV (As := [.int v9]) (rest := [.int v4, .ref (q_me 1)]) ⟨hx, hb, hml, hown, hts⟩ (m_X3_wordWorth l dC dI _ h_me q_me k_me o_me v9 z8 ez8) kw567 kw564 kw566 kw3 kw114 hd_X3_wordWorth ⟨rfl, rfl⟩ rfl rfl ⟨rfl, rfl⟩ hX hK hw [0] (by decide) rfl rfl rfl rfl rfl hl.1 rfl rfl dX3_worth_109) hw hA [0] (by decide) rfl rfl (fun H locs hw => ?_)
        have hw : Wd dC dI A s.heap [wX3 h_me q_me k_me o_me, wX0 h_a0 nc_a0 ns_a0 q_a0 k_a0 o_a0] H locs := hw
        exact bk_112_3 rec_30_0 hrec_30_0 v3 v4 v5 v6 v7 z8 v4 o_me _ _ _ h hw (lv_sub hl [0, 1, 2, 3, 4, 5, 6] rfl)
      · have h := z_t h c
        refine lv_iload hx hb dX3_worth_100 (lv_at hl 8 rfl) ?_
        refine lv_i2l hx hb dX3_worth_102 rfl ?_
        refine lv_goto (tgt := 112) hx hb dX3_worth_103 (by decide) ?_
        exact bk_112_3 rec_30_0 hrec_30_0 v3 v4 v5 v6 v7 v9.toInt64 v4 o_me _ _ _ h hw (lv_sub hl [0, 1, 2, 3, 4, 5, 6] rfl)
    · have h := z_f h c
      refine lv_ldc2 (v := (-9000000000000000000)) hx hb hown (hts _ kw563) dX3_worth_85 ?_
      have hy := Option.some.inj h
      rw [← hQz, ← hy]
      exact xr_l (v := (-9000000000000000000 : Int64)) hx hb hr hlk hK hw dX3_worth_88
  have bk_215_7 : ∀ (rec_30_0 : Int32 × Int32 × Int32 × Int32 × Int32 × Ob → Option (Int64 × Ob)) (hrec_30_0 : ∀ (v3 : Int32) (v4 : Int32) (v5 : Int32) (v6 : Int32) (v7 : Int32) (o_me : Ob) (H : Heap) (locs : List Loc) (ls : Array Slot), rec_30_0 (v3, v4, v5, v6, v7, o_me) = some y → Wd dC dI A s.heap [wX3 h_me q_me k_me o_me, wX0 h_a0 nc_a0 ns_a0 q_a0 k_a0 o_a0] H locs → lv_has ls 11 [(0, .ref h_me), (1, .ref h_a0), (3, .int v3), (4, .int v4), (5, .int v5), (6, .int v6), (7, .int v7)] → W p l e ({ frames := 1, cells := 0, slots := 0, locals := 26 } : Room) s m ([.ref h_me, .ref h_a0, .int p1, .int p2] : List Value).toArray below meth c H locs 0 0 Qz (F0 m 30 ls [])), ∀ (v3 : Int32) (v4 : Int32) (v5 : Int32) (v6 : Int32) (v7 : Int32) (o_me : Ob) (H : Heap) (locs : List Loc) (ls : Array Slot), bk_X3_worth_O_215 nc_a0 ns_a0 o_a0 rec_30_0 v3 v4 v5 v6 v7 o_me = some y → Wd dC dI A s.heap [wX3 h_me q_me k_me o_me, wX0 h_a0 nc_a0 ns_a0 q_a0 k_a0 o_a0] H locs → lv_has ls 11 [(0, .ref h_me), (1, .ref h_a0), (3, .int v3), (4, .int v4), (5, .int v5), (6, .int v6), (7, .int v7)] → W p l e ({ frames := 1, cells := 0, slots := 0, locals := 26 } : Room) s m ([.ref h_me, .ref h_a0, .int p1, .int p2] : List Value).toArray below meth c H locs 0 0 Qz (F0 m 215 ls []) := by
    intro rec_30_0 hrec_30_0
    intro v3 v4 v5 v6 v7 o_me H locs ls h hw hl
    unfold bk_X3_worth_O_215 at h
    refine lv_goto (tgt := 281) hx hb dX3_worth_215 (by decide) ?_
    exact bk_281_4 rec_30_0 hrec_30_0 v3 v4 v5 v6 v7 o_me _ _ _ h hw (lv_sub hl [0, 1, 2, 3, 4, 5, 6] rfl)
  have bk_197_6 : ∀ (rec_30_0 : Int32 × Int32 × Int32 × Int32 × Int32 × Ob → Option (Int64 × Ob)) (hrec_30_0 : ∀ (v3 : Int32) (v4 : Int32) (v5 : Int32) (v6 : Int32) (v7 : Int32) (o_me : Ob) (H : Heap) (locs : List Loc) (ls : Array Slot), rec_30_0 (v3, v4, v5, v6, v7, o_me) = some y → Wd dC dI A s.heap [wX3 h_me q_me k_me o_me, wX0 h_a0 nc_a0 ns_a0 q_a0 k_a0 o_a0] H locs → lv_has ls 11 [(0, .ref h_me), (1, .ref h_a0), (3, .int v3), (4, .int v4), (5, .int v5), (6, .int v6), (7, .int v7)] → W p l e ({ frames := 1, cells := 0, slots := 0, locals := 26 } : Room) s m ([.ref h_me, .ref h_a0, .int p1, .int p2] : List Value).toArray below meth c H locs 0 0 Qz (F0 m 30 ls [])), ∀ (v3 : Int32) (v4 : Int32) (v5 : Int32) (v6 : Int32) (v7 : Int32) (v9 : Int32) (s0 : Int32) (s1 : Int32) (o_me : Ob) (H : Heap) (locs : List Loc) (ls : Array Slot), bk_X3_worth_O_197 nc_a0 ns_a0 o_a0 rec_30_0 v3 v4 v5 v6 v7 v9 s0 s1 o_me = some y → Wd dC dI A s.heap [wX3 h_me q_me k_me o_me, wX0 h_a0 nc_a0 ns_a0 q_a0 k_a0 o_a0] H locs → lv_has ls 11 [(0, .ref h_me), (1, .ref h_a0), (3, .int v3), (4, .int v4), (5, .int v5), (6, .int v6), (7, .int v7), (9, .int v9)] → W p l e ({ frames := 1, cells := 0, slots := 0, locals := 26 } : Room) s m ([.ref h_me, .ref h_a0, .int p1, .int p2] : List Value).toArray below meth c H locs 0 0 Qz (F0 m 197 ls [.int s0, .int s1]) := by
    intro rec_30_0 hrec_30_0
    intro v3 v4 v5 v6 v7 v9 s0 s1 o_me H locs ls h hw hl
    unfold bk_X3_worth_O_197 at h
    refine lv_icmp_ne (tgt := 212) hx hb dX3_worth_197 (by decide) (fun c => ?_) (fun c => ?_)
    · have h := z_f h c
      obtain ⟨x21, ex21, h⟩ := z_lt h
      refine lv_iinc (v := x21) (lv' := [(4, .int x21), (0, .ref h_me), (1, .ref h_a0), (3, .int v3), (5, .int v5), (6, .int v6), (7, .int v7), (9, .int v9)]) hx hb dX3_worth_212 hl (k := 3) rfl ((congrArg (v4 + ·) (show Int32.ofInt (-1) = (-1 : Int32) from by decide)).trans ex21.symm) (by decide) rfl (fun ls hl => ?_)
      exact bk_215_7 rec_30_0 hrec_30_0 v3 x21 v5 v6 v7 o_me _ _ _ h hw (lv_sub hl [1, 2, 3, 0, 4, 5, 6] rfl)
    · have h := z_t h c
      refine lv_iload hx hb dX3_worth_200 (lv_at hl 4 rfl) ?_
      refine lv_iload hx hb dX3_worth_202 (lv_at hl 7 rfl) ?_
      refine va_mmax hx hb (hml.trans hl.1.symm) hown (hts _ kw559) (hts _ kw149) (hts _ kw113) (hts _ kw150) (Nat.le_of_ble_eq_true rfl) (Nat.le_of_ble_eq_true rfl) (Nat.le_of_ble_eq_true rfl) (Nat.le_of_ble_eq_true rfl) dX3_worth_204 ?_
      obtain ⟨x22, ex22, h⟩ := z_lt h
      refine lv_fi (v := x22) ex22.symm ?_
      refine lv_istore (lv' := [(5, .int x22), (0, .ref h_me), (1, .ref h_a0), (3, .int v3), (4, .int v4), (6, .int v6), (7, .int v7), (9, .int v9)]) hx hb dX3_worth_207 hl (by decide) rfl (fun ls hl => ?_)
      refine lv_goto (tgt := 215) hx hb dX3_worth_209 (by decide) ?_
      exact bk_215_7 rec_30_0 hrec_30_0 v3 v4 x22 v6 v7 o_me _ _ _ h hw (lv_sub hl [1, 2, 3, 4, 0, 5, 6] rfl)
  have bk_180_8 : ∀ (rec_30_0 : Int32 × Int32 × Int32 × Int32 × Int32 × Ob → Option (Int64 × Ob)) (hrec_30_0 : ∀ (v3 : Int32) (v4 : Int32) (v5 : Int32) (v6 : Int32) (v7 : Int32) (o_me : Ob) (H : Heap) (locs : List Loc) (ls : Array Slot), rec_30_0 (v3, v4, v5, v6, v7, o_me) = some y → Wd dC dI A s.heap [wX3 h_me q_me k_me o_me, wX0 h_a0 nc_a0 ns_a0 q_a0 k_a0 o_a0] H locs → lv_has ls 11 [(0, .ref h_me), (1, .ref h_a0), (3, .int v3), (4, .int v4), (5, .int v5), (6, .int v6), (7, .int v7)] → W p l e ({ frames := 1, cells := 0, slots := 0, locals := 26 } : Room) s m ([.ref h_me, .ref h_a0, .int p1, .int p2] : List Value).toArray below meth c H locs 0 0 Qz (F0 m 30 ls [])), ∀ (v3 : Int32) (v4 : Int32) (v5 : Int32) (v6 : Int32) (v7 : Int32) (s0 : Int64) (s1 : Int32) (o_me : Ob) (H : Heap) (locs : List Loc) (ls : Array Slot), bk_X3_worth_O_180 nc_a0 ns_a0 o_a0 rec_30_0 v3 v4 v5 v6 v7 s0 s1 o_me = some y → Wd dC dI A s.heap [wX3 h_me q_me k_me o_me, wX0 h_a0 nc_a0 ns_a0 q_a0 k_a0 o_a0] H locs → lv_has ls 11 [(0, .ref h_me), (1, .ref h_a0), (3, .int v3), (4, .int v4), (5, .int v5), (6, .int v6), (7, .int v7)] → W p l e ({ frames := 1, cells := 0, slots := 0, locals := 26 } : Room) s m ([.ref h_me, .ref h_a0, .int p1, .int p2] : List Value).toArray below meth c H locs 0 0 Qz (F0 m 180 ls [.long s0, .int s1, .ref (q_me 1)]) := by
    intro rec_30_0 hrec_30_0
    intro v3 v4 v5 v6 v7 s0 s1 o_me H locs ls h hw hl
    unfold bk_X3_worth_O_180 at h
    obtain ⟨g23, h⟩ := z_gd h
    refine fbX3_1 hx hb hK hw 0 rfl rfl g23 dX3_worth_180 (fun H locs hw => ?_)
    obtain ⟨o24, eo24, h⟩ := z_lt h
    have hw : Wd dC dI A s.heap [wX3 h_me q_me k_me o24, wX0 h_a0 nc_a0 ns_a0 q_a0 k_a0 o_a0] H locs := by rw [eo24]; exact hw
    refine lv_goto (tgt := 215) hx hb dX3_worth_181 (by decide) ?_
    exact bk_215_7 rec_30_0 hrec_30_0 v3 v4 v5 v6 v7 o24 _ _ _ h hw (lv_sub hl [0, 1, 2, 3, 4, 5, 6] rfl)
  have bk_154_5 : ∀ (rec_30_0 : Int32 × Int32 × Int32 × Int32 × Int32 × Ob → Option (Int64 × Ob)) (hrec_30_0 : ∀ (v3 : Int32) (v4 : Int32) (v5 : Int32) (v6 : Int32) (v7 : Int32) (o_me : Ob) (H : Heap) (locs : List Loc) (ls : Array Slot), rec_30_0 (v3, v4, v5, v6, v7, o_me) = some y → Wd dC dI A s.heap [wX3 h_me q_me k_me o_me, wX0 h_a0 nc_a0 ns_a0 q_a0 k_a0 o_a0] H locs → lv_has ls 11 [(0, .ref h_me), (1, .ref h_a0), (3, .int v3), (4, .int v4), (5, .int v5), (6, .int v6), (7, .int v7)] → W p l e ({ frames := 1, cells := 0, slots := 0, locals := 26 } : Room) s m ([.ref h_me, .ref h_a0, .int p1, .int p2] : List Value).toArray below meth c H locs 0 0 Qz (F0 m 30 ls [])), ∀ (v3 : Int32) (v4 : Int32) (v5 : Int32) (v6 : Int32) (v7 : Int32) (v8 : Int32) (v9 : Int32) (s0 : Int32) (o_me : Ob) (H : Heap) (locs : List Loc) (ls : Array Slot), bk_X3_worth_O_154 nc_a0 ns_a0 o_a0 rec_30_0 v3 v4 v5 v6 v7 v8 v9 s0 o_me = some y → Wd dC dI A s.heap [wX3 h_me q_me k_me o_me, wX0 h_a0 nc_a0 ns_a0 q_a0 k_a0 o_a0] H locs → lv_has ls 11 [(0, .ref h_me), (1, .ref h_a0), (3, .int v3), (4, .int v4), (5, .int v5), (6, .int v6), (7, .int v7), (8, .int v8), (9, .int v9)] → W p l e ({ frames := 1, cells := 0, slots := 0, locals := 26 } : Room) s m ([.ref h_me, .ref h_a0, .int p1, .int p2] : List Value).toArray below meth c H locs 0 0 Qz (F0 m 154 ls [.int s0]) := by
    intro rec_30_0 hrec_30_0
    intro v3 v4 v5 v6 v7 v8 v9 s0 o_me H locs ls h hw hl
    unfold bk_X3_worth_O_154 at h
    refine lv_istore (lv' := [(10, .int s0), (0, .ref h_me), (1, .ref h_a0), (3, .int v3), (4, .int v4), (5, .int v5), (6, .int v6), (7, .int v7), (8, .int v8), (9, .int v9)]) hx hb dX3_worth_154 hl (by decide) rfl (fun ls hl => ?_)
    refine lv_iload hx hb dX3_worth_156 (lv_at hl 8 rfl) ?_
    refine lv_iconst (v := 2) hx hb dX3_worth_158 (by decide) ?_
    refine lv_icmp_ne (tgt := 184) hx hb dX3_worth_159 (by decide) (fun c => ?_) (fun c => ?_)
    · have h := z_f h c
      refine lv_iload hx hb dX3_worth_184 (lv_at hl 0 rfl) ?_
      refine lv_iload hx hb dX3_worth_186 (lv_at hl 8 rfl) ?_
      refine lv_iconst (v := 4) hx hb dX3_worth_188 (by decide) ?_
      refine lv_icmp_ne (tgt := 196) hx hb dX3_worth_189 (by decide) (fun c => ?_) (fun c => ?_)
      · have h := z_f h c
        refine lv_iconst (v := 0) hx hb dX3_worth_196 (by decide) ?_
        exact bk_197_6 rec_30_0 hrec_30_0 v3 v4 v5 v6 v7 v9 (0 : Int32) s0 o_me _ _ _ h hw (lv_sub hl [1, 2, 3, 4, 5, 6, 7, 9] rfl)
      · have h := z_t h c
        refine lv_iconst (v := 1) hx hb dX3_worth_192 (by decide) ?_
        refine lv_goto (tgt := 197) hx hb dX3_worth_193 (by decide) ?_
        exact bk_197_6 rec_30_0 hrec_30_0 v3 v4 v5 v6 v7 v9 (1 : Int32) s0 o_me _ _ _ h hw (lv_sub hl [1, 2, 3, 4, 5, 6, 7, 9] rfl)
    · have h := z_t h c
      refine lv_aload_n hx hb dX3_worth_162 rfl (lv_at hl 1 rfl) ?_
      refine fgX3_1 hx hb hts hown hK hw 0 rfl kw242 dX3_worth_163 ?_
      refine lv_iload hx hb dX3_worth_166 (lv_at hl 4 rfl) ?_
      refine lv_iconst (v := 1) hx hb dX3_worth_168 (by decide) ?_
      refine lv_isub hx hb dX3_worth_169 ?_
      refine lv_iload hx hb dX3_worth_170 (lv_at hl 0 rfl) ?_
      refine lv_if_eq (tgt := 179) hx hb dX3_worth_172 (by decide) (fun c => ?_) (fun c => ?_)
      · have h := z_t h c
        refine lv_lconst (v := 1) hx hb dX3_worth_179 (by decide) ?_
        exact bk_180_8 rec_30_0 hrec_30_0 v3 v4 v5 v6 v7 (1 : Int64) (v4 - (1 : Int32)) o_me _ _ _ h hw (lv_sub hl [1, 2, 3, 4, 5, 6, 7] rfl)
      · have h := z_f h c
        refine lv_lconst (v := 0) hx hb dX3_worth_175 (by decide) ?_
        refine lv_goto (tgt := 180) hx hb dX3_worth_176 (by decide) ?_
        exact bk_180_8 rec_30_0 hrec_30_0 v3 v4 v5 v6 v7 (0 : Int64) (v4 - (1 : Int32)) o_me _ _ _ h hw (lv_sub hl [1, 2, 3, 4, 5, 6, 7] rfl)
  have lp_30_0 : ∀ (N : Nat), ∀ (v3 : Int32) (v4 : Int32) (v5 : Int32) (v6 : Int32) (v7 : Int32) (o_me : Ob) (H : Heap) (locs : List Loc) (ls : Array Slot), lp_X3_worth_O_30 nc_a0 ns_a0 o_a0  N (v3, v4, v5, v6, v7, o_me) = some y → Wd dC dI A s.heap [wX3 h_me q_me k_me o_me, wX0 h_a0 nc_a0 ns_a0 q_a0 k_a0 o_a0] H locs → lv_has ls 11 [(0, .ref h_me), (1, .ref h_a0), (3, .int v3), (4, .int v4), (5, .int v5), (6, .int v6), (7, .int v7)] → W p l e ({ frames := 1, cells := 0, slots := 0, locals := 26 } : Room) s m ([.ref h_me, .ref h_a0, .int p1, .int p2] : List Value).toArray below meth c H locs 0 0 Qz (F0 m 30 ls []) := by
    intro N
    induction N with
    | zero =>
      intro v3 v4 v5 v6 v7 o_me H locs ls h hw hl
      exact absurd (show (none : Option (Int64 × Ob)) = some y from h) (by simp)
    | succ N ih =>
      intro v3 v4 v5 v6 v7 o_me H locs ls h hw hl
      have h : lb_X3_worth_O_30 nc_a0 ns_a0 o_a0  (lp_X3_worth_O_30 nc_a0 ns_a0 o_a0  N) v3 v4 v5 v6 v7 o_me = some y := h
      unfold lb_X3_worth_O_30 at h
      refine lv_iload hx hb dX3_worth_30 (lv_at hl 6 rfl) ?_
      refine lv_iload_n hx hb dX3_worth_32 rfl (lv_at hl 2 rfl) ?_
      refine lv_icmp_ge (tgt := 287) hx hb dX3_worth_33 (by decide) (fun c => ?_) (fun c => ?_)
      · have h := z_t h c
        exact bk_287_1  v4 o_me _ _ _ h hw (lv_sub hl [0, 3] rfl)
      · have h := z_f h c
        refine lv_iload hx hb dX3_worth_36 (lv_at hl 4 rfl) ?_
        refine lv_iload hx hb dX3_worth_38 (lv_at hl 5 rfl) ?_
        refine lv_icmp_ge (tgt := 287) hx hb dX3_worth_40 (by decide) (fun c => ?_) (fun c => ?_)
        · have h := z_t h c
          exact bk_287_1  v4 o_me _ _ _ h hw (lv_sub hl [0, 3] rfl)
        · have h := z_f h c
          refine lv_aload_n hx hb dX3_worth_43 rfl (lv_at hl 1 rfl) ?_
          refine fgX0_5 hx hb hts hown hK hw 1 rfl kw171 dX3_worth_44 ?_
          refine lv_iload hx hb dX3_worth_47 (lv_at hl 4 rfl) ?_
          obtain ⟨g3, h⟩ := z_gd h
          refine faX0_5 hx hb hK hw 1 rfl rfl g3 dX3_worth_49 ?_
          obtain ⟨x4, ex4, h⟩ := z_lt h
          refine lv_fi (v := x4) ex4.symm ?_
          refine lv_istore (lv' := [(8, .int x4), (0, .ref h_me), (1, .ref h_a0), (3, .int v3), (4, .int v4), (5, .int v5), (6, .int v6), (7, .int v7)]) hx hb dX3_worth_50 hl (by decide) rfl (fun ls hl => ?_)
          refine lv_aload_n hx hb dX3_worth_52 rfl (lv_at hl 2 rfl) ?_
          refine fgX0_6 hx hb hts hown hK hw 1 rfl kw173 dX3_worth_53 ?_
          refine lv_iload hx hb dX3_worth_56 (lv_at hl 5 rfl) ?_
          obtain ⟨g5, h⟩ := z_gd h
          refine faX0_6 hx hb hK hw 1 rfl rfl g5 dX3_worth_58 ?_
          obtain ⟨x6, ex6, h⟩ := z_lt h
          refine lv_fi (v := x6) ex6.symm ?_
          refine lv_istore (lv' := [(9, .int x6), (8, .int x4), (0, .ref h_me), (1, .ref h_a0), (3, .int v3), (4, .int v4), (5, .int v5), (6, .int v6), (7, .int v7)]) hx hb dX3_worth_59 hl (by decide) rfl (fun ls hl => ?_)
          obtain ⟨x7, ex7, h⟩ := z_lt h
          refine lv_iinc (v := x7) (lv' := [(5, .int x7), (9, .int x6), (8, .int x4), (0, .ref h_me), (1, .ref h_a0), (3, .int v3), (4, .int v4), (6, .int v6), (7, .int v7)]) hx hb dX3_worth_61 hl (k := 6) rfl ((congrArg (v5 + ·) (show Int32.ofInt 1 = (1 : Int32) from by decide)).trans ex7.symm) (by decide) rfl (fun ls hl => ?_)
          refine lv_iload hx hb dX3_worth_64 (lv_at hl 2 rfl) ?_
          refine lv_if_eq (tgt := 75) hx hb dX3_worth_66 (by decide) (fun c => ?_) (fun c => ?_)
          · have h := z_t h c
            exact bk_75_2 (lp_X3_worth_O_30 nc_a0 ns_a0 o_a0  N) ih v3 v4 x7 v6 v7 x4 x6 o_me _ _ _ h hw (lv_sub hl [3, 4, 5, 6, 0, 7, 8, 2, 1] rfl)
          · have h := z_f h c
            refine lv_iload hx hb dX3_worth_69 (lv_at hl 2 rfl) ?_
            refine lv_iconst (v := 1) hx hb dX3_worth_71 (by decide) ?_
            refine lv_icmp_ne (tgt := 119) hx hb dX3_worth_72 (by decide) (fun c => ?_) (fun c => ?_)
            · have h := z_f h c
              refine lv_iload hx hb dX3_worth_119 (lv_at hl 2 rfl) ?_
              refine lv_iconst (v := 4) hx hb dX3_worth_121 (by decide) ?_
              refine lv_icmp_gt (tgt := 218) hx hb dX3_worth_122 (by decide) (fun c => ?_) (fun c => ?_)
              · have h := z_t h c
                refine lv_iload hx hb dX3_worth_218 (lv_at hl 6 rfl) ?_
                refine lv_iconst (v := 2) hx hb dX3_worth_220 (by decide) ?_
                refine lv_icmp_ge (tgt := 228) hx hb dX3_worth_221 (by decide) (fun c => ?_) (fun c => ?_)
                · have h := z_t h c
                  obtain ⟨x13, ex13, h⟩ := z_lt h
                  refine lv_iinc (v := x13) (lv' := [(4, .int x13), (5, .int x7), (9, .int x6), (8, .int x4), (0, .ref h_me), (1, .ref h_a0), (3, .int v3), (6, .int v6), (7, .int v7)]) hx hb dX3_worth_228 hl (k := 6) rfl ((congrArg (v4 + ·) (show Int32.ofInt (-1) = (-1 : Int32) from by decide)).trans ex13.symm) (by decide) rfl (fun ls hl => ?_)
                  refine lv_aload_n hx hb dX3_worth_231 rfl (lv_at hl 4 rfl) ?_
                  refine fgX3_1 hx hb hts hown hK hw 0 rfl kw242 dX3_worth_232 ?_
                  refine lv_iload hx hb dX3_worth_235 (lv_at hl 0 rfl) ?_
                  refine lv_iconst (v := 1) hx hb dX3_worth_237 (by decide) ?_
                  refine lv_isub hx hb dX3_worth_238 ?_
                  refine lv_iload hx hb dX3_worth_239 (lv_at hl 3 rfl) ?_
                  refine lv_aload_n hx hb dX3_worth_241 rfl (lv_at hl 4 rfl) ?_
                  refine fgX3_1 hx hb hts hown hK hw 0 rfl kw242 dX3_worth_242 ?_
                  refine lv_iload hx hb dX3_worth_245 (lv_at hl 0 rfl) ?_
                  refine lv_iconst (v := 1) hx hb dX3_worth_247 (by decide) ?_
                  refine lv_isub hx hb dX3_worth_248 ?_
                  obtain ⟨g14, h⟩ := z_gd h
                  refine faX3_1 hx hb hK hw 0 rfl rfl g14 dX3_worth_249 ?_
                  refine lv_aload_n hx hb dX3_worth_250 rfl (lv_at hl 4 rfl) ?_
                  refine fgX3_1 hx hb hts hown hK hw 0 rfl kw242 dX3_worth_251 ?_
                  refine lv_iload hx hb dX3_worth_254 (lv_at hl 0 rfl) ?_
                  obtain ⟨g15, h⟩ := z_gd h
                  refine faX3_1 hx hb hK hw 0 rfl rfl g15 dX3_worth_256 ?_
                  obtain ⟨z16, ez16, h⟩ := z_bd h
                  refine xj_l (xrS (As := [.int x4, .long (gM o_me 1 (x13 - (1 : Int32)).toNatClampNeg), .long (gM o_me 1 x13.toNatClampNeg)]) (rest := [.int (x13 - (1 : Int32)), .ref (q_me 1)]) ⟨hx, hb, hml, hown, hts⟩ (m_X3_joined l dC dI _  x4 (gM o_me 1 (x13 - (1 : Int32)).toNatClampNeg) (gM o_me 1 x13.toNatClampNeg) z16 ez16) kw570 kw568 kw569 kw114 hd_X3_joined ⟨rfl, rfl⟩ rfl rfl ⟨rfl, rfl⟩ hX hK hw [] (by decide) rfl rfl hl.1 rfl rfl dX3_worth_257) hw hA [] (by decide) rfl rfl (fun H locs hw => ?_)
                  obtain ⟨g17, h⟩ := z_gd h
                  refine fbX3_1 hx hb hK hw 0 rfl rfl g17 dX3_worth_260 (fun H locs hw => ?_)
                  obtain ⟨o18, eo18, h⟩ := z_lt h
                  have hw : Wd dC dI A s.heap [wX3 h_me q_me k_me o18, wX0 h_a0 nc_a0 ns_a0 q_a0 k_a0 o_a0] H locs := by rw [eo18]; exact hw
                  refine lv_aload_n hx hb dX3_worth_261 rfl (lv_at hl 4 rfl) ?_
                  refine fgX3_1 hx hb hts hown hK hw 0 rfl kw242 dX3_worth_262 ?_
                  refine lv_iload hx hb dX3_worth_265 (lv_at hl 0 rfl) ?_
                  refine lv_iconst (v := 1) hx hb dX3_worth_267 (by decide) ?_
                  refine lv_isub hx hb dX3_worth_268 ?_
                  obtain ⟨g19, h⟩ := z_gd h
                  refine faX3_1 hx hb hK hw 0 rfl rfl g19 dX3_worth_269 ?_
                  refine lv_ldc2 (v := (-9000000000000000000)) hx hb hown (hts _ kw563) dX3_worth_270 ?_
                  refine W.lcmp hx hb dX3_worth_273 ?_
                  refine lv_if_ne (tgt := 281) hx hb dX3_worth_274 (by decide) (fun c => ?_) (fun c => ?_)
                  · have h := z_f h c
                    exact bk_281_4 (lp_X3_worth_O_30 nc_a0 ns_a0 o_a0  N) ih v3 x13 x7 v6 v7 o18 _ _ _ h hw (lv_sub hl [4, 5, 6, 0, 1, 7, 8] rfl)
                  · have h := z_t h c
                    refine lv_ldc2 (v := (-9000000000000000000)) hx hb hown (hts _ kw563) dX3_worth_277 ?_
                    have hy := Option.some.inj h
                    rw [← hQz, ← hy]
                    exact xr_l (v := (-9000000000000000000 : Int64)) hx hb hr hlk hK hw dX3_worth_280
                · have h := z_f h c
                  refine lv_ldc2 (v := (-9000000000000000000)) hx hb hown (hts _ kw563) dX3_worth_224 ?_
                  have hy := Option.some.inj h
                  rw [← hQz, ← hy]
                  exact xr_l (v := (-9000000000000000000 : Int64)) hx hb hr hlk hK hw dX3_worth_227
              · have h := z_f h c
                refine lv_iload hx hb dX3_worth_125 (lv_at hl 6 rfl) ?_
                refine lv_iconst (v := 1) hx hb dX3_worth_127 (by decide) ?_
                refine lv_icmp_ge (tgt := 135) hx hb dX3_worth_128 (by decide) (fun c => ?_) (fun c => ?_)
                · have h := z_t h c
                  refine lv_aload_n hx hb dX3_worth_135 rfl (lv_at hl 3 rfl) ?_
                  refine fgX3_1 hx hb hts hown hK hw 0 rfl kw242 dX3_worth_136 ?_
                  refine lv_iload hx hb dX3_worth_139 (lv_at hl 6 rfl) ?_
                  refine lv_iconst (v := 1) hx hb dX3_worth_141 (by decide) ?_
                  refine lv_isub hx hb dX3_worth_142 ?_
                  obtain ⟨g20, h⟩ := z_gd h
                  refine faX3_1 hx hb hK hw 0 rfl rfl g20 dX3_worth_143 ?_
                  refine lv_lconst (v := 1) hx hb dX3_worth_144 (by decide) ?_
                  refine W.lcmp hx hb dX3_worth_145 ?_
                  refine lv_if_ne (tgt := 153) hx hb dX3_worth_146 (by decide) (fun c => ?_) (fun c => ?_)
                  · have h := z_f h c
                    refine lv_iconst (v := 0) hx hb dX3_worth_153 (by decide) ?_
                    exact bk_154_5 (lp_X3_worth_O_30 nc_a0 ns_a0 o_a0  N) ih v3 v4 x7 v6 v7 x4 x6 (0 : Int32) o_me _ _ _ h hw (lv_sub hl [3, 4, 5, 6, 0, 7, 8, 2, 1] rfl)
                  · have h := z_t h c
                    refine lv_iconst (v := 1) hx hb dX3_worth_149 (by decide) ?_
                    refine lv_goto (tgt := 154) hx hb dX3_worth_150 (by decide) ?_
                    exact bk_154_5 (lp_X3_worth_O_30 nc_a0 ns_a0 o_a0  N) ih v3 v4 x7 v6 v7 x4 x6 (1 : Int32) o_me _ _ _ h hw (lv_sub hl [3, 4, 5, 6, 0, 7, 8, 2, 1] rfl)
                · have h := z_f h c
                  refine lv_ldc2 (v := (-9000000000000000000)) hx hb hown (hts _ kw563) dX3_worth_131 ?_
                  have hy := Option.some.inj h
                  rw [← hQz, ← hy]
                  exact xr_l (v := (-9000000000000000000 : Int64)) hx hb hr hlk hK hw dX3_worth_134
            · have h := z_t h c
              exact bk_75_2 (lp_X3_worth_O_30 nc_a0 ns_a0 o_a0  N) ih v3 v4 x7 v6 v7 x4 x6 o_me _ _ _ h hw (lv_sub hl [3, 4, 5, 6, 0, 7, 8, 2, 1] rfl)
  unfold f_X3_worth_O at h
  refine lv_iload_n hx hb dX3_worth_0 rfl (lv_at hl 2 rfl) ?_
  refine lv_iload_n hx hb dX3_worth_1 rfl (lv_at hl 3 rfl) ?_
  refine lv_icmp_lt (tgt := 7) hx hb dX3_worth_2 (by decide) (fun c => ?_) (fun c => ?_)
  · have h := z_t h c
    refine lv_iconst (v := 0) hx hb dX3_worth_7 (by decide) ?_
    refine lv_istore (lv' := [(4, .int (0 : Int32)), (0, .ref h_me), (1, .ref h_a0), (2, .int p1), (3, .int p2)]) hx hb dX3_worth_8 hl (by decide) rfl (fun ls hl => ?_)
    refine lv_iconst (v := 0) hx hb dX3_worth_10 (by decide) ?_
    refine lv_iload_n hx hb dX3_worth_11 rfl (lv_at hl 3 rfl) ?_
    refine va_mmax hx hb (hml.trans hl.1.symm) hown (hts _ kw559) (hts _ kw149) (hts _ kw113) (hts _ kw150) (Nat.le_of_ble_eq_true rfl) (Nat.le_of_ble_eq_true rfl) (Nat.le_of_ble_eq_true rfl) (Nat.le_of_ble_eq_true rfl) dX3_worth_12 ?_
    obtain ⟨x1, ex1, h⟩ := z_lt h
    refine lv_fi (v := x1) ex1.symm ?_
    refine lv_istore (lv' := [(5, .int x1), (4, .int (0 : Int32)), (0, .ref h_me), (1, .ref h_a0), (2, .int p1), (3, .int p2)]) hx hb dX3_worth_15 hl (by decide) rfl (fun ls hl => ?_)
    refine lv_iload_n hx hb dX3_worth_17 rfl (lv_at hl 5 rfl) ?_
    refine lv_aload_n hx hb dX3_worth_18 rfl (lv_at hl 3 rfl) ?_
    refine fgX0_8 hx hb hts hown hK hw 1 rfl kw179 dX3_worth_19 ?_
    refine va_mmin hx hb (hml.trans hl.1.symm) hown (hts _ kw560) (hts _ kw561) (hts _ kw113) (hts _ kw562) (Nat.le_of_ble_eq_true rfl) (Nat.le_of_ble_eq_true rfl) (Nat.le_of_ble_eq_true rfl) (Nat.le_of_ble_eq_true rfl) dX3_worth_22 ?_
    obtain ⟨x2, ex2, h⟩ := z_lt h
    refine lv_fi (v := x2) ex2.symm ?_
    refine lv_istore (lv' := [(6, .int x2), (5, .int x1), (4, .int (0 : Int32)), (0, .ref h_me), (1, .ref h_a0), (2, .int p1), (3, .int p2)]) hx hb dX3_worth_25 hl (by decide) rfl (fun ls hl => ?_)
    refine lv_iload_n hx hb dX3_worth_27 rfl (lv_at hl 5 rfl) ?_
    refine lv_istore (lv' := [(7, .int p1), (6, .int x2), (5, .int x1), (4, .int (0 : Int32)), (0, .ref h_me), (1, .ref h_a0), (2, .int p1), (3, .int p2)]) hx hb dX3_worth_28 hl (by decide) rfl (fun ls hl => ?_)
    exact lp_30_0  zfu p2 (0 : Int32) x1 x2 p1 o_me _ _ _ h hw (lv_sub hl [4, 5, 7, 3, 2, 1, 0] rfl)
  · have h := z_f h c
    refine lv_lconst (v := 1) hx hb dX3_worth_5 (by decide) ?_
    have hy := Option.some.inj h
    rw [← hQz, ← hy]
    exact xr_l (v := (1 : Int64)) hx hb hr hlk hK hw dX3_worth_6

def bk_X1_told_O_130 (nc_a0 : Nat) (ns_a0 : Nat) (o_me : Ob) (o_me_isles : Ob) (o_me_isles_now : Ob) (o_a0 : Ob) (rec_51_0 : Int32 × Int32 × Ob → Option (Int64 × Ob)) (v2 : Int32) (v6 : Int32) (o_me_machine : Ob) : Option (Int64 × Ob) :=
  zlt (v6 + (-1 : Int32)) fun x6 =>
  rec_51_0 (v2, x6, o_me_machine)
def lb_X1_told_O_51 (nc_a0 : Nat) (ns_a0 : Nat) (o_me : Ob) (o_me_isles : Ob) (o_me_isles_now : Ob) (o_a0 : Ob)  (rec_51_0 : Int32 × Int32 × Ob → Option (Int64 × Ob)) (v2 : Int32) (v6 : Int32) (o_me_machine : Ob) : Option (Int64 × Ob) :=
  if v6 < (0 : Int32) then
  (some ((-9000000000000000000 : Int64), o_me_machine))
  else
  (zgd (zin v6 nc_a0) <|
  if (gA o_a0 0 v6.toNatClampNeg) = v2 then
  (zgd (zin v6 nc_a0) <|
  zgd (zin v6 nc_a0) <|
  (f_X3_worth_O nc_a0 ns_a0 o_me_machine o_a0 (gA o_a0 3 v6.toNatClampNeg) (gA o_a0 4 v6.toNatClampNeg)).bind fun z9 =>
  if (lg_cmp z9.1 (1 : Int64)) = (0 : Int32) then
  (zgd (zin v6 nc_a0) <|
  zgd (zin v6 nc_a0) <|
  (f_X3_worth_O nc_a0 ns_a0 z9.2 o_a0 (gA o_a0 2 v6.toNatClampNeg) (gA o_a0 3 v6.toNatClampNeg)).bind fun z12 =>
  if (lg_cmp z12.1 (-9000000000000000000 : Int64)) = (0 : Int32) then
  (bk_X1_told_O_130 nc_a0 ns_a0 o_me o_me_isles o_me_isles_now o_a0 rec_51_0 v2 v6 z12.2)
  else
  (some (z12.1, z12.2)))
  else
  (bk_X1_told_O_130 nc_a0 ns_a0 o_me o_me_isles o_me_isles_now o_a0 rec_51_0 v2 v6 z9.2))
  else
  (bk_X1_told_O_130 nc_a0 ns_a0 o_me o_me_isles o_me_isles_now o_a0 rec_51_0 v2 v6 o_me_machine))
def lp_X1_told_O_51 (nc_a0 : Nat) (ns_a0 : Nat) (o_me : Ob) (o_me_isles : Ob) (o_me_isles_now : Ob) (o_a0 : Ob)  : Nat → (Int32 × Int32 × Ob) → Option (Int64 × Ob) := zit (fun rec a => lb_X1_told_O_51 nc_a0 ns_a0 o_me o_me_isles o_me_isles_now o_a0  rec a.1 a.2.1 a.2.2)
def f_X1_told_O (nc_a0 : Nat) (ns_a0 : Nat) (o_me : Ob) (o_me_isles : Ob) (o_me_isles_now : Ob) (o_me_machine : Ob) (o_a0 : Ob) (p1 : Int32) (p2 : Int32) (p3 : Int32) (p4 : Int32) : Option (Int64 × Ob) :=
  (f_X2_isPerson o_me_isles p2).bind fun z1 =>
  if z1 = (0 : Int32) then
  (some ((-9000000000000000000 : Int64), o_me_machine))
  else
  ((f_X8_isRace p3).bind fun z2 =>
  if z2 = (0 : Int32) then
  (some ((-9000000000000000000 : Int64), o_me_machine))
  else
  ((f_X3_setLawWords_O o_me_machine o_me_isles o_me_isles_now p2 p3 p4).bind fun z3 =>
  zlt ((gI o_a0 7) - (1 : Int32)) fun x4 =>
  lp_X1_told_O_51 nc_a0 ns_a0 o_me o_me_isles o_me_isles_now o_a0  zfu (p1, x4, z3)))
set_option maxHeartbeats 4000000 in
set_option maxRecDepth 100000 in
theorem m_X1_told_O (l : Launch) (dC : Nat → ClassId) (dI : Nat → Nat → Nat) (sz : Nat) (h_me : Nat) (h_me_isles : Nat) (h_me_machine : Nat) (h_me_isles_now : Nat) (h_a0 : Nat) (q_me : Nat → Nat) (k_me : Nat → ClassId) (q_me_isles : Nat → Nat) (k_me_isles : Nat → ClassId) (q_me_isles_now : Nat → Nat) (k_me_isles_now : Nat → ClassId) (q_me_machine : Nat → Nat) (k_me_machine : Nat → ClassId) (q_a0 : Nat → Nat) (k_a0 : Nat → ClassId) (nc_a0 : Nat) (ns_a0 : Nat) (o_me : Ob) (o_me_isles : Ob) (o_me_isles_now : Ob) (o_me_machine : Ob) (o_a0 : Ob) (p1 : Int32) (p2 : Int32) (p3 : Int32) (p4 : Int32) (y : Int64 × Ob) (h : f_X1_told_O nc_a0 ns_a0 o_me o_me_isles o_me_isles_now o_me_machine o_a0 p1 p2 p3 p4 = some y) : CL l yX1_told cX1_told 9 (some .long) ({ frames := 2, cells := 0, slots := 0, locals := 56 } : Room) dC dI sz [.ref h_me, .ref h_a0, .int p1, .int p2, .int p3, .int p4] [wX1 h_me h_me_isles h_me_machine q_me k_me o_me, wX2 h_me_isles h_me_isles_now q_me_isles k_me_isles o_me_isles, wX4 h_me_isles_now q_me_isles_now k_me_isles_now o_me_isles_now, wX3 h_me_machine q_me_machine k_me_machine o_me_machine, wX0 h_a0 nc_a0 ns_a0 q_a0 k_a0 o_a0] [tX1 k_me, tX2 k_me_isles, tX4 k_me_isles_now, tX3 k_me_machine, tX0 k_a0] y.1 [wX1 h_me h_me_isles h_me_machine q_me k_me o_me, wX2 h_me_isles h_me_isles_now q_me_isles k_me_isles o_me_isles, wX4 h_me_isles_now q_me_isles_now k_me_isles_now o_me_isles_now, wX3 h_me_machine q_me_machine k_me_machine y.2, wX0 h_a0 nc_a0 ns_a0 q_a0 k_a0 o_a0] := by
  refine CC_of (by decide) (Nat.le_of_ble_eq_true rfl) ?_
  intro p e s m below meth c A ls hx hb hml hr hlk hnm hown hts hX hK hP hD hA hl
  have hl : lv_has ls 9 [(0, .ref h_me), (1, .ref h_a0), (2, .int p1), (3, .int p2), (4, .int p3), (5, .int p4)] := hl
  have hown : s.vm.findClass RX1 = some m.cls := hown
  have hw : Wd dC dI A s.heap [wX1 h_me h_me_isles h_me_machine q_me k_me o_me, wX2 h_me_isles h_me_isles_now q_me_isles k_me_isles o_me_isles, wX4 h_me_isles_now q_me_isles_now k_me_isles_now o_me_isles_now, wX3 h_me_machine q_me_machine k_me_machine o_me_machine, wX0 h_a0 nc_a0 ns_a0 q_a0 k_a0 o_a0] s.heap [] := ⟨hP, hD, va_S.rf⟩
  generalize hQz : (MQ below (QL dC dI (fun r (_ : Unit) => r = y.1) (fun _ => Jn [wX1 h_me h_me_isles h_me_machine q_me k_me o_me, wX2 h_me_isles h_me_isles_now q_me_isles k_me_isles o_me_isles, wX4 h_me_isles_now q_me_isles_now k_me_isles_now o_me_isles_now, wX3 h_me_machine q_me_machine k_me_machine y.2, wX0 h_a0 nc_a0 ns_a0 q_a0 k_a0 o_a0]) (fun _ => Jt [tX1 k_me, tX2 k_me_isles, tX4 k_me_isles_now, tX3 k_me_machine, tX0 k_a0]) A) ([.ref h_me, .ref h_a0, .int p1, .int p2, .int p3, .int p4] : List Value).toArray s 0 0 A) = Qz
  clear hP hD hnm
  have bk_130_1 : ∀ (rec_51_0 : Int32 × Int32 × Ob → Option (Int64 × Ob)) (hrec_51_0 : ∀ (v2 : Int32) (v6 : Int32) (o_me_machine : Ob) (H : Heap) (locs : List Loc) (ls : Array Slot), rec_51_0 (v2, v6, o_me_machine) = some y → Wd dC dI A s.heap [wX1 h_me h_me_isles h_me_machine q_me k_me o_me, wX2 h_me_isles h_me_isles_now q_me_isles k_me_isles o_me_isles, wX4 h_me_isles_now q_me_isles_now k_me_isles_now o_me_isles_now, wX3 h_me_machine q_me_machine k_me_machine o_me_machine, wX0 h_a0 nc_a0 ns_a0 q_a0 k_a0 o_a0] H locs → lv_has ls 9 [(0, .ref h_me), (1, .ref h_a0), (2, .int v2), (6, .int v6)] → W p l e ({ frames := 2, cells := 0, slots := 0, locals := 56 } : Room) s m ([.ref h_me, .ref h_a0, .int p1, .int p2, .int p3, .int p4] : List Value).toArray below meth c H locs 0 0 Qz (F0 m 51 ls [])), ∀ (v2 : Int32) (v6 : Int32) (o_me_machine : Ob) (H : Heap) (locs : List Loc) (ls : Array Slot), bk_X1_told_O_130 nc_a0 ns_a0 o_me o_me_isles o_me_isles_now o_a0 rec_51_0 v2 v6 o_me_machine = some y → Wd dC dI A s.heap [wX1 h_me h_me_isles h_me_machine q_me k_me o_me, wX2 h_me_isles h_me_isles_now q_me_isles k_me_isles o_me_isles, wX4 h_me_isles_now q_me_isles_now k_me_isles_now o_me_isles_now, wX3 h_me_machine q_me_machine k_me_machine o_me_machine, wX0 h_a0 nc_a0 ns_a0 q_a0 k_a0 o_a0] H locs → lv_has ls 9 [(0, .ref h_me), (1, .ref h_a0), (2, .int v2), (6, .int v6)] → W p l e ({ frames := 2, cells := 0, slots := 0, locals := 56 } : Room) s m ([.ref h_me, .ref h_a0, .int p1, .int p2, .int p3, .int p4] : List Value).toArray below meth c H locs 0 0 Qz (F0 m 130 ls []) := by
    intro rec_51_0 hrec_51_0
    intro v2 v6 o_me_machine H locs ls h hw hl
    unfold bk_X1_told_O_130 at h
    obtain ⟨x6, ex6, h⟩ := z_lt h
    refine lv_iinc (v := x6) (lv' := [(6, .int x6), (0, .ref h_me), (1, .ref h_a0), (2, .int v2)]) hx hb dX1_told_130 hl (k := 3) rfl ((congrArg (v6 + ·) (show Int32.ofInt (-1) = (-1 : Int32) from by decide)).trans ex6.symm) (by decide) rfl (fun ls hl => ?_)
    refine lv_goto (tgt := 51) hx hb dX1_told_133 (by decide) ?_
    exact hrec_51_0 v2 x6 o_me_machine _ _ _ h hw (lv_sub hl [1, 2, 3, 0] rfl)
  have lp_51_0 : ∀ (N : Nat), ∀ (v2 : Int32) (v6 : Int32) (o_me_machine : Ob) (H : Heap) (locs : List Loc) (ls : Array Slot), lp_X1_told_O_51 nc_a0 ns_a0 o_me o_me_isles o_me_isles_now o_a0  N (v2, v6, o_me_machine) = some y → Wd dC dI A s.heap [wX1 h_me h_me_isles h_me_machine q_me k_me o_me, wX2 h_me_isles h_me_isles_now q_me_isles k_me_isles o_me_isles, wX4 h_me_isles_now q_me_isles_now k_me_isles_now o_me_isles_now, wX3 h_me_machine q_me_machine k_me_machine o_me_machine, wX0 h_a0 nc_a0 ns_a0 q_a0 k_a0 o_a0] H locs → lv_has ls 9 [(0, .ref h_me), (1, .ref h_a0), (2, .int v2), (6, .int v6)] → W p l e ({ frames := 2, cells := 0, slots := 0, locals := 56 } : Room) s m ([.ref h_me, .ref h_a0, .int p1, .int p2, .int p3, .int p4] : List Value).toArray below meth c H locs 0 0 Qz (F0 m 51 ls []) := by
    intro N
    induction N with
    | zero =>
      intro v2 v6 o_me_machine H locs ls h hw hl
      exact absurd (show (none : Option (Int64 × Ob)) = some y from h) (by simp)
    | succ N ih =>
      intro v2 v6 o_me_machine H locs ls h hw hl
      have h : lb_X1_told_O_51 nc_a0 ns_a0 o_me o_me_isles o_me_isles_now o_a0  (lp_X1_told_O_51 nc_a0 ns_a0 o_me o_me_isles o_me_isles_now o_a0  N) v2 v6 o_me_machine = some y := h
      unfold lb_X1_told_O_51 at h
      refine lv_iload hx hb dX1_told_51 (lv_at hl 3 rfl) ?_
      refine lv_if_lt (tgt := 136) hx hb dX1_told_53 (by decide) (fun c => ?_) (fun c => ?_)
      · have h := z_t h c
        refine lv_ldc2 (v := (-9000000000000000000)) hx hb hown (hts _ kw550) dX1_told_136 ?_
        have hy := Option.some.inj h
        rw [← hQz, ← hy]
        exact xr_l (v := (-9000000000000000000 : Int64)) hx hb hr hlk hK hw dX1_told_139
      · have h := z_f h c
        refine lv_aload_n hx hb dX1_told_56 rfl (lv_at hl 1 rfl) ?_
        refine fgX0_0 hx hb hts hown hK hw 4 rfl kw152 dX1_told_57 ?_
        refine lv_iload hx hb dX1_told_60 (lv_at hl 3 rfl) ?_
        obtain ⟨g5, h⟩ := z_gd h
        refine faX0_0 hx hb hK hw 4 rfl rfl g5 dX1_told_62 ?_
        refine lv_iload_n hx hb dX1_told_63 rfl (lv_at hl 2 rfl) ?_
        refine lv_icmp_ne (tgt := 130) hx hb dX1_told_64 (by decide) (fun c => ?_) (fun c => ?_)
        · have h := z_f h c
          exact bk_130_1 (lp_X1_told_O_51 nc_a0 ns_a0 o_me o_me_isles o_me_isles_now o_a0  N) ih v2 v6 o_me_machine _ _ _ h hw (lv_sub hl [0, 1, 2, 3] rfl)
        · have h := z_t h c
          refine lv_aload_n hx hb dX1_told_67 rfl (lv_at hl 0 rfl) ?_
          refine fgX1_1 hx hb hts hown hK hw 0 rfl kw365 dX1_told_68 ?_
          refine lv_aload_n hx hb dX1_told_71 rfl (lv_at hl 1 rfl) ?_
          refine lv_aload_n hx hb dX1_told_72 rfl (lv_at hl 1 rfl) ?_
          refine fgX0_3 hx hb hts hown hK hw 4 rfl kw163 dX1_told_73 ?_
          refine lv_iload hx hb dX1_told_76 (lv_at hl 3 rfl) ?_
          obtain ⟨g7, h⟩ := z_gd h
          refine faX0_3 hx hb hK hw 4 rfl rfl g7 dX1_told_78 ?_
          refine lv_aload_n hx hb dX1_told_79 rfl (lv_at hl 1 rfl) ?_
          refine fgX0_4 hx hb hts hown hK hw 4 rfl kw167 dX1_told_80 ?_
          refine lv_iload hx hb dX1_told_83 (lv_at hl 3 rfl) ?_
          obtain ⟨g8, h⟩ := z_gd h
          refine faX0_4 hx hb hK hw 4 rfl rfl g8 dX1_told_85 ?_
          obtain ⟨z9, ez9, h⟩ := z_bd h
          refine xj_l (xrV (As := [.ref h_a0, .int (gA o_a0 3 v6.toNatClampNeg), .int (gA o_a0 4 v6.toNatClampNeg)]) (rest := []) ⟨hx, hb, hml, hown, hts⟩ (m_X3_worth_O l dC dI _ h_me_machine h_a0 q_me_machine k_me_machine q_a0 k_a0 nc_a0 ns_a0 o_me_machine o_a0 (gA o_a0 3 v6.toNatClampNeg) (gA o_a0 4 v6.toNatClampNeg) z9 ez9) kw558 kw555 kw556 kw557 kw114 hd_X3_worth ⟨rfl, rfl⟩ rfl rfl ⟨rfl, rfl⟩ hX hK hw [3, 4] (by decide) rfl rfl rfl rfl rfl hl.1 rfl rfl dX1_told_86) hw hA [3, 4] (by decide) rfl rfl (fun H locs hw => ?_)
          have hw : Wd dC dI A s.heap [wX1 h_me h_me_isles h_me_machine q_me k_me o_me, wX2 h_me_isles h_me_isles_now q_me_isles k_me_isles o_me_isles, wX4 h_me_isles_now q_me_isles_now k_me_isles_now o_me_isles_now, wX3 h_me_machine q_me_machine k_me_machine z9.2, wX0 h_a0 nc_a0 ns_a0 q_a0 k_a0 o_a0] H locs := hw
          refine lv_lconst (v := 1) hx hb dX1_told_89 (by decide) ?_
          refine W.lcmp hx hb dX1_told_90 ?_
          refine lv_if_ne (tgt := 130) hx hb dX1_told_91 (by decide) (fun c => ?_) (fun c => ?_)
          · have h := z_f h c
            exact bk_130_1 (lp_X1_told_O_51 nc_a0 ns_a0 o_me o_me_isles o_me_isles_now o_a0  N) ih v2 v6 z9.2 _ _ _ h hw (lv_sub hl [0, 1, 2, 3] rfl)
          · have h := z_t h c
            refine lv_aload_n hx hb dX1_told_94 rfl (lv_at hl 0 rfl) ?_
            refine fgX1_1 hx hb hts hown hK hw 0 rfl kw365 dX1_told_95 ?_
            refine lv_aload_n hx hb dX1_told_98 rfl (lv_at hl 1 rfl) ?_
            refine lv_aload_n hx hb dX1_told_99 rfl (lv_at hl 1 rfl) ?_
            refine fgX0_2 hx hb hts hown hK hw 4 rfl kw159 dX1_told_100 ?_
            refine lv_iload hx hb dX1_told_103 (lv_at hl 3 rfl) ?_
            obtain ⟨g10, h⟩ := z_gd h
            refine faX0_2 hx hb hK hw 4 rfl rfl g10 dX1_told_105 ?_
            refine lv_aload_n hx hb dX1_told_106 rfl (lv_at hl 1 rfl) ?_
            refine fgX0_3 hx hb hts hown hK hw 4 rfl kw163 dX1_told_107 ?_
            refine lv_iload hx hb dX1_told_110 (lv_at hl 3 rfl) ?_
            obtain ⟨g11, h⟩ := z_gd h
            refine faX0_3 hx hb hK hw 4 rfl rfl g11 dX1_told_112 ?_
            obtain ⟨z12, ez12, h⟩ := z_bd h
            refine xj_l (xrV (As := [.ref h_a0, .int (gA o_a0 2 v6.toNatClampNeg), .int (gA o_a0 3 v6.toNatClampNeg)]) (rest := []) ⟨hx, hb, hml, hown, hts⟩ (m_X3_worth_O l dC dI _ h_me_machine h_a0 q_me_machine k_me_machine q_a0 k_a0 nc_a0 ns_a0 z9.2 o_a0 (gA o_a0 2 v6.toNatClampNeg) (gA o_a0 3 v6.toNatClampNeg) z12 ez12) kw558 kw555 kw556 kw557 kw114 hd_X3_worth ⟨rfl, rfl⟩ rfl rfl ⟨rfl, rfl⟩ hX hK hw [3, 4] (by decide) rfl rfl rfl rfl rfl hl.1 rfl rfl dX1_told_113) hw hA [3, 4] (by decide) rfl rfl (fun H locs hw => ?_)
            have hw : Wd dC dI A s.heap [wX1 h_me h_me_isles h_me_machine q_me k_me o_me, wX2 h_me_isles h_me_isles_now q_me_isles k_me_isles o_me_isles, wX4 h_me_isles_now q_me_isles_now k_me_isles_now o_me_isles_now, wX3 h_me_machine q_me_machine k_me_machine z12.2, wX0 h_a0 nc_a0 ns_a0 q_a0 k_a0 o_a0] H locs := hw
            refine lv_lstore (lv' := [(7, .long z12.1), (0, .ref h_me), (1, .ref h_a0), (2, .int v2), (6, .int v6)]) hx hb dX1_told_116 hl (by decide) rfl (fun ls hl => ?_)
            refine lv_lload hx hb dX1_told_118 (lv_at hl 0 rfl) ?_
            refine lv_ldc2 (v := (-9000000000000000000)) hx hb hown (hts _ kw550) dX1_told_120 ?_
            refine W.lcmp hx hb dX1_told_123 ?_
            refine lv_if_eq (tgt := 130) hx hb dX1_told_124 (by decide) (fun c => ?_) (fun c => ?_)
            · have h := z_t h c
              exact bk_130_1 (lp_X1_told_O_51 nc_a0 ns_a0 o_me o_me_isles o_me_isles_now o_a0  N) ih v2 v6 z12.2 _ _ _ h hw (lv_sub hl [1, 2, 3, 4] rfl)
            · have h := z_f h c
              refine lv_lload hx hb dX1_told_127 (lv_at hl 0 rfl) ?_
              have hy := Option.some.inj h
              rw [← hQz, ← hy]
              exact xr_l (v := z12.1) hx hb hr hlk hK hw dX1_told_129
  unfold f_X1_told_O at h
  refine lv_aload_n hx hb dX1_told_0 rfl (lv_at hl 1 rfl) ?_
  refine lv_ifnull hx hb dX1_told_1 ?_
  refine lv_aload_n hx hb dX1_told_4 rfl (lv_at hl 0 rfl) ?_
  refine fgX1_0 hx hb hts hown hK hw 0 rfl kw363 dX1_told_5 ?_
  refine lv_iload_n hx hb dX1_told_8 rfl (lv_at hl 3 rfl) ?_
  obtain ⟨z1, ez1, h⟩ := z_bd h
  refine xj_i (xrV (As := [.int p2]) (rest := []) ⟨hx, hb, hml, hown, hts⟩ (m_X2_isPerson l dC dI _ h_me_isles h_me_isles_now q_me_isles k_me_isles o_me_isles p2 z1 ez1) kw504 kw548 kw502 kw503 kw115 hd_X2_isPerson ⟨rfl, rfl⟩ rfl rfl ⟨rfl, rfl⟩ hX hK hw [1] (by decide) rfl rfl rfl rfl rfl hl.1 rfl rfl dX1_told_9) hw hA [1] (by decide) rfl rfl (fun H locs hw => ?_)
  have hw : Wd dC dI A s.heap [wX1 h_me h_me_isles h_me_machine q_me k_me o_me, wX2 h_me_isles h_me_isles_now q_me_isles k_me_isles o_me_isles, wX4 h_me_isles_now q_me_isles_now k_me_isles_now o_me_isles_now, wX3 h_me_machine q_me_machine k_me_machine o_me_machine, wX0 h_a0 nc_a0 ns_a0 q_a0 k_a0 o_a0] H locs := hw
  refine lv_if_eq (tgt := 23) hx hb dX1_told_12 (by decide) (fun c => ?_) (fun c => ?_)
  · have h := z_t h c
    refine lv_ldc2 (v := (-9000000000000000000)) hx hb hown (hts _ kw550) dX1_told_23 ?_
    have hy := Option.some.inj h
    rw [← hQz, ← hy]
    exact xr_l (v := (-9000000000000000000 : Int64)) hx hb hr hlk hK hw dX1_told_26
  · have h := z_f h c
    refine lv_iload hx hb dX1_told_15 (lv_at hl 4 rfl) ?_
    obtain ⟨z2, ez2, h⟩ := z_bd h
    refine xj_i (xrSN (As := [.int p3]) (rest := []) ⟨hx, hb, hml, hown, hts⟩ (m_X8_isRace l dC dI _  p3 z2 ez2) kw527 (hX.1.2.2.2.2.2.2.1) kw526 kw110 hd_X8_isRace ⟨rfl, rfl⟩ rfl rfl ⟨rfl, rfl⟩ hX hK hw [] (by decide) rfl rfl hl.1 rfl rfl dX1_told_17) hw hA [] (by decide) rfl rfl (fun H locs hw => ?_)
    refine lv_if_ne (tgt := 27) hx hb dX1_told_20 (by decide) (fun c => ?_) (fun c => ?_)
    · have h := z_f h c
      refine lv_aload_n hx hb dX1_told_27 rfl (lv_at hl 0 rfl) ?_
      refine fgX1_1 hx hb hts hown hK hw 0 rfl kw365 dX1_told_28 ?_
      refine lv_aload_n hx hb dX1_told_31 rfl (lv_at hl 0 rfl) ?_
      refine fgX1_0 hx hb hts hown hK hw 0 rfl kw363 dX1_told_32 ?_
      refine lv_iload_n hx hb dX1_told_35 rfl (lv_at hl 3 rfl) ?_
      refine lv_iload hx hb dX1_told_36 (lv_at hl 4 rfl) ?_
      refine lv_iload hx hb dX1_told_38 (lv_at hl 5 rfl) ?_
      obtain ⟨z3, ez3, h⟩ := z_bd h
      refine xj_v (xrV (As := [.ref h_me_isles, .int p2, .int p3, .int p4]) (rest := []) ⟨hx, hb, hml, hown, hts⟩ (m_X3_setLawWords_O l dC dI _ h_me_machine h_me_isles h_me_isles_now q_me_machine k_me_machine q_me_isles k_me_isles q_me_isles_now k_me_isles_now o_me_machine o_me_isles o_me_isles_now p2 p3 p4 z3 ez3) kw554 kw551 kw552 kw553 kw114 hd_X3_setLawWords ⟨rfl, rfl⟩ rfl rfl ⟨rfl, rfl⟩ hX hK hw [3, 1, 2] (by decide) rfl rfl rfl rfl rfl hl.1 rfl rfl dX1_told_40) hw hA [3, 1, 2] (by decide) rfl rfl (fun H locs hw => ?_)
      have hw : Wd dC dI A s.heap [wX1 h_me h_me_isles h_me_machine q_me k_me o_me, wX2 h_me_isles h_me_isles_now q_me_isles k_me_isles o_me_isles, wX4 h_me_isles_now q_me_isles_now k_me_isles_now o_me_isles_now, wX3 h_me_machine q_me_machine k_me_machine z3, wX0 h_a0 nc_a0 ns_a0 q_a0 k_a0 o_a0] H locs := hw
      refine lv_aload_n hx hb dX1_told_43 rfl (lv_at hl 1 rfl) ?_
      refine fgX0_7 hx hb hts hown hK hw 4 rfl kw175 dX1_told_44 ?_
      refine lv_iconst (v := 1) hx hb dX1_told_47 (by decide) ?_
      refine lv_isub hx hb dX1_told_48 ?_
      obtain ⟨x4, ex4, h⟩ := z_lt h
      refine lv_fi (v := x4) ex4.symm ?_
      refine lv_istore (lv' := [(6, .int x4), (0, .ref h_me), (1, .ref h_a0), (2, .int p1), (3, .int p2), (4, .int p3), (5, .int p4)]) hx hb dX1_told_49 hl (by decide) rfl (fun ls hl => ?_)
      exact lp_51_0  zfu p1 x4 z3 _ _ _ h hw (lv_sub hl [1, 2, 3, 0] rfl)
    · have h := z_t h c
      refine lv_ldc2 (v := (-9000000000000000000)) hx hb hown (hts _ kw550) dX1_told_23 ?_
      have hy := Option.some.inj h
      rw [← hQz, ← hy]
      exact xr_l (v := (-9000000000000000000 : Int64)) hx hb hr hlk hK hw dX1_told_26

def f_X1_isBarred_Q (o_me : Ob) (o_me_isles : Ob) (o_me_isles_now : Ob) (o_me_machine : Ob) (o_pool : List CR) (p0 : Option Nat) (p1 : Int32) (p2 : Int32) : Option (Int32 × Ob) :=
  (zop p0 o_pool ((f_X1_told_N o_me (3 : Int32) p1 p2 (-1 : Int32)).map (fun v => (v, o_me_machine))) (fun cr => f_X1_told_O cr.2.2.2.1 cr.2.2.2.2.1 o_me o_me_isles o_me_isles_now o_me_machine cr.2.2.2.2.2 (3 : Int32) p1 p2 (-1 : Int32))).bind fun z1 =>
  if (lg_cmp z1.1 (-9000000000000000000 : Int64)) = (0 : Int32) then
  (some ((0 : Int32), z1.2))
  else
  (some ((1 : Int32), z1.2))
set_option maxHeartbeats 4000000 in
set_option maxRecDepth 100000 in
theorem m_X1_isBarred_Q (l : Launch) (dC : Nat → ClassId) (dI : Nat → Nat → Nat) (sz : Nat) (h_me : Nat) (h_me_isles : Nat) (h_me_machine : Nat) (h_me_isles_now : Nat) (q_me : Nat → Nat) (k_me : Nat → ClassId) (q_me_isles : Nat → Nat) (k_me_isles : Nat → ClassId) (q_me_isles_now : Nat → Nat) (k_me_isles_now : Nat → ClassId) (q_me_machine : Nat → Nat) (k_me_machine : Nat → ClassId) (o_me : Ob) (o_me_isles : Ob) (o_me_isles_now : Ob) (o_me_machine : Ob) (o_pool : List CR) (p0 : Option Nat) (p1 : Int32) (p2 : Int32) (y : Int32 × Ob) (h : f_X1_isBarred_Q o_me o_me_isles o_me_isles_now o_me_machine o_pool p0 p1 p2 = some y) : CI l yX1_isBarred cX1_isBarred 4 (some .boolean) ({ frames := 3, cells := 0, slots := 0, locals := 84 } : Room) dC dI sz [.ref h_me, va_rf p0, .int p1, .int p2] [wX1 h_me h_me_isles h_me_machine q_me k_me o_me, wX2 h_me_isles h_me_isles_now q_me_isles k_me_isles o_me_isles, wX4 h_me_isles_now q_me_isles_now k_me_isles_now o_me_isles_now, wX3 h_me_machine q_me_machine k_me_machine o_me_machine, wPL o_pool] [tX1 k_me, tX2 k_me_isles, tX4 k_me_isles_now, tX3 k_me_machine, tPL o_pool] y.1 [wX1 h_me h_me_isles h_me_machine q_me k_me o_me, wX2 h_me_isles h_me_isles_now q_me_isles k_me_isles o_me_isles, wX4 h_me_isles_now q_me_isles_now k_me_isles_now o_me_isles_now, wX3 h_me_machine q_me_machine k_me_machine y.2, wPL o_pool] := by
  refine CC_of (by decide) (by cases p0 <;> exact Nat.le_of_ble_eq_true rfl) ?_
  intro p e s m below meth c A ls hx hb hml hr hlk hnm hown hts hX hK hP hD hA hl
  have hl : lv_has ls 4 [(0, .ref h_me), (1, va_rf p0), (2, .int p1), (3, .int p2)] := by
    have e9 : lv_args 0 [.ref h_me, va_rf p0, .int p1, .int p2] = [(0, .ref h_me), (1, va_rf p0), (2, .int p1), (3, .int p2)] := by cases p0 <;> rfl
    rw [← e9]; exact hl
  have hown : s.vm.findClass RX1 = some m.cls := hown
  have hw : Wd dC dI A s.heap [wX1 h_me h_me_isles h_me_machine q_me k_me o_me, wX2 h_me_isles h_me_isles_now q_me_isles k_me_isles o_me_isles, wX4 h_me_isles_now q_me_isles_now k_me_isles_now o_me_isles_now, wX3 h_me_machine q_me_machine k_me_machine o_me_machine, wPL o_pool] s.heap [] := ⟨hP, hD, va_S.rf⟩
  generalize hQz : (MQ below (QI dC dI (fun r (_ : Unit) => r = y.1) (fun _ => Jn [wX1 h_me h_me_isles h_me_machine q_me k_me o_me, wX2 h_me_isles h_me_isles_now q_me_isles k_me_isles o_me_isles, wX4 h_me_isles_now q_me_isles_now k_me_isles_now o_me_isles_now, wX3 h_me_machine q_me_machine k_me_machine y.2, wPL o_pool]) (fun _ => Jt [tX1 k_me, tX2 k_me_isles, tX4 k_me_isles_now, tX3 k_me_machine, tPL o_pool]) A) ([.ref h_me, va_rf p0, .int p1, .int p2] : List Value).toArray s 0 0 A) = Qz
  clear hP hD hnm
  unfold f_X1_isBarred_Q at h
  refine lv_aload_n hx hb dX1_isBarred_0 rfl (lv_at hl 0 rfl) ?_
  refine xaload_n hx hb dX1_isBarred_1 rfl (lv_at hl 1 rfl) ?_
  refine lv_iconst (v := 3) hx hb dX1_isBarred_2 (by decide) ?_
  refine lv_iload_n hx hb dX1_isBarred_3 rfl (lv_at hl 2 rfl) ?_
  refine lv_iload_n hx hb dX1_isBarred_4 rfl (lv_at hl 3 rfl) ?_
  refine lv_iconst (v := (-1)) hx hb dX1_isBarred_5 (by decide) ?_
  obtain ⟨z1, ez1, h⟩ := z_bd h
  have kk9 : ∀ (H : Heap) (locs : List Loc), Wd dC dI A s.heap [wX1 h_me h_me_isles h_me_machine q_me k_me o_me, wX2 h_me_isles h_me_isles_now q_me_isles k_me_isles o_me_isles, wX4 h_me_isles_now q_me_isles_now k_me_isles_now o_me_isles_now, wX3 h_me_machine q_me_machine k_me_machine z1.2, wPL o_pool] H locs → W p l e ({ frames := 3, cells := 0, slots := 0, locals := 84 } : Room) s m ([.ref h_me, va_rf p0, .int p1, .int p2] : List Value).toArray below meth c H locs 0 0 Qz (F0 m 9 ls [.long z1.1]) := by
    intro H locs hw
    refine lv_ldc2 (v := (-9000000000000000000)) hx hb hown (hts _ kw550) dX1_isBarred_9 ?_
    refine W.lcmp hx hb dX1_isBarred_12 ?_
    refine lv_if_eq (tgt := 20) hx hb dX1_isBarred_13 (by decide) (fun c => ?_) (fun c => ?_)
    · have h := z_t h c
      refine lv_iconst (v := 0) hx hb dX1_isBarred_20 (by decide) ?_
      have hy := Option.some.inj h
      rw [← hQz, ← hy]
      exact xr_i (v := (0 : Int32)) hx hb hr rfl hlk hK hw dX1_isBarred_21
    · have h := z_f h c
      refine lv_iconst (v := 1) hx hb dX1_isBarred_16 (by decide) ?_
      refine lv_goto (tgt := 21) hx hb dX1_isBarred_17 (by decide) ?_
      have hy := Option.some.inj h
      rw [← hQz, ← hy]
      exact xr_i (v := (1 : Int32)) hx hb hr rfl hlk hK hw dX1_isBarred_21
  rcases z_op ez1 with ⟨er, ek⟩ | ⟨⟨h_law, q_law, k_law, nc_law, ns_law, o_law⟩, l1, l2, er, el, ek⟩
  · refine W.eq (g2 := F0 m 6 ls [.int (-1 : Int32), .int p2, .int p1, .int (3 : Int32), .null, .ref h_me]) (by rw [er]; rfl) ?_
    obtain ⟨v9, ev9, ek⟩ := Option.map_eq_some_iff.mp ek
    refine xj_l (xrV (As := [.null, .int (3 : Int32), .int p1, .int p2, .int (-1 : Int32)]) (rest := []) ⟨hx, hb, hml, hown, hts⟩ (m_X1_told_N l dC dI _ h_me h_me_isles h_me_machine q_me k_me o_me (3 : Int32) p1 p2 (-1 : Int32) v9 ev9) kw547 kw544 kw546 kw2 kw117 hd_X1_told ⟨rfl, rfl⟩ rfl rfl ⟨rfl, rfl⟩ hX hK hw [0] (by decide) rfl rfl rfl rfl rfl hl.1 rfl rfl dX1_isBarred_6) hw hA [0] (by decide) rfl rfl (fun H locs hw => ?_)
    refine lv_fl (v := z1.1) (by rw [← ek]) ?_
    refine kk9 H locs ?_
    rw [← ek]
    exact hw
  · refine W.eq (g2 := F0 m 6 ls [.int (-1 : Int32), .int p2, .int p1, .int (3 : Int32), .ref h_law, .ref h_me]) (by rw [er]; rfl) ?_
    have hw := wd_split 4 (l1 := l1) (l2 := l2) (c := (h_law, q_law, k_law, nc_law, ns_law, o_law)) (by rw [← el]; rfl) hw
    have hK9 := wk_split (Ts := [tX1 k_me, tX2 k_me_isles, tX4 k_me_isles_now, tX3 k_me_machine, tPL o_pool]) 4 (l1 := l1) (l2 := l2) (c := (h_law, q_law, k_law, nc_law, ns_law, o_law)) (by rw [← el]; rfl) hK
    have hw : Wd dC dI A s.heap [wX1 h_me h_me_isles h_me_machine q_me k_me o_me, wX2 h_me_isles h_me_isles_now q_me_isles k_me_isles o_me_isles, wX4 h_me_isles_now q_me_isles_now k_me_isles_now o_me_isles_now, wX3 h_me_machine q_me_machine k_me_machine o_me_machine, wPL (l1 ++ l2), wX0 h_law nc_law ns_law q_law k_law o_law] _ _ := hw
    have hK9 : va_K (dC, dI) vwCl (Jt [tX1 k_me, tX2 k_me_isles, tX4 k_me_isles_now, tX3 k_me_machine, tPL (l1 ++ l2), tX0 k_law]) s := hK9
    refine xj_l (xrV (As := [.ref h_law, .int (3 : Int32), .int p1, .int p2, .int (-1 : Int32)]) (rest := []) ⟨hx, hb, hml, hown, hts⟩ (m_X1_told_O l dC dI _ h_me h_me_isles h_me_machine h_me_isles_now h_law q_me k_me q_me_isles k_me_isles q_me_isles_now k_me_isles_now q_me_machine k_me_machine q_law k_law nc_law ns_law o_me o_me_isles o_me_isles_now o_me_machine o_law (3 : Int32) p1 p2 (-1 : Int32) z1 ek) kw547 kw544 kw546 kw2 kw117 hd_X1_told ⟨rfl, rfl⟩ rfl rfl ⟨rfl, rfl⟩ hX hK9 hw [0, 1, 2, 3, 5] (by decide) rfl rfl rfl rfl rfl hl.1 rfl rfl dX1_isBarred_6) hw hA [0, 1, 2, 3, 5] (by decide) rfl rfl (fun H locs hw => ?_)
    have hw := wd_join 4 (l1 := l1) (l2 := l2) (c := (h_law, q_law, k_law, nc_law, ns_law, o_law)) (Ls := [wX1 h_me h_me_isles h_me_machine q_me k_me o_me, wX2 h_me_isles h_me_isles_now q_me_isles k_me_isles o_me_isles, wX4 h_me_isles_now q_me_isles_now k_me_isles_now o_me_isles_now, wX3 h_me_machine q_me_machine k_me_machine z1.2, wPL o_pool]) rfl hw
    rw [← el] at hw
    exact kk9 H locs hw

def f_X1_nearest (p0 : Int64) (p1 : Int32) : Option (Int32) :=
  some ((if (if p1.toInt64 < p0 then p1.toInt64 else p0) < (0 : Int64) then (0 : Int64) else (if p1.toInt64 < p0 then p1.toInt64 else p0)).toInt32)
set_option maxHeartbeats 4000000 in
set_option maxRecDepth 100000 in
theorem m_X1_nearest (l : Launch) (dC : Nat → ClassId) (dI : Nat → Nat → Nat) (sz : Nat)  (p0 : Int64) (p1 : Int32) (y : Int32) (h : f_X1_nearest p0 p1 = some y) : CI l yX1_nearest cX1_nearest 3 (some .int) ({ frames := 1, cells := 0, slots := 0, locals := 17 } : Room) dC dI sz [.long p0, .int p1] [] [] y [] := by
  refine CC_of (by decide) (Nat.le_of_ble_eq_true rfl) ?_
  intro p e s m below meth c A ls hx hb hml hr hlk hnm hown hts hX hK hP hD hA hl
  have hl : lv_has ls 3 [(0, .long p0), (2, .int p1)] := hl
  have hown : s.vm.findClass RX1 = some m.cls := hown
  have hw : Wd dC dI A s.heap [] s.heap [] := ⟨hP, hD, va_S.rf⟩
  generalize hQz : (MQ below (QI dC dI (fun r (_ : Unit) => r = y) (fun _ => Jn []) (fun _ => Jt []) A) ([.long p0, .int p1] : List Value).toArray s 0 0 A) = Qz
  clear hP hD hnm
  unfold f_X1_nearest at h
  refine lv_lconst (v := 0) hx hb dX1_nearest_0 (by decide) ?_
  refine lv_lload_n hx hb dX1_nearest_1 rfl (lv_at hl 0 rfl) ?_
  refine lv_iload_n hx hb dX1_nearest_2 rfl (lv_at hl 1 rfl) ?_
  refine lv_i2l hx hb dX1_nearest_3 rfl ?_
  refine va_mmin_long hx hb (hml.trans hl.1.symm) hown (hts _ kw576) (hts _ kw577) (hts _ kw113) (hts _ kw578) (Nat.le_of_ble_eq_true rfl) (Nat.le_of_ble_eq_true rfl) (Nat.le_of_ble_eq_true rfl) (Nat.le_of_ble_eq_true rfl) dX1_nearest_4 ?_
  refine va_mmax_long hx hb (hml.trans hl.1.symm) hown (hts _ kw579) (hts _ kw580) (hts _ kw113) (hts _ kw581) (Nat.le_of_ble_eq_true rfl) (Nat.le_of_ble_eq_true rfl) (Nat.le_of_ble_eq_true rfl) (Nat.le_of_ble_eq_true rfl) dX1_nearest_7 ?_
  refine lv_l2i hx hb dX1_nearest_10 rfl ?_
  have hy := Option.some.inj h
  rw [← hQz, ← hy]
  exact xr_i (v := (if (if p1.toInt64 < p0 then p1.toInt64 else p0) < (0 : Int64) then (0 : Int64) else (if p1.toInt64 < p0 then p1.toInt64 else p0)).toInt32) hx hb hr rfl hlk hK hw dX1_nearest_11

def f_X1_runsBy_Q (o_me : Ob) (o_me_isles : Ob) (o_me_isles_now : Ob) (o_me_machine : Ob) (o_pool : List CR) (p0 : Option Nat) (p1 : Int32) (p2 : Int32) : Option (Int32 × Ob) :=
  (zop p0 o_pool ((f_X1_told_N o_me (0 : Int32) p1 p2 (-1 : Int32)).map (fun v => (v, o_me_machine))) (fun cr => f_X1_told_O cr.2.2.2.1 cr.2.2.2.2.1 o_me o_me_isles o_me_isles_now o_me_machine cr.2.2.2.2.2 (0 : Int32) p1 p2 (-1 : Int32))).bind fun z1 =>
  if (lg_cmp z1.1 (-9000000000000000000 : Int64)) = (0 : Int32) then
  (zgd (zin ((p1 * (4 : Int32)) + p2) 28) <|
  some (gA o_me_isles 2 ((p1 * (4 : Int32)) + p2).toNatClampNeg, z1.2))
  else
  ((f_X1_nearest z1.1 (99 : Int32)).bind fun z2 =>
  some (z2, z1.2))
set_option maxHeartbeats 4000000 in
set_option maxRecDepth 100000 in
theorem m_X1_runsBy_Q (l : Launch) (dC : Nat → ClassId) (dI : Nat → Nat → Nat) (sz : Nat) (h_me : Nat) (h_me_isles : Nat) (h_me_machine : Nat) (h_me_isles_now : Nat) (q_me : Nat → Nat) (k_me : Nat → ClassId) (q_me_isles : Nat → Nat) (k_me_isles : Nat → ClassId) (q_me_isles_now : Nat → Nat) (k_me_isles_now : Nat → ClassId) (q_me_machine : Nat → Nat) (k_me_machine : Nat → ClassId) (o_me : Ob) (o_me_isles : Ob) (o_me_isles_now : Ob) (o_me_machine : Ob) (o_pool : List CR) (p0 : Option Nat) (p1 : Int32) (p2 : Int32) (y : Int32 × Ob) (h : f_X1_runsBy_Q o_me o_me_isles o_me_isles_now o_me_machine o_pool p0 p1 p2 = some y) : CI l yX1_runsBy cX1_runsBy 6 (some .int) ({ frames := 3, cells := 0, slots := 0, locals := 84 } : Room) dC dI sz [.ref h_me, va_rf p0, .int p1, .int p2] [wX1 h_me h_me_isles h_me_machine q_me k_me o_me, wX2 h_me_isles h_me_isles_now q_me_isles k_me_isles o_me_isles, wX4 h_me_isles_now q_me_isles_now k_me_isles_now o_me_isles_now, wX3 h_me_machine q_me_machine k_me_machine o_me_machine, wPL o_pool] [tX1 k_me, tX2 k_me_isles, tX4 k_me_isles_now, tX3 k_me_machine, tPL o_pool] y.1 [wX1 h_me h_me_isles h_me_machine q_me k_me o_me, wX2 h_me_isles h_me_isles_now q_me_isles k_me_isles o_me_isles, wX4 h_me_isles_now q_me_isles_now k_me_isles_now o_me_isles_now, wX3 h_me_machine q_me_machine k_me_machine y.2, wPL o_pool] := by
  refine CC_of (by decide) (by cases p0 <;> exact Nat.le_of_ble_eq_true rfl) ?_
  intro p e s m below meth c A ls hx hb hml hr hlk hnm hown hts hX hK hP hD hA hl
  have hl : lv_has ls 6 [(0, .ref h_me), (1, va_rf p0), (2, .int p1), (3, .int p2)] := by
    have e9 : lv_args 0 [.ref h_me, va_rf p0, .int p1, .int p2] = [(0, .ref h_me), (1, va_rf p0), (2, .int p1), (3, .int p2)] := by cases p0 <;> rfl
    rw [← e9]; exact hl
  have hown : s.vm.findClass RX1 = some m.cls := hown
  have hw : Wd dC dI A s.heap [wX1 h_me h_me_isles h_me_machine q_me k_me o_me, wX2 h_me_isles h_me_isles_now q_me_isles k_me_isles o_me_isles, wX4 h_me_isles_now q_me_isles_now k_me_isles_now o_me_isles_now, wX3 h_me_machine q_me_machine k_me_machine o_me_machine, wPL o_pool] s.heap [] := ⟨hP, hD, va_S.rf⟩
  generalize hQz : (MQ below (QI dC dI (fun r (_ : Unit) => r = y.1) (fun _ => Jn [wX1 h_me h_me_isles h_me_machine q_me k_me o_me, wX2 h_me_isles h_me_isles_now q_me_isles k_me_isles o_me_isles, wX4 h_me_isles_now q_me_isles_now k_me_isles_now o_me_isles_now, wX3 h_me_machine q_me_machine k_me_machine y.2, wPL o_pool]) (fun _ => Jt [tX1 k_me, tX2 k_me_isles, tX4 k_me_isles_now, tX3 k_me_machine, tPL o_pool]) A) ([.ref h_me, va_rf p0, .int p1, .int p2] : List Value).toArray s 0 0 A) = Qz
  clear hP hD hnm
  unfold f_X1_runsBy_Q at h
  refine lv_aload_n hx hb dX1_runsBy_0 rfl (lv_at hl 0 rfl) ?_
  refine xaload_n hx hb dX1_runsBy_1 rfl (lv_at hl 1 rfl) ?_
  refine lv_iconst (v := 0) hx hb dX1_runsBy_2 (by decide) ?_
  refine lv_iload_n hx hb dX1_runsBy_3 rfl (lv_at hl 2 rfl) ?_
  refine lv_iload_n hx hb dX1_runsBy_4 rfl (lv_at hl 3 rfl) ?_
  refine lv_iconst (v := (-1)) hx hb dX1_runsBy_5 (by decide) ?_
  obtain ⟨z1, ez1, h⟩ := z_bd h
  have kk9 : ∀ (H : Heap) (locs : List Loc), Wd dC dI A s.heap [wX1 h_me h_me_isles h_me_machine q_me k_me o_me, wX2 h_me_isles h_me_isles_now q_me_isles k_me_isles o_me_isles, wX4 h_me_isles_now q_me_isles_now k_me_isles_now o_me_isles_now, wX3 h_me_machine q_me_machine k_me_machine z1.2, wPL o_pool] H locs → W p l e ({ frames := 3, cells := 0, slots := 0, locals := 84 } : Room) s m ([.ref h_me, va_rf p0, .int p1, .int p2] : List Value).toArray below meth c H locs 0 0 Qz (F0 m 9 ls [.long z1.1]) := by
    intro H locs hw
    refine lv_lstore (lv' := [(4, .long z1.1), (0, .ref h_me), (1, va_rf p0), (2, .int p1), (3, .int p2)]) hx hb dX1_runsBy_9 hl (by decide) rfl (fun ls hl => ?_)
    refine lv_lload hx hb dX1_runsBy_11 (lv_at hl 0 rfl) ?_
    refine lv_ldc2 (v := (-9000000000000000000)) hx hb hown (hts _ kw550) dX1_runsBy_13 ?_
    refine W.lcmp hx hb dX1_runsBy_16 ?_
    refine lv_if_ne (tgt := 36) hx hb dX1_runsBy_17 (by decide) (fun c => ?_) (fun c => ?_)
    · have h := z_f h c
      refine lv_lload hx hb dX1_runsBy_36 (lv_at hl 0 rfl) ?_
      refine lv_bipush (v := 99) hx hb dX1_runsBy_38 (by decide) ?_
      obtain ⟨z2, ez2, h⟩ := z_bd h
      refine xj_i (xrS (As := [.long z1.1, .int (99 : Int32)]) (rest := []) ⟨hx, hb, hml, hown, hts⟩ (m_X1_nearest l dC dI _  z1.1 (99 : Int32) z2 ez2) kw575 kw573 kw574 kw117 hd_X1_nearest ⟨rfl, rfl⟩ rfl rfl ⟨rfl, rfl⟩ hX hK hw [] (by decide) rfl rfl hl.1 rfl rfl dX1_runsBy_40) hw hA [] (by decide) rfl rfl (fun H locs hw => ?_)
      have hy := Option.some.inj h
      rw [← hQz, ← hy]
      exact xr_i (v := z2) hx hb hr rfl hlk hK hw dX1_runsBy_43
    · have h := z_t h c
      refine lv_aload_n hx hb dX1_runsBy_20 rfl (lv_at hl 1 rfl) ?_
      refine fgX1_0 hx hb hts hown hK hw 0 rfl kw363 dX1_runsBy_21 ?_
      refine fgX2_2 hx hb hts hown hK hw 1 rfl kw306 dX1_runsBy_24 ?_
      refine lv_iload_n hx hb dX1_runsBy_27 rfl (lv_at hl 3 rfl) ?_
      refine lv_iconst (v := 4) hx hb dX1_runsBy_28 (by decide) ?_
      refine lv_imul hx hb dX1_runsBy_29 ?_
      refine lv_iload_n hx hb dX1_runsBy_30 rfl (lv_at hl 4 rfl) ?_
      refine lv_iadd hx hb dX1_runsBy_31 ?_
      obtain ⟨g3, h⟩ := z_gd h
      refine faX2_2 hx hb hK hw 1 rfl rfl g3 dX1_runsBy_32 ?_
      refine lv_goto (tgt := 43) hx hb dX1_runsBy_33 (by decide) ?_
      have hy := Option.some.inj h
      rw [← hQz, ← hy]
      exact xr_i (v := gA o_me_isles 2 ((p1 * (4 : Int32)) + p2).toNatClampNeg) hx hb hr rfl hlk hK hw dX1_runsBy_43
  rcases z_op ez1 with ⟨er, ek⟩ | ⟨⟨h_law, q_law, k_law, nc_law, ns_law, o_law⟩, l1, l2, er, el, ek⟩
  · refine W.eq (g2 := F0 m 6 ls [.int (-1 : Int32), .int p2, .int p1, .int (0 : Int32), .null, .ref h_me]) (by rw [er]; rfl) ?_
    obtain ⟨v9, ev9, ek⟩ := Option.map_eq_some_iff.mp ek
    refine xj_l (xrV (As := [.null, .int (0 : Int32), .int p1, .int p2, .int (-1 : Int32)]) (rest := []) ⟨hx, hb, hml, hown, hts⟩ (m_X1_told_N l dC dI _ h_me h_me_isles h_me_machine q_me k_me o_me (0 : Int32) p1 p2 (-1 : Int32) v9 ev9) kw547 kw544 kw546 kw2 kw117 hd_X1_told ⟨rfl, rfl⟩ rfl rfl ⟨rfl, rfl⟩ hX hK hw [0] (by decide) rfl rfl rfl rfl rfl hl.1 rfl rfl dX1_runsBy_6) hw hA [0] (by decide) rfl rfl (fun H locs hw => ?_)
    refine lv_fl (v := z1.1) (by rw [← ek]) ?_
    refine kk9 H locs ?_
    rw [← ek]
    exact hw
  · refine W.eq (g2 := F0 m 6 ls [.int (-1 : Int32), .int p2, .int p1, .int (0 : Int32), .ref h_law, .ref h_me]) (by rw [er]; rfl) ?_
    have hw := wd_split 4 (l1 := l1) (l2 := l2) (c := (h_law, q_law, k_law, nc_law, ns_law, o_law)) (by rw [← el]; rfl) hw
    have hK9 := wk_split (Ts := [tX1 k_me, tX2 k_me_isles, tX4 k_me_isles_now, tX3 k_me_machine, tPL o_pool]) 4 (l1 := l1) (l2 := l2) (c := (h_law, q_law, k_law, nc_law, ns_law, o_law)) (by rw [← el]; rfl) hK
    have hw : Wd dC dI A s.heap [wX1 h_me h_me_isles h_me_machine q_me k_me o_me, wX2 h_me_isles h_me_isles_now q_me_isles k_me_isles o_me_isles, wX4 h_me_isles_now q_me_isles_now k_me_isles_now o_me_isles_now, wX3 h_me_machine q_me_machine k_me_machine o_me_machine, wPL (l1 ++ l2), wX0 h_law nc_law ns_law q_law k_law o_law] _ _ := hw
    have hK9 : va_K (dC, dI) vwCl (Jt [tX1 k_me, tX2 k_me_isles, tX4 k_me_isles_now, tX3 k_me_machine, tPL (l1 ++ l2), tX0 k_law]) s := hK9
    refine xj_l (xrV (As := [.ref h_law, .int (0 : Int32), .int p1, .int p2, .int (-1 : Int32)]) (rest := []) ⟨hx, hb, hml, hown, hts⟩ (m_X1_told_O l dC dI _ h_me h_me_isles h_me_machine h_me_isles_now h_law q_me k_me q_me_isles k_me_isles q_me_isles_now k_me_isles_now q_me_machine k_me_machine q_law k_law nc_law ns_law o_me o_me_isles o_me_isles_now o_me_machine o_law (0 : Int32) p1 p2 (-1 : Int32) z1 ek) kw547 kw544 kw546 kw2 kw117 hd_X1_told ⟨rfl, rfl⟩ rfl rfl ⟨rfl, rfl⟩ hX hK9 hw [0, 1, 2, 3, 5] (by decide) rfl rfl rfl rfl rfl hl.1 rfl rfl dX1_runsBy_6) hw hA [0, 1, 2, 3, 5] (by decide) rfl rfl (fun H locs hw => ?_)
    have hw := wd_join 4 (l1 := l1) (l2 := l2) (c := (h_law, q_law, k_law, nc_law, ns_law, o_law)) (Ls := [wX1 h_me h_me_isles h_me_machine q_me k_me o_me, wX2 h_me_isles h_me_isles_now q_me_isles k_me_isles o_me_isles, wX4 h_me_isles_now q_me_isles_now k_me_isles_now o_me_isles_now, wX3 h_me_machine q_me_machine k_me_machine z1.2, wPL o_pool]) rfl hw
    rw [← el] at hw
    exact kk9 H locs hw

def bk_X7_setScores_58 (o_me_court : Ob) (o_me_court_isles : Ob) (o_me_court_isles_now : Ob) (o_pool : List CR) (rec_10_0 : Int32 × Option Nat × Int32 × Ob × Ob → Option (Ob × Ob)) (v1 : Int32) (v2 : Option Nat) (v3 : Int32) (s0 : Int32) (s1 : Int32) (o_me : Ob) (o_me_court_machine : Ob) : Option (Ob × Ob) :=
  zgd (zin s1 28) <|
  zlt (tA o_me 5 s1.toNatClampNeg s0) fun o5 =>
  zlt (v3 + (1 : Int32)) fun x6 =>
  rec_10_0 (v1, v2, x6, o5, o_me_court_machine)
def lb_X7_setScores_10 (o_me_court : Ob) (o_me_court_isles : Ob) (o_me_court_isles_now : Ob) (o_pool : List CR)  (rec_10_0 : Int32 × Option Nat × Int32 × Ob × Ob → Option (Ob × Ob)) (v1 : Int32) (v2 : Option Nat) (v3 : Int32) (o_me : Ob) (o_me_court_machine : Ob) : Option (Ob × Ob) :=
  if (gI o_me_court_isles 7) ≤ v3 then
  (some (o_me, o_me_court_machine))
  else
  ((f_X1_isBarred_Q o_me_court o_me_court_isles o_me_court_isles_now o_me_court_machine o_pool v2 v3 v1).bind fun z2 =>
  if z2.1 = (0 : Int32) then
  ((f_X1_runsBy_Q o_me_court o_me_court_isles o_me_court_isles_now z2.2 o_pool v2 v3 v1).bind fun z3 =>
  bk_X7_setScores_58 o_me_court o_me_court_isles o_me_court_isles_now o_pool rec_10_0 v1 v2 v3 z3.1 ((v1 * (7 : Int32)) + v3) o_me z3.2)
  else
  (bk_X7_setScores_58 o_me_court o_me_court_isles o_me_court_isles_now o_pool rec_10_0 v1 v2 v3 (-1 : Int32) ((v1 * (7 : Int32)) + v3) o_me z2.2))
def lp_X7_setScores_10 (o_me_court : Ob) (o_me_court_isles : Ob) (o_me_court_isles_now : Ob) (o_pool : List CR)  : Nat → (Int32 × Option Nat × Int32 × Ob × Ob) → Option (Ob × Ob) := zit (fun rec a => lb_X7_setScores_10 o_me_court o_me_court_isles o_me_court_isles_now o_pool  rec a.1 a.2.1 a.2.2.1 a.2.2.2.1 a.2.2.2.2)
def f_X7_setScores (o_me : Ob) (o_me_court : Ob) (o_me_court_isles : Ob) (o_me_court_isles_now : Ob) (o_me_court_machine : Ob) (o_pool : List CR) (p0 : Int32) : Option (Ob × Ob) :=
  (f_X2_lawInForce o_me_court_isles).bind fun z1 =>
  lp_X7_setScores_10 o_me_court o_me_court_isles o_me_court_isles_now o_pool  zfu (p0, z1, (0 : Int32), o_me, o_me_court_machine)
set_option maxHeartbeats 4000000 in
set_option maxRecDepth 100000 in
theorem m_X7_setScores (l : Launch) (dC : Nat → ClassId) (dI : Nat → Nat → Nat) (sz : Nat) (h_me : Nat) (h_me_court : Nat) (h_me_court_isles : Nat) (h_me_court_machine : Nat) (h_me_court_isles_now : Nat) (q_me : Nat → Nat) (k_me : Nat → ClassId) (q_me_court : Nat → Nat) (k_me_court : Nat → ClassId) (q_me_court_isles : Nat → Nat) (k_me_court_isles : Nat → ClassId) (q_me_court_isles_now : Nat → Nat) (k_me_court_isles_now : Nat → ClassId) (q_me_court_machine : Nat → Nat) (k_me_court_machine : Nat → ClassId) (o_me : Ob) (o_me_court : Ob) (o_me_court_isles : Ob) (o_me_court_isles_now : Ob) (o_me_court_machine : Ob) (o_pool : List CR) (p0 : Int32) (y : Ob × Ob) (h : f_X7_setScores o_me o_me_court o_me_court_isles o_me_court_isles_now o_me_court_machine o_pool p0 = some y) : CV l yX7_setScores cX7_setScores 4 none ({ frames := 4, cells := 0, slots := 0, locals := 109 } : Room) dC dI sz [.ref h_me, .int p0] [wX7 h_me h_me_court h_me_court_isles q_me k_me o_me, wX1 h_me_court h_me_court_isles h_me_court_machine q_me_court k_me_court o_me_court, wX2 h_me_court_isles h_me_court_isles_now q_me_court_isles k_me_court_isles o_me_court_isles, wX4 h_me_court_isles_now q_me_court_isles_now k_me_court_isles_now o_me_court_isles_now, wX3 h_me_court_machine q_me_court_machine k_me_court_machine o_me_court_machine, wPL o_pool] [tX7 k_me, tX1 k_me_court, tX2 k_me_court_isles, tX4 k_me_court_isles_now, tX3 k_me_court_machine, tPL o_pool] [wX7 h_me h_me_court h_me_court_isles q_me k_me y.1, wX1 h_me_court h_me_court_isles h_me_court_machine q_me_court k_me_court o_me_court, wX2 h_me_court_isles h_me_court_isles_now q_me_court_isles k_me_court_isles o_me_court_isles, wX4 h_me_court_isles_now q_me_court_isles_now k_me_court_isles_now o_me_court_isles_now, wX3 h_me_court_machine q_me_court_machine k_me_court_machine y.2, wPL o_pool] := by
  refine CC_of (by decide) (Nat.le_of_ble_eq_true rfl) ?_
  intro p e s m below meth c A ls hx hb hml hr hlk hnm hown hts hX hK hP hD hA hl
  have hl : lv_has ls 4 [(0, .ref h_me), (1, .int p0)] := hl
  have hown : s.vm.findClass RX7 = some m.cls := hown
  have hw : Wd dC dI A s.heap [wX7 h_me h_me_court h_me_court_isles q_me k_me o_me, wX1 h_me_court h_me_court_isles h_me_court_machine q_me_court k_me_court o_me_court, wX2 h_me_court_isles h_me_court_isles_now q_me_court_isles k_me_court_isles o_me_court_isles, wX4 h_me_court_isles_now q_me_court_isles_now k_me_court_isles_now o_me_court_isles_now, wX3 h_me_court_machine q_me_court_machine k_me_court_machine o_me_court_machine, wPL o_pool] s.heap [] := ⟨hP, hD, va_S.rf⟩
  generalize hQz : (MQ below (QV dC dI (fun (_ : Unit) => True) (fun _ => Jn [wX7 h_me h_me_court h_me_court_isles q_me k_me y.1, wX1 h_me_court h_me_court_isles h_me_court_machine q_me_court k_me_court o_me_court, wX2 h_me_court_isles h_me_court_isles_now q_me_court_isles k_me_court_isles o_me_court_isles, wX4 h_me_court_isles_now q_me_court_isles_now k_me_court_isles_now o_me_court_isles_now, wX3 h_me_court_machine q_me_court_machine k_me_court_machine y.2, wPL o_pool]) (fun _ => Jt [tX7 k_me, tX1 k_me_court, tX2 k_me_court_isles, tX4 k_me_court_isles_now, tX3 k_me_court_machine, tPL o_pool]) A) ([.ref h_me, .int p0] : List Value).toArray s 0 0 A) = Qz
  clear hP hD hnm
  have bk_58_1 : ∀ (rec_10_0 : Int32 × Option Nat × Int32 × Ob × Ob → Option (Ob × Ob)) (hrec_10_0 : ∀ (v1 : Int32) (v2 : Option Nat) (v3 : Int32) (o_me : Ob) (o_me_court_machine : Ob) (H : Heap) (locs : List Loc) (ls : Array Slot), rec_10_0 (v1, v2, v3, o_me, o_me_court_machine) = some y → Wd dC dI A s.heap [wX7 h_me h_me_court h_me_court_isles q_me k_me o_me, wX1 h_me_court h_me_court_isles h_me_court_machine q_me_court k_me_court o_me_court, wX2 h_me_court_isles h_me_court_isles_now q_me_court_isles k_me_court_isles o_me_court_isles, wX4 h_me_court_isles_now q_me_court_isles_now k_me_court_isles_now o_me_court_isles_now, wX3 h_me_court_machine q_me_court_machine k_me_court_machine o_me_court_machine, wPL o_pool] H locs → lv_has ls 4 [(0, .ref h_me), (1, .int v1), (2, va_rf v2), (3, .int v3)] → W p l e ({ frames := 4, cells := 0, slots := 0, locals := 109 } : Room) s m ([.ref h_me, .int p0] : List Value).toArray below meth c H locs 0 0 Qz (F0 m 10 ls [])), ∀ (v1 : Int32) (v2 : Option Nat) (v3 : Int32) (s0 : Int32) (s1 : Int32) (o_me : Ob) (o_me_court_machine : Ob) (H : Heap) (locs : List Loc) (ls : Array Slot), bk_X7_setScores_58 o_me_court o_me_court_isles o_me_court_isles_now o_pool rec_10_0 v1 v2 v3 s0 s1 o_me o_me_court_machine = some y → Wd dC dI A s.heap [wX7 h_me h_me_court h_me_court_isles q_me k_me o_me, wX1 h_me_court h_me_court_isles h_me_court_machine q_me_court k_me_court o_me_court, wX2 h_me_court_isles h_me_court_isles_now q_me_court_isles k_me_court_isles o_me_court_isles, wX4 h_me_court_isles_now q_me_court_isles_now k_me_court_isles_now o_me_court_isles_now, wX3 h_me_court_machine q_me_court_machine k_me_court_machine o_me_court_machine, wPL o_pool] H locs → lv_has ls 4 [(0, .ref h_me), (1, .int v1), (2, va_rf v2), (3, .int v3)] → W p l e ({ frames := 4, cells := 0, slots := 0, locals := 109 } : Room) s m ([.ref h_me, .int p0] : List Value).toArray below meth c H locs 0 0 Qz (F0 m 58 ls [.int s0, .int s1, .ref (q_me 5)]) := by
    intro rec_10_0 hrec_10_0
    intro v1 v2 v3 s0 s1 o_me o_me_court_machine H locs ls h hw hl
    unfold bk_X7_setScores_58 at h
    obtain ⟨g4, h⟩ := z_gd h
    refine fbX7_5 hx hb hK hw 0 rfl rfl g4 dX7_setScores_58 (fun H locs hw => ?_)
    obtain ⟨o5, eo5, h⟩ := z_lt h
    have hw : Wd dC dI A s.heap [wX7 h_me h_me_court h_me_court_isles q_me k_me o5, wX1 h_me_court h_me_court_isles h_me_court_machine q_me_court k_me_court o_me_court, wX2 h_me_court_isles h_me_court_isles_now q_me_court_isles k_me_court_isles o_me_court_isles, wX4 h_me_court_isles_now q_me_court_isles_now k_me_court_isles_now o_me_court_isles_now, wX3 h_me_court_machine q_me_court_machine k_me_court_machine o_me_court_machine, wPL o_pool] H locs := by rw [eo5]; exact hw
    obtain ⟨x6, ex6, h⟩ := z_lt h
    refine lv_iinc (v := x6) (lv' := [(3, .int x6), (0, .ref h_me), (1, .int v1), (2, va_rf v2)]) hx hb dX7_setScores_59 hl (k := 3) rfl ((congrArg (v3 + ·) (show Int32.ofInt 1 = (1 : Int32) from by decide)).trans ex6.symm) (by decide) (by generalize v2 = r9; cases r9 <;> rfl) (fun ls hl => ?_)
    refine lv_goto (tgt := 10) hx hb dX7_setScores_62 (by decide) ?_
    exact hrec_10_0 v1 v2 x6 o5 o_me_court_machine _ _ _ h hw (lv_sub hl [1, 2, 3, 0] rfl)
  have lp_10_0 : ∀ (N : Nat), ∀ (v1 : Int32) (v2 : Option Nat) (v3 : Int32) (o_me : Ob) (o_me_court_machine : Ob) (H : Heap) (locs : List Loc) (ls : Array Slot), lp_X7_setScores_10 o_me_court o_me_court_isles o_me_court_isles_now o_pool  N (v1, v2, v3, o_me, o_me_court_machine) = some y → Wd dC dI A s.heap [wX7 h_me h_me_court h_me_court_isles q_me k_me o_me, wX1 h_me_court h_me_court_isles h_me_court_machine q_me_court k_me_court o_me_court, wX2 h_me_court_isles h_me_court_isles_now q_me_court_isles k_me_court_isles o_me_court_isles, wX4 h_me_court_isles_now q_me_court_isles_now k_me_court_isles_now o_me_court_isles_now, wX3 h_me_court_machine q_me_court_machine k_me_court_machine o_me_court_machine, wPL o_pool] H locs → lv_has ls 4 [(0, .ref h_me), (1, .int v1), (2, va_rf v2), (3, .int v3)] → W p l e ({ frames := 4, cells := 0, slots := 0, locals := 109 } : Room) s m ([.ref h_me, .int p0] : List Value).toArray below meth c H locs 0 0 Qz (F0 m 10 ls []) := by
    intro N
    induction N with
    | zero =>
      intro v1 v2 v3 o_me o_me_court_machine H locs ls h hw hl
      exact absurd (show (none : Option (Ob × Ob)) = some y from h) (by simp)
    | succ N ih =>
      intro v1 v2 v3 o_me o_me_court_machine H locs ls h hw hl
      have h : lb_X7_setScores_10 o_me_court o_me_court_isles o_me_court_isles_now o_pool  (lp_X7_setScores_10 o_me_court o_me_court_isles o_me_court_isles_now o_pool  N) v1 v2 v3 o_me o_me_court_machine = some y := h
      unfold lb_X7_setScores_10 at h
      refine lv_iload_n hx hb dX7_setScores_10 rfl (lv_at hl 3 rfl) ?_
      refine lv_aload_n hx hb dX7_setScores_11 rfl (lv_at hl 0 rfl) ?_
      refine fgX7_1 hx hb hts hown hK hw 0 rfl kw387 dX7_setScores_12 ?_
      refine fgX2_7 hx hb hts hown hK hw 2 rfl kw316 dX7_setScores_15 ?_
      refine lv_icmp_ge (tgt := 65) hx hb dX7_setScores_18 (by decide) (fun c => ?_) (fun c => ?_)
      · have h := z_t h c
        have hy := Option.some.inj h
        rw [← hQz, ← hy]
        exact xr_v hx hb hr hlk hK hw dX7_setScores_65
      · have h := z_f h c
        refine lv_aload_n hx hb dX7_setScores_21 rfl (lv_at hl 0 rfl) ?_
        refine fgX7_5 hx hb hts hown hK hw 0 rfl kw392 dX7_setScores_22 ?_
        refine lv_iload_n hx hb dX7_setScores_25 rfl (lv_at hl 1 rfl) ?_
        refine lv_bipush (v := 7) hx hb dX7_setScores_26 (by decide) ?_
        refine lv_imul hx hb dX7_setScores_28 ?_
        refine lv_iload_n hx hb dX7_setScores_29 rfl (lv_at hl 3 rfl) ?_
        refine lv_iadd hx hb dX7_setScores_30 ?_
        refine lv_aload_n hx hb dX7_setScores_31 rfl (lv_at hl 0 rfl) ?_
        refine fgX7_0 hx hb hts hown hK hw 0 rfl kw386 dX7_setScores_32 ?_
        refine xaload_n hx hb dX7_setScores_35 rfl (lv_at hl 2 rfl) ?_
        refine lv_iload_n hx hb dX7_setScores_36 rfl (lv_at hl 3 rfl) ?_
        refine lv_iload_n hx hb dX7_setScores_37 rfl (lv_at hl 1 rfl) ?_
        obtain ⟨z2, ez2, h⟩ := z_bd h
        refine xj_i (xrV (As := [va_rf v2, .int v3, .int v1]) (rest := [.int ((v1 * (7 : Int32)) + v3), .ref (q_me 5)]) ⟨hx, hb, hml, hown, hts⟩ (m_X1_isBarred_Q l dC dI _ h_me_court h_me_court_isles h_me_court_machine h_me_court_isles_now q_me_court k_me_court q_me_court_isles k_me_court_isles q_me_court_isles_now k_me_court_isles_now q_me_court_machine k_me_court_machine o_me_court o_me_court_isles o_me_court_isles_now o_me_court_machine o_pool v2 v3 v1 z2 ez2) kw585 kw956 kw583 kw584 kw117 hd_X1_isBarred ⟨rfl, rfl⟩ rfl rfl ⟨rfl, rfl⟩ hX hK hw [1, 2, 3, 4, 5] (by decide) rfl rfl rfl rfl rfl hl.1 rfl rfl dX7_setScores_38) hw hA [1, 2, 3, 4, 5] (by decide) rfl rfl (fun H locs hw => ?_)
        have hw : Wd dC dI A s.heap [wX7 h_me h_me_court h_me_court_isles q_me k_me o_me, wX1 h_me_court h_me_court_isles h_me_court_machine q_me_court k_me_court o_me_court, wX2 h_me_court_isles h_me_court_isles_now q_me_court_isles k_me_court_isles o_me_court_isles, wX4 h_me_court_isles_now q_me_court_isles_now k_me_court_isles_now o_me_court_isles_now, wX3 h_me_court_machine q_me_court_machine k_me_court_machine z2.2, wPL o_pool] H locs := hw
        refine lv_if_eq (tgt := 48) hx hb dX7_setScores_41 (by decide) (fun c => ?_) (fun c => ?_)
        · have h := z_t h c
          refine lv_aload_n hx hb dX7_setScores_48 rfl (lv_at hl 0 rfl) ?_
          refine fgX7_0 hx hb hts hown hK hw 0 rfl kw386 dX7_setScores_49 ?_
          refine xaload_n hx hb dX7_setScores_52 rfl (lv_at hl 2 rfl) ?_
          refine lv_iload_n hx hb dX7_setScores_53 rfl (lv_at hl 3 rfl) ?_
          refine lv_iload_n hx hb dX7_setScores_54 rfl (lv_at hl 1 rfl) ?_
          obtain ⟨z3, ez3, h⟩ := z_bd h
          refine xj_i (xrV (As := [va_rf v2, .int v3, .int v1]) (rest := [.int ((v1 * (7 : Int32)) + v3), .ref (q_me 5)]) ⟨hx, hb, hml, hown, hts⟩ (m_X1_runsBy_Q l dC dI _ h_me_court h_me_court_isles h_me_court_machine h_me_court_isles_now q_me_court k_me_court q_me_court_isles k_me_court_isles q_me_court_isles_now k_me_court_isles_now q_me_court_machine k_me_court_machine o_me_court o_me_court_isles o_me_court_isles_now z2.2 o_pool v2 v3 v1 z3 ez3) kw543 kw957 kw541 kw542 kw117 hd_X1_runsBy ⟨rfl, rfl⟩ rfl rfl ⟨rfl, rfl⟩ hX hK hw [1, 2, 3, 4, 5] (by decide) rfl rfl rfl rfl rfl hl.1 rfl rfl dX7_setScores_55) hw hA [1, 2, 3, 4, 5] (by decide) rfl rfl (fun H locs hw => ?_)
          have hw : Wd dC dI A s.heap [wX7 h_me h_me_court h_me_court_isles q_me k_me o_me, wX1 h_me_court h_me_court_isles h_me_court_machine q_me_court k_me_court o_me_court, wX2 h_me_court_isles h_me_court_isles_now q_me_court_isles k_me_court_isles o_me_court_isles, wX4 h_me_court_isles_now q_me_court_isles_now k_me_court_isles_now o_me_court_isles_now, wX3 h_me_court_machine q_me_court_machine k_me_court_machine z3.2, wPL o_pool] H locs := hw
          exact bk_58_1 (lp_X7_setScores_10 o_me_court o_me_court_isles o_me_court_isles_now o_pool  N) ih v1 v2 v3 z3.1 ((v1 * (7 : Int32)) + v3) o_me z3.2 _ _ _ h hw (lv_sub hl [0, 1, 2, 3] rfl)
        · have h := z_f h c
          refine lv_iconst (v := (-1)) hx hb dX7_setScores_44 (by decide) ?_
          refine lv_goto (tgt := 58) hx hb dX7_setScores_45 (by decide) ?_
          exact bk_58_1 (lp_X7_setScores_10 o_me_court o_me_court_isles o_me_court_isles_now o_pool  N) ih v1 v2 v3 (-1 : Int32) ((v1 * (7 : Int32)) + v3) o_me z2.2 _ _ _ h hw (lv_sub hl [0, 1, 2, 3] rfl)
  unfold f_X7_setScores at h
  refine lv_aload_n hx hb dX7_setScores_0 rfl (lv_at hl 0 rfl) ?_
  refine fgX7_1 hx hb hts hown hK hw 0 rfl kw387 dX7_setScores_1 ?_
  obtain ⟨z1, ez1, h⟩ := z_bd h
  refine xj_q (xrV (As := []) (rest := []) ⟨hx, hb, hml, hown, hts⟩ (m_X2_lawInForce l dC dI _ h_me_court_isles h_me_court_isles_now q_me_court_isles k_me_court_isles o_me_court_isles z1 ez1) kw531 kw955 kw529 kw530 kw115 hd_X2_lawInForce ⟨rfl, rfl⟩ rfl rfl ⟨rfl, rfl⟩ hX hK hw [2] (by decide) rfl rfl rfl rfl rfl hl.1 rfl rfl dX7_setScores_4) hw hA [2] (by decide) rfl rfl (fun H locs hw => ?_)
  have hw : Wd dC dI A s.heap [wX7 h_me h_me_court h_me_court_isles q_me k_me o_me, wX1 h_me_court h_me_court_isles h_me_court_machine q_me_court k_me_court o_me_court, wX2 h_me_court_isles h_me_court_isles_now q_me_court_isles k_me_court_isles o_me_court_isles, wX4 h_me_court_isles_now q_me_court_isles_now k_me_court_isles_now o_me_court_isles_now, wX3 h_me_court_machine q_me_court_machine k_me_court_machine o_me_court_machine, wPL o_pool] H locs := hw
  refine xastore_n (lv' := [(2, va_rf z1), (0, .ref h_me), (1, .int p0)]) hx hb dX7_setScores_7 rfl hl (by decide) rfl (fun ls hl => ?_)
  refine lv_iconst (v := 0) hx hb dX7_setScores_8 (by decide) ?_
  refine lv_istore_n (lv' := [(3, .int (0 : Int32)), (2, va_rf z1), (0, .ref h_me), (1, .int p0)]) hx hb dX7_setScores_9 rfl hl (by decide) (by generalize z1 = r9; cases r9 <;> rfl) (fun ls hl => ?_)
  exact lp_10_0  zfu p0 z1 (0 : Int32) o_me o_me_court_machine _ _ _ h hw (lv_sub hl [2, 3, 1, 0] rfl)

def bk_X7_aheadOf_77 (o_me : Ob) (o_me_court_isles : Ob) (rec_18_0 : Int32 × Int32 × Int32 × Int32 × Int32 → Option (Int32)) (v1 : Int32) (v2 : Int32) (v3 : Int32) (v4 : Int32) (v5 : Int32) : Option (Int32) :=
  zlt (v5 + (1 : Int32)) fun x5 =>
  rec_18_0 (v1, v2, v3, v4, x5)
def bk_X7_aheadOf_68 (o_me : Ob) (o_me_court_isles : Ob) (rec_18_0 : Int32 × Int32 × Int32 × Int32 × Int32 → Option (Int32)) (v1 : Int32) (v2 : Int32) (v3 : Int32) (v4 : Int32) (v5 : Int32) : Option (Int32) :=
  zlt (v4 ||| ((1 : Int32) <<< (v5 &&& 31))) fun x6 =>
  bk_X7_aheadOf_77 o_me o_me_court_isles rec_18_0 v1 v2 v3 x6 v5
def lb_X7_aheadOf_18 (o_me : Ob) (o_me_court_isles : Ob)  (rec_18_0 : Int32 × Int32 × Int32 × Int32 × Int32 → Option (Int32)) (v1 : Int32) (v2 : Int32) (v3 : Int32) (v4 : Int32) (v5 : Int32) : Option (Int32) :=
  if (gI o_me_court_isles 7) ≤ v5 then
  (some v4)
  else
  (zgd (zin ((v2 * (7 : Int32)) + v5) 28) <|
  zlt (gA o_me 5 ((v2 * (7 : Int32)) + v5).toNatClampNeg) fun x4 =>
  if x4 = (-1 : Int32) then
  (bk_X7_aheadOf_77 o_me o_me_court_isles rec_18_0 v1 v2 v3 v4 v5)
  else
  (if v3 < x4 then
  (bk_X7_aheadOf_68 o_me o_me_court_isles rec_18_0 v1 v2 v3 v4 v5)
  else
  (if x4 = v3 then
  (if v1 ≤ v5 then
  (bk_X7_aheadOf_77 o_me o_me_court_isles rec_18_0 v1 v2 v3 v4 v5)
  else
  (bk_X7_aheadOf_68 o_me o_me_court_isles rec_18_0 v1 v2 v3 v4 v5))
  else
  (bk_X7_aheadOf_77 o_me o_me_court_isles rec_18_0 v1 v2 v3 v4 v5))))
def lp_X7_aheadOf_18 (o_me : Ob) (o_me_court_isles : Ob)  : Nat → (Int32 × Int32 × Int32 × Int32 × Int32) → Option (Int32) := zit (fun rec a => lb_X7_aheadOf_18 o_me o_me_court_isles  rec a.1 a.2.1 a.2.2.1 a.2.2.2.1 a.2.2.2.2)
def f_X7_aheadOf (o_me : Ob) (o_me_court_isles : Ob) (p0 : Int32) (p1 : Int32) : Option (Int32) :=
  zgd (zin ((p1 * (7 : Int32)) + p0) 28) <|
  zlt (gA o_me 5 ((p1 * (7 : Int32)) + p0).toNatClampNeg) fun x2 =>
  lp_X7_aheadOf_18 o_me o_me_court_isles  zfu (p0, p1, x2, (0 : Int32), (0 : Int32))
set_option maxHeartbeats 4000000 in
set_option maxRecDepth 100000 in
theorem m_X7_aheadOf (l : Launch) (dC : Nat → ClassId) (dI : Nat → Nat → Nat) (sz : Nat) (h_me : Nat) (h_me_court : Nat) (h_me_court_isles : Nat) (h_me_court_isles_now : Nat) (q_me : Nat → Nat) (k_me : Nat → ClassId) (q_me_court_isles : Nat → Nat) (k_me_court_isles : Nat → ClassId) (o_me : Ob) (o_me_court_isles : Ob) (p0 : Int32) (p1 : Int32) (y : Int32) (h : f_X7_aheadOf o_me o_me_court_isles p0 p1 = some y) : CI l yX7_aheadOf cX7_aheadOf 7 (some .int) ({ frames := 0, cells := 0, slots := 0, locals := 0 } : Room) dC dI sz [.ref h_me, .int p0, .int p1] [wX7 h_me h_me_court h_me_court_isles q_me k_me o_me, wX2 h_me_court_isles h_me_court_isles_now q_me_court_isles k_me_court_isles o_me_court_isles] [tX7 k_me, tX2 k_me_court_isles] y [wX7 h_me h_me_court h_me_court_isles q_me k_me o_me, wX2 h_me_court_isles h_me_court_isles_now q_me_court_isles k_me_court_isles o_me_court_isles] := by
  refine CC_of (by decide) (Nat.le_of_ble_eq_true rfl) ?_
  intro p e s m below meth c A ls hx hb hml hr hlk hnm hown hts hX hK hP hD hA hl
  have hl : lv_has ls 7 [(0, .ref h_me), (1, .int p0), (2, .int p1)] := hl
  have hown : s.vm.findClass RX7 = some m.cls := hown
  have hw : Wd dC dI A s.heap [wX7 h_me h_me_court h_me_court_isles q_me k_me o_me, wX2 h_me_court_isles h_me_court_isles_now q_me_court_isles k_me_court_isles o_me_court_isles] s.heap [] := ⟨hP, hD, va_S.rf⟩
  generalize hQz : (MQ below (QI dC dI (fun r (_ : Unit) => r = y) (fun _ => Jn [wX7 h_me h_me_court h_me_court_isles q_me k_me o_me, wX2 h_me_court_isles h_me_court_isles_now q_me_court_isles k_me_court_isles o_me_court_isles]) (fun _ => Jt [tX7 k_me, tX2 k_me_court_isles]) A) ([.ref h_me, .int p0, .int p1] : List Value).toArray s 0 0 A) = Qz
  clear hP hD hnm
  have bk_77_1 : ∀ (rec_18_0 : Int32 × Int32 × Int32 × Int32 × Int32 → Option (Int32)) (hrec_18_0 : ∀ (v1 : Int32) (v2 : Int32) (v3 : Int32) (v4 : Int32) (v5 : Int32) (H : Heap) (locs : List Loc) (ls : Array Slot), rec_18_0 (v1, v2, v3, v4, v5) = some y → Wd dC dI A s.heap [wX7 h_me h_me_court h_me_court_isles q_me k_me o_me, wX2 h_me_court_isles h_me_court_isles_now q_me_court_isles k_me_court_isles o_me_court_isles] H locs → lv_has ls 7 [(0, .ref h_me), (1, .int v1), (2, .int v2), (3, .int v3), (4, .int v4), (5, .int v5)] → W p l e ({ frames := 0, cells := 0, slots := 0, locals := 0 } : Room) s m ([.ref h_me, .int p0, .int p1] : List Value).toArray below meth c H locs 0 0 Qz (F0 m 18 ls [])), ∀ (v1 : Int32) (v2 : Int32) (v3 : Int32) (v4 : Int32) (v5 : Int32) (H : Heap) (locs : List Loc) (ls : Array Slot), bk_X7_aheadOf_77 o_me o_me_court_isles rec_18_0 v1 v2 v3 v4 v5 = some y → Wd dC dI A s.heap [wX7 h_me h_me_court h_me_court_isles q_me k_me o_me, wX2 h_me_court_isles h_me_court_isles_now q_me_court_isles k_me_court_isles o_me_court_isles] H locs → lv_has ls 7 [(0, .ref h_me), (1, .int v1), (2, .int v2), (3, .int v3), (4, .int v4), (5, .int v5)] → W p l e ({ frames := 0, cells := 0, slots := 0, locals := 0 } : Room) s m ([.ref h_me, .int p0, .int p1] : List Value).toArray below meth c H locs 0 0 Qz (F0 m 77 ls []) := by
    intro rec_18_0 hrec_18_0
    intro v1 v2 v3 v4 v5 H locs ls h hw hl
    unfold bk_X7_aheadOf_77 at h
    obtain ⟨x5, ex5, h⟩ := z_lt h
    refine lv_iinc (v := x5) (lv' := [(5, .int x5), (0, .ref h_me), (1, .int v1), (2, .int v2), (3, .int v3), (4, .int v4)]) hx hb dX7_aheadOf_77 hl (k := 5) rfl ((congrArg (v5 + ·) (show Int32.ofInt 1 = (1 : Int32) from by decide)).trans ex5.symm) (by decide) rfl (fun ls hl => ?_)
    refine lv_goto (tgt := 18) hx hb dX7_aheadOf_80 (by decide) ?_
    exact hrec_18_0 v1 v2 v3 v4 x5 _ _ _ h hw (lv_sub hl [1, 2, 3, 4, 5, 0] rfl)
  have bk_68_2 : ∀ (rec_18_0 : Int32 × Int32 × Int32 × Int32 × Int32 → Option (Int32)) (hrec_18_0 : ∀ (v1 : Int32) (v2 : Int32) (v3 : Int32) (v4 : Int32) (v5 : Int32) (H : Heap) (locs : List Loc) (ls : Array Slot), rec_18_0 (v1, v2, v3, v4, v5) = some y → Wd dC dI A s.heap [wX7 h_me h_me_court h_me_court_isles q_me k_me o_me, wX2 h_me_court_isles h_me_court_isles_now q_me_court_isles k_me_court_isles o_me_court_isles] H locs → lv_has ls 7 [(0, .ref h_me), (1, .int v1), (2, .int v2), (3, .int v3), (4, .int v4), (5, .int v5)] → W p l e ({ frames := 0, cells := 0, slots := 0, locals := 0 } : Room) s m ([.ref h_me, .int p0, .int p1] : List Value).toArray below meth c H locs 0 0 Qz (F0 m 18 ls [])), ∀ (v1 : Int32) (v2 : Int32) (v3 : Int32) (v4 : Int32) (v5 : Int32) (H : Heap) (locs : List Loc) (ls : Array Slot), bk_X7_aheadOf_68 o_me o_me_court_isles rec_18_0 v1 v2 v3 v4 v5 = some y → Wd dC dI A s.heap [wX7 h_me h_me_court h_me_court_isles q_me k_me o_me, wX2 h_me_court_isles h_me_court_isles_now q_me_court_isles k_me_court_isles o_me_court_isles] H locs → lv_has ls 7 [(0, .ref h_me), (1, .int v1), (2, .int v2), (3, .int v3), (4, .int v4), (5, .int v5)] → W p l e ({ frames := 0, cells := 0, slots := 0, locals := 0 } : Room) s m ([.ref h_me, .int p0, .int p1] : List Value).toArray below meth c H locs 0 0 Qz (F0 m 68 ls []) := by
    intro rec_18_0 hrec_18_0
    intro v1 v2 v3 v4 v5 H locs ls h hw hl
    unfold bk_X7_aheadOf_68 at h
    refine lv_iload hx hb dX7_aheadOf_68 (lv_at hl 4 rfl) ?_
    refine lv_iconst (v := 1) hx hb dX7_aheadOf_70 (by decide) ?_
    refine lv_iload hx hb dX7_aheadOf_71 (lv_at hl 5 rfl) ?_
    refine lv_ishl hx hb dX7_aheadOf_73 ?_
    refine lv_ior hx hb dX7_aheadOf_74 ?_
    obtain ⟨x6, ex6, h⟩ := z_lt h
    refine lv_fi (v := x6) ex6.symm ?_
    refine lv_istore (lv' := [(4, .int x6), (0, .ref h_me), (1, .int v1), (2, .int v2), (3, .int v3), (5, .int v5)]) hx hb dX7_aheadOf_75 hl (by decide) rfl (fun ls hl => ?_)
    exact bk_77_1 rec_18_0 hrec_18_0 v1 v2 v3 x6 v5 _ _ _ h hw (lv_sub hl [1, 2, 3, 4, 0, 5] rfl)
  have lp_18_0 : ∀ (N : Nat), ∀ (v1 : Int32) (v2 : Int32) (v3 : Int32) (v4 : Int32) (v5 : Int32) (H : Heap) (locs : List Loc) (ls : Array Slot), lp_X7_aheadOf_18 o_me o_me_court_isles  N (v1, v2, v3, v4, v5) = some y → Wd dC dI A s.heap [wX7 h_me h_me_court h_me_court_isles q_me k_me o_me, wX2 h_me_court_isles h_me_court_isles_now q_me_court_isles k_me_court_isles o_me_court_isles] H locs → lv_has ls 7 [(0, .ref h_me), (1, .int v1), (2, .int v2), (3, .int v3), (4, .int v4), (5, .int v5)] → W p l e ({ frames := 0, cells := 0, slots := 0, locals := 0 } : Room) s m ([.ref h_me, .int p0, .int p1] : List Value).toArray below meth c H locs 0 0 Qz (F0 m 18 ls []) := by
    intro N
    induction N with
    | zero =>
      intro v1 v2 v3 v4 v5 H locs ls h hw hl
      exact absurd (show (none : Option (Int32)) = some y from h) (by simp)
    | succ N ih =>
      intro v1 v2 v3 v4 v5 H locs ls h hw hl
      have h : lb_X7_aheadOf_18 o_me o_me_court_isles  (lp_X7_aheadOf_18 o_me o_me_court_isles  N) v1 v2 v3 v4 v5 = some y := h
      unfold lb_X7_aheadOf_18 at h
      refine lv_iload hx hb dX7_aheadOf_18 (lv_at hl 5 rfl) ?_
      refine lv_aload_n hx hb dX7_aheadOf_20 rfl (lv_at hl 0 rfl) ?_
      refine fgX7_1 hx hb hts hown hK hw 0 rfl kw387 dX7_aheadOf_21 ?_
      refine fgX2_7 hx hb hts hown hK hw 1 rfl kw316 dX7_aheadOf_24 ?_
      refine lv_icmp_ge (tgt := 83) hx hb dX7_aheadOf_27 (by decide) (fun c => ?_) (fun c => ?_)
      · have h := z_t h c
        refine lv_iload hx hb dX7_aheadOf_83 (lv_at hl 4 rfl) ?_
        have hy := Option.some.inj h
        rw [← hQz, ← hy]
        exact xr_i (v := v4) hx hb hr rfl hlk hK hw dX7_aheadOf_85
      · have h := z_f h c
        refine lv_aload_n hx hb dX7_aheadOf_30 rfl (lv_at hl 0 rfl) ?_
        refine fgX7_5 hx hb hts hown hK hw 0 rfl kw392 dX7_aheadOf_31 ?_
        refine lv_iload_n hx hb dX7_aheadOf_34 rfl (lv_at hl 2 rfl) ?_
        refine lv_bipush (v := 7) hx hb dX7_aheadOf_35 (by decide) ?_
        refine lv_imul hx hb dX7_aheadOf_37 ?_
        refine lv_iload hx hb dX7_aheadOf_38 (lv_at hl 5 rfl) ?_
        refine lv_iadd hx hb dX7_aheadOf_40 ?_
        obtain ⟨g3, h⟩ := z_gd h
        refine faX7_5 hx hb hK hw 0 rfl rfl g3 dX7_aheadOf_41 ?_
        obtain ⟨x4, ex4, h⟩ := z_lt h
        refine lv_fi (v := x4) ex4.symm ?_
        refine lv_istore (lv' := [(6, .int x4), (0, .ref h_me), (1, .int v1), (2, .int v2), (3, .int v3), (4, .int v4), (5, .int v5)]) hx hb dX7_aheadOf_42 hl (by decide) rfl (fun ls hl => ?_)
        refine lv_iload hx hb dX7_aheadOf_44 (lv_at hl 0 rfl) ?_
        refine lv_iconst (v := (-1)) hx hb dX7_aheadOf_46 (by decide) ?_
        refine lv_icmp_eq (tgt := 77) hx hb dX7_aheadOf_47 (by decide) (fun c => ?_) (fun c => ?_)
        · have h := z_t h c
          exact bk_77_1 (lp_X7_aheadOf_18 o_me o_me_court_isles  N) ih v1 v2 v3 v4 v5 _ _ _ h hw (lv_sub hl [1, 2, 3, 4, 5, 6] rfl)
        · have h := z_f h c
          refine lv_iload hx hb dX7_aheadOf_50 (lv_at hl 0 rfl) ?_
          refine lv_iload_n hx hb dX7_aheadOf_52 rfl (lv_at hl 4 rfl) ?_
          refine lv_icmp_gt (tgt := 68) hx hb dX7_aheadOf_53 (by decide) (fun c => ?_) (fun c => ?_)
          · have h := z_t h c
            exact bk_68_2 (lp_X7_aheadOf_18 o_me o_me_court_isles  N) ih v1 v2 v3 v4 v5 _ _ _ h hw (lv_sub hl [1, 2, 3, 4, 5, 6] rfl)
          · have h := z_f h c
            refine lv_iload hx hb dX7_aheadOf_56 (lv_at hl 0 rfl) ?_
            refine lv_iload_n hx hb dX7_aheadOf_58 rfl (lv_at hl 4 rfl) ?_
            refine lv_icmp_ne (tgt := 77) hx hb dX7_aheadOf_59 (by decide) (fun c => ?_) (fun c => ?_)
            · have h := z_f h c
              exact bk_77_1 (lp_X7_aheadOf_18 o_me o_me_court_isles  N) ih v1 v2 v3 v4 v5 _ _ _ h hw (lv_sub hl [1, 2, 3, 4, 5, 6] rfl)
            · have h := z_t h c
              refine lv_iload hx hb dX7_aheadOf_62 (lv_at hl 6 rfl) ?_
              refine lv_iload_n hx hb dX7_aheadOf_64 rfl (lv_at hl 2 rfl) ?_
              refine lv_icmp_ge (tgt := 77) hx hb dX7_aheadOf_65 (by decide) (fun c => ?_) (fun c => ?_)
              · have h := z_t h c
                exact bk_77_1 (lp_X7_aheadOf_18 o_me o_me_court_isles  N) ih v1 v2 v3 v4 v5 _ _ _ h hw (lv_sub hl [1, 2, 3, 4, 5, 6] rfl)
              · have h := z_f h c
                exact bk_68_2 (lp_X7_aheadOf_18 o_me o_me_court_isles  N) ih v1 v2 v3 v4 v5 _ _ _ h hw (lv_sub hl [1, 2, 3, 4, 5, 6] rfl)
  unfold f_X7_aheadOf at h
  refine lv_aload_n hx hb dX7_aheadOf_0 rfl (lv_at hl 0 rfl) ?_
  refine fgX7_5 hx hb hts hown hK hw 0 rfl kw392 dX7_aheadOf_1 ?_
  refine lv_iload_n hx hb dX7_aheadOf_4 rfl (lv_at hl 2 rfl) ?_
  refine lv_bipush (v := 7) hx hb dX7_aheadOf_5 (by decide) ?_
  refine lv_imul hx hb dX7_aheadOf_7 ?_
  refine lv_iload_n hx hb dX7_aheadOf_8 rfl (lv_at hl 1 rfl) ?_
  refine lv_iadd hx hb dX7_aheadOf_9 ?_
  obtain ⟨g1, h⟩ := z_gd h
  refine faX7_5 hx hb hK hw 0 rfl rfl g1 dX7_aheadOf_10 ?_
  obtain ⟨x2, ex2, h⟩ := z_lt h
  refine lv_fi (v := x2) ex2.symm ?_
  refine lv_istore_n (lv' := [(3, .int x2), (0, .ref h_me), (1, .int p0), (2, .int p1)]) hx hb dX7_aheadOf_11 rfl hl (by decide) rfl (fun ls hl => ?_)
  refine lv_iconst (v := 0) hx hb dX7_aheadOf_12 (by decide) ?_
  refine lv_istore (lv' := [(4, .int (0 : Int32)), (3, .int x2), (0, .ref h_me), (1, .int p0), (2, .int p1)]) hx hb dX7_aheadOf_13 hl (by decide) rfl (fun ls hl => ?_)
  refine lv_iconst (v := 0) hx hb dX7_aheadOf_15 (by decide) ?_
  refine lv_istore (lv' := [(5, .int (0 : Int32)), (4, .int (0 : Int32)), (3, .int x2), (0, .ref h_me), (1, .int p0), (2, .int p1)]) hx hb dX7_aheadOf_16 hl (by decide) rfl (fun ls hl => ?_)
  exact lp_18_0  zfu p0 p1 x2 (0 : Int32) (0 : Int32) _ _ _ h hw (lv_sub hl [3, 4, 5, 2, 1, 0] rfl)

def f_J6_bitCount_0f7a4 (p0 : Int32) : Option (Int32) :=
  zlt (p0 - (((p0.toUInt32 >>> ((1 : Int32).toUInt32 &&& Int32.toUInt32 31)).toInt32) &&& (1431655765 : Int32))) fun x1 =>
  zlt ((x1 &&& (858993459 : Int32)) + (((x1.toUInt32 >>> ((2 : Int32).toUInt32 &&& Int32.toUInt32 31)).toInt32) &&& (858993459 : Int32))) fun x2 =>
  zlt ((x2 + ((x2.toUInt32 >>> ((4 : Int32).toUInt32 &&& Int32.toUInt32 31)).toInt32)) &&& (252645135 : Int32)) fun x3 =>
  zlt (x3 + ((x3.toUInt32 >>> ((8 : Int32).toUInt32 &&& Int32.toUInt32 31)).toInt32)) fun x4 =>
  zlt (x4 + ((x4.toUInt32 >>> ((16 : Int32).toUInt32 &&& Int32.toUInt32 31)).toInt32)) fun x5 =>
  some (x5 &&& (63 : Int32))
set_option maxHeartbeats 4000000 in
set_option maxRecDepth 100000 in
theorem m_J6_bitCount_0f7a4 (l : Launch) (dC : Nat → ClassId) (dI : Nat → Nat → Nat) (sz : Nat)  (p0 : Int32) (y : Int32) (h : f_J6_bitCount_0f7a4 p0 = some y) : CI l yJ6_bitCount_0f7a4 cJ6_bitCount_0f7a4 1 (some .int) ({ frames := 0, cells := 0, slots := 0, locals := 0 } : Room) dC dI sz [.int p0] [] [] y [] := by
  refine CC_of (by decide) (Nat.le_of_ble_eq_true rfl) ?_
  intro p e s m below meth c A ls hx hb hml hr hlk hnm hown hts hX hK hP hD hA hl
  have hl : lv_has ls 1 [(0, .int p0)] := hl
  have hown : s.vm.findClass RJ6 = some m.cls := hown
  have hw : Wd dC dI A s.heap [] s.heap [] := ⟨hP, hD, va_S.rf⟩
  generalize hQz : (MQ below (QI dC dI (fun r (_ : Unit) => r = y) (fun _ => Jn []) (fun _ => Jt []) A) ([.int p0] : List Value).toArray s 0 0 A) = Qz
  clear hP hD hnm
  unfold f_J6_bitCount_0f7a4 at h
  refine lv_iload_n hx hb dJ6_bitCount_0f7a4_0 rfl (lv_at hl 0 rfl) ?_
  refine lv_iload_n hx hb dJ6_bitCount_0f7a4_1 rfl (lv_at hl 0 rfl) ?_
  refine lv_iconst (v := 1) hx hb dJ6_bitCount_0f7a4_2 (by decide) ?_
  refine lv_iushr (v := _) hx hb dJ6_bitCount_0f7a4_3 rfl ?_
  refine lv_ldcw (v := 1431655765) hx hb hown (hts _ kw843) dJ6_bitCount_0f7a4_4 ?_
  refine lv_iand hx hb dJ6_bitCount_0f7a4_7 ?_
  refine lv_isub hx hb dJ6_bitCount_0f7a4_8 ?_
  obtain ⟨x1, ex1, h⟩ := z_lt h
  refine lv_fi (v := x1) ex1.symm ?_
  refine lv_istore_n (lv' := [(0, .int x1)]) hx hb dJ6_bitCount_0f7a4_9 rfl hl (by decide) rfl (fun ls hl => ?_)
  refine lv_iload_n hx hb dJ6_bitCount_0f7a4_10 rfl (lv_at hl 0 rfl) ?_
  refine lv_ldcw (v := 858993459) hx hb hown (hts _ kw844) dJ6_bitCount_0f7a4_11 ?_
  refine lv_iand hx hb dJ6_bitCount_0f7a4_14 ?_
  refine lv_iload_n hx hb dJ6_bitCount_0f7a4_15 rfl (lv_at hl 0 rfl) ?_
  refine lv_iconst (v := 2) hx hb dJ6_bitCount_0f7a4_16 (by decide) ?_
  refine lv_iushr (v := _) hx hb dJ6_bitCount_0f7a4_17 rfl ?_
  refine lv_ldcw (v := 858993459) hx hb hown (hts _ kw844) dJ6_bitCount_0f7a4_18 ?_
  refine lv_iand hx hb dJ6_bitCount_0f7a4_21 ?_
  refine lv_iadd hx hb dJ6_bitCount_0f7a4_22 ?_
  obtain ⟨x2, ex2, h⟩ := z_lt h
  refine lv_fi (v := x2) ex2.symm ?_
  refine lv_istore_n (lv' := [(0, .int x2)]) hx hb dJ6_bitCount_0f7a4_23 rfl hl (by decide) rfl (fun ls hl => ?_)
  refine lv_iload_n hx hb dJ6_bitCount_0f7a4_24 rfl (lv_at hl 0 rfl) ?_
  refine lv_iload_n hx hb dJ6_bitCount_0f7a4_25 rfl (lv_at hl 0 rfl) ?_
  refine lv_iconst (v := 4) hx hb dJ6_bitCount_0f7a4_26 (by decide) ?_
  refine lv_iushr (v := _) hx hb dJ6_bitCount_0f7a4_27 rfl ?_
  refine lv_iadd hx hb dJ6_bitCount_0f7a4_28 ?_
  refine lv_ldcw (v := 252645135) hx hb hown (hts _ kw845) dJ6_bitCount_0f7a4_29 ?_
  refine lv_iand hx hb dJ6_bitCount_0f7a4_32 ?_
  obtain ⟨x3, ex3, h⟩ := z_lt h
  refine lv_fi (v := x3) ex3.symm ?_
  refine lv_istore_n (lv' := [(0, .int x3)]) hx hb dJ6_bitCount_0f7a4_33 rfl hl (by decide) rfl (fun ls hl => ?_)
  refine lv_iload_n hx hb dJ6_bitCount_0f7a4_34 rfl (lv_at hl 0 rfl) ?_
  refine lv_iload_n hx hb dJ6_bitCount_0f7a4_35 rfl (lv_at hl 0 rfl) ?_
  refine lv_bipush (v := 8) hx hb dJ6_bitCount_0f7a4_36 (by decide) ?_
  refine lv_iushr (v := _) hx hb dJ6_bitCount_0f7a4_38 rfl ?_
  refine lv_iadd hx hb dJ6_bitCount_0f7a4_39 ?_
  obtain ⟨x4, ex4, h⟩ := z_lt h
  refine lv_fi (v := x4) ex4.symm ?_
  refine lv_istore_n (lv' := [(0, .int x4)]) hx hb dJ6_bitCount_0f7a4_40 rfl hl (by decide) rfl (fun ls hl => ?_)
  refine lv_iload_n hx hb dJ6_bitCount_0f7a4_41 rfl (lv_at hl 0 rfl) ?_
  refine lv_iload_n hx hb dJ6_bitCount_0f7a4_42 rfl (lv_at hl 0 rfl) ?_
  refine lv_bipush (v := 16) hx hb dJ6_bitCount_0f7a4_43 (by decide) ?_
  refine lv_iushr (v := _) hx hb dJ6_bitCount_0f7a4_45 rfl ?_
  refine lv_iadd hx hb dJ6_bitCount_0f7a4_46 ?_
  obtain ⟨x5, ex5, h⟩ := z_lt h
  refine lv_fi (v := x5) ex5.symm ?_
  refine lv_istore_n (lv' := [(0, .int x5)]) hx hb dJ6_bitCount_0f7a4_47 rfl hl (by decide) rfl (fun ls hl => ?_)
  refine lv_iload_n hx hb dJ6_bitCount_0f7a4_48 rfl (lv_at hl 0 rfl) ?_
  refine lv_bipush (v := 63) hx hb dJ6_bitCount_0f7a4_49 (by decide) ?_
  refine lv_iand hx hb dJ6_bitCount_0f7a4_51 ?_
  have hy := Option.some.inj h
  rw [← hQz, ← hy]
  exact xr_i (v := x5 &&& (63 : Int32)) hx hb hr rfl hlk hK hw dJ6_bitCount_0f7a4_52

def lb_X7_lowestBits_7   (rec_7_0 : Int32 × Int32 × Int32 × Int32 → Option (Int32)) (v1 : Int32) (v2 : Int32) (v3 : Int32) (v4 : Int32) : Option (Int32) :=
  if v1 ≤ v4 then
  (some v2)
  else
  (if v3 = (0 : Int32) then
  (some (-1 : Int32))
  else
  (zlt (v2 ||| (v3 &&& (-v3))) fun x1 =>
  zlt (v3 &&& (v3 - (1 : Int32))) fun x2 =>
  zlt (v4 + (1 : Int32)) fun x3 =>
  rec_7_0 (v1, x1, x2, x3)))
def lp_X7_lowestBits_7   : Nat → (Int32 × Int32 × Int32 × Int32) → Option (Int32) := zit (fun rec a => lb_X7_lowestBits_7   rec a.1 a.2.1 a.2.2.1 a.2.2.2)
def f_X7_lowestBits (p0 : Int32) (p1 : Int32) : Option (Int32) :=
  lp_X7_lowestBits_7   zfu (p1, (0 : Int32), p0, (0 : Int32))
set_option maxHeartbeats 4000000 in
set_option maxRecDepth 100000 in
theorem m_X7_lowestBits (l : Launch) (dC : Nat → ClassId) (dI : Nat → Nat → Nat) (sz : Nat)  (p0 : Int32) (p1 : Int32) (y : Int32) (h : f_X7_lowestBits p0 p1 = some y) : CI l yX7_lowestBits cX7_lowestBits 5 (some .int) ({ frames := 0, cells := 0, slots := 0, locals := 0 } : Room) dC dI sz [.int p0, .int p1] [] [] y [] := by
  refine CC_of (by decide) (Nat.le_of_ble_eq_true rfl) ?_
  intro p e s m below meth c A ls hx hb hml hr hlk hnm hown hts hX hK hP hD hA hl
  have hl : lv_has ls 5 [(0, .int p0), (1, .int p1)] := hl
  have hown : s.vm.findClass RX7 = some m.cls := hown
  have hw : Wd dC dI A s.heap [] s.heap [] := ⟨hP, hD, va_S.rf⟩
  generalize hQz : (MQ below (QI dC dI (fun r (_ : Unit) => r = y) (fun _ => Jn []) (fun _ => Jt []) A) ([.int p0, .int p1] : List Value).toArray s 0 0 A) = Qz
  clear hP hD hnm
  have lp_7_0 : ∀ (N : Nat), ∀ (v1 : Int32) (v2 : Int32) (v3 : Int32) (v4 : Int32) (H : Heap) (locs : List Loc) (ls : Array Slot), lp_X7_lowestBits_7   N (v1, v2, v3, v4) = some y → Wd dC dI A s.heap [] H locs → lv_has ls 5 [(1, .int v1), (2, .int v2), (3, .int v3), (4, .int v4)] → W p l e ({ frames := 0, cells := 0, slots := 0, locals := 0 } : Room) s m ([.int p0, .int p1] : List Value).toArray below meth c H locs 0 0 Qz (F0 m 7 ls []) := by
    intro N
    induction N with
    | zero =>
      intro v1 v2 v3 v4 H locs ls h hw hl
      exact absurd (show (none : Option (Int32)) = some y from h) (by simp)
    | succ N ih =>
      intro v1 v2 v3 v4 H locs ls h hw hl
      have h : lb_X7_lowestBits_7   (lp_X7_lowestBits_7   N) v1 v2 v3 v4 = some y := h
      unfold lb_X7_lowestBits_7 at h
      refine lv_iload hx hb dX7_lowestBits_7 (lv_at hl 3 rfl) ?_
      refine lv_iload_n hx hb dX7_lowestBits_9 rfl (lv_at hl 0 rfl) ?_
      refine lv_icmp_ge (tgt := 38) hx hb dX7_lowestBits_10 (by decide) (fun c => ?_) (fun c => ?_)
      · have h := z_t h c
        refine lv_iload_n hx hb dX7_lowestBits_38 rfl (lv_at hl 1 rfl) ?_
        have hy := Option.some.inj h
        rw [← hQz, ← hy]
        exact xr_i (v := v2) hx hb hr rfl hlk hK hw dX7_lowestBits_39
      · have h := z_f h c
        refine lv_iload_n hx hb dX7_lowestBits_13 rfl (lv_at hl 2 rfl) ?_
        refine lv_if_ne (tgt := 19) hx hb dX7_lowestBits_14 (by decide) (fun c => ?_) (fun c => ?_)
        · have h := z_f h c
          refine lv_iload_n hx hb dX7_lowestBits_19 rfl (lv_at hl 1 rfl) ?_
          refine lv_iload_n hx hb dX7_lowestBits_20 rfl (lv_at hl 2 rfl) ?_
          refine lv_iload_n hx hb dX7_lowestBits_21 rfl (lv_at hl 2 rfl) ?_
          refine lv_ineg hx hb dX7_lowestBits_22 ?_
          refine lv_iand hx hb dX7_lowestBits_23 ?_
          refine lv_ior hx hb dX7_lowestBits_24 ?_
          obtain ⟨x1, ex1, h⟩ := z_lt h
          refine lv_fi (v := x1) ex1.symm ?_
          refine lv_istore_n (lv' := [(2, .int x1), (1, .int v1), (3, .int v3), (4, .int v4)]) hx hb dX7_lowestBits_25 rfl hl (by decide) rfl (fun ls hl => ?_)
          refine lv_iload_n hx hb dX7_lowestBits_26 rfl (lv_at hl 2 rfl) ?_
          refine lv_iload_n hx hb dX7_lowestBits_27 rfl (lv_at hl 2 rfl) ?_
          refine lv_iconst (v := 1) hx hb dX7_lowestBits_28 (by decide) ?_
          refine lv_isub hx hb dX7_lowestBits_29 ?_
          refine lv_iand hx hb dX7_lowestBits_30 ?_
          obtain ⟨x2, ex2, h⟩ := z_lt h
          refine lv_fi (v := x2) ex2.symm ?_
          refine lv_istore_n (lv' := [(3, .int x2), (2, .int x1), (1, .int v1), (4, .int v4)]) hx hb dX7_lowestBits_31 rfl hl (by decide) rfl (fun ls hl => ?_)
          obtain ⟨x3, ex3, h⟩ := z_lt h
          refine lv_iinc (v := x3) (lv' := [(4, .int x3), (3, .int x2), (2, .int x1), (1, .int v1)]) hx hb dX7_lowestBits_32 hl (k := 3) rfl ((congrArg (v4 + ·) (show Int32.ofInt 1 = (1 : Int32) from by decide)).trans ex3.symm) (by decide) rfl (fun ls hl => ?_)
          refine lv_goto (tgt := 7) hx hb dX7_lowestBits_35 (by decide) ?_
          exact ih v1 x1 x2 x3 _ _ _ h hw (lv_sub hl [3, 2, 1, 0] rfl)
        · have h := z_t h c
          refine lv_iconst (v := (-1)) hx hb dX7_lowestBits_17 (by decide) ?_
          have hy := Option.some.inj h
          rw [← hQz, ← hy]
          exact xr_i (v := (-1 : Int32)) hx hb hr rfl hlk hK hw dX7_lowestBits_18
  unfold f_X7_lowestBits at h
  refine lv_iconst (v := 0) hx hb dX7_lowestBits_0 (by decide) ?_
  refine lv_istore_n (lv' := [(2, .int (0 : Int32)), (0, .int p0), (1, .int p1)]) hx hb dX7_lowestBits_1 rfl hl (by decide) rfl (fun ls hl => ?_)
  refine lv_iload_n hx hb dX7_lowestBits_2 rfl (lv_at hl 1 rfl) ?_
  refine lv_istore_n (lv' := [(3, .int p0), (2, .int (0 : Int32)), (0, .int p0), (1, .int p1)]) hx hb dX7_lowestBits_3 rfl hl (by decide) rfl (fun ls hl => ?_)
  refine lv_iconst (v := 0) hx hb dX7_lowestBits_4 (by decide) ?_
  refine lv_istore (lv' := [(4, .int (0 : Int32)), (3, .int p0), (2, .int (0 : Int32)), (0, .int p0), (1, .int p1)]) hx hb dX7_lowestBits_5 hl (by decide) rfl (fun ls hl => ?_)
  exact lp_7_0  zfu p1 (0 : Int32) p0 (0 : Int32) _ _ _ h hw (lv_sub hl [4, 2, 1, 0] rfl)

def f_X7_changedEntries (o_me : Ob) (o_me_court : Ob) (o_me_court_isles : Ob) (o_me_court_isles_now : Ob) (o_me_court_machine : Ob) (o_pool : List CR) (p0 : Int32) (p1 : Int32) (p2 : Int32) : Option (Int32 × Ob × Ob) :=
  (f_X7_setScores o_me o_me_court o_me_court_isles o_me_court_isles_now o_me_court_machine o_pool p1).bind fun z1 =>
  zgd (zin ((p1 * (7 : Int32)) + p0) 28) <|
  if (gA z1.1 5 ((p1 * (7 : Int32)) + p0).toNatClampNeg) = (-1 : Int32) then
  (some ((-1 : Int32), z1.1, z1.2))
  else
  ((f_X7_aheadOf z1.1 o_me_court_isles p0 p1).bind fun z3 =>
  zlt (z3 &&& (gI o_me_court_isles_now 2)) fun x4 =>
  (f_J6_bitCount_0f7a4 x4).bind fun z5 =>
  zlt (z5 - (p2 - (1 : Int32))) fun x6 =>
  if x6 < (0 : Int32) then
  ((f_X7_lowestBits (z3 &&& ((gI o_me_court_isles_now 2) ^^^ (-1 : Int32))) (-x6)).bind fun z7 =>
  some (z7, z1.1, z1.2))
  else
  ((f_X7_lowestBits x4 x6).bind fun z8 =>
  some (z8, z1.1, z1.2)))
set_option maxHeartbeats 4000000 in
set_option maxRecDepth 100000 in
theorem m_X7_changedEntries (l : Launch) (dC : Nat → ClassId) (dI : Nat → Nat → Nat) (sz : Nat) (h_me : Nat) (h_me_court : Nat) (h_me_court_isles : Nat) (h_me_court_machine : Nat) (h_me_court_isles_now : Nat) (q_me : Nat → Nat) (k_me : Nat → ClassId) (q_me_court : Nat → Nat) (k_me_court : Nat → ClassId) (q_me_court_isles : Nat → Nat) (k_me_court_isles : Nat → ClassId) (q_me_court_isles_now : Nat → Nat) (k_me_court_isles_now : Nat → ClassId) (q_me_court_machine : Nat → Nat) (k_me_court_machine : Nat → ClassId) (o_me : Ob) (o_me_court : Ob) (o_me_court_isles : Ob) (o_me_court_isles_now : Ob) (o_me_court_machine : Ob) (o_pool : List CR) (p0 : Int32) (p1 : Int32) (p2 : Int32) (y : Int32 × Ob × Ob) (h : f_X7_changedEntries o_me o_me_court o_me_court_isles o_me_court_isles_now o_me_court_machine o_pool p0 p1 p2 = some y) : CI l yX7_changedEntries cX7_changedEntries 7 (some .int) ({ frames := 5, cells := 0, slots := 0, locals := 132 } : Room) dC dI sz [.ref h_me, .int p0, .int p1, .int p2] [wX7 h_me h_me_court h_me_court_isles q_me k_me o_me, wX1 h_me_court h_me_court_isles h_me_court_machine q_me_court k_me_court o_me_court, wX2 h_me_court_isles h_me_court_isles_now q_me_court_isles k_me_court_isles o_me_court_isles, wX4 h_me_court_isles_now q_me_court_isles_now k_me_court_isles_now o_me_court_isles_now, wX3 h_me_court_machine q_me_court_machine k_me_court_machine o_me_court_machine, wPL o_pool] [tX7 k_me, tX1 k_me_court, tX2 k_me_court_isles, tX4 k_me_court_isles_now, tX3 k_me_court_machine, tPL o_pool] y.1 [wX7 h_me h_me_court h_me_court_isles q_me k_me y.2.1, wX1 h_me_court h_me_court_isles h_me_court_machine q_me_court k_me_court o_me_court, wX2 h_me_court_isles h_me_court_isles_now q_me_court_isles k_me_court_isles o_me_court_isles, wX4 h_me_court_isles_now q_me_court_isles_now k_me_court_isles_now o_me_court_isles_now, wX3 h_me_court_machine q_me_court_machine k_me_court_machine y.2.2, wPL o_pool] := by
  refine CC_of (by decide) (Nat.le_of_ble_eq_true rfl) ?_
  intro p e s m below meth c A ls hx hb hml hr hlk hnm hown hts hX hK hP hD hA hl
  have hl : lv_has ls 7 [(0, .ref h_me), (1, .int p0), (2, .int p1), (3, .int p2)] := hl
  have hown : s.vm.findClass RX7 = some m.cls := hown
  have hw : Wd dC dI A s.heap [wX7 h_me h_me_court h_me_court_isles q_me k_me o_me, wX1 h_me_court h_me_court_isles h_me_court_machine q_me_court k_me_court o_me_court, wX2 h_me_court_isles h_me_court_isles_now q_me_court_isles k_me_court_isles o_me_court_isles, wX4 h_me_court_isles_now q_me_court_isles_now k_me_court_isles_now o_me_court_isles_now, wX3 h_me_court_machine q_me_court_machine k_me_court_machine o_me_court_machine, wPL o_pool] s.heap [] := ⟨hP, hD, va_S.rf⟩
  generalize hQz : (MQ below (QI dC dI (fun r (_ : Unit) => r = y.1) (fun _ => Jn [wX7 h_me h_me_court h_me_court_isles q_me k_me y.2.1, wX1 h_me_court h_me_court_isles h_me_court_machine q_me_court k_me_court o_me_court, wX2 h_me_court_isles h_me_court_isles_now q_me_court_isles k_me_court_isles o_me_court_isles, wX4 h_me_court_isles_now q_me_court_isles_now k_me_court_isles_now o_me_court_isles_now, wX3 h_me_court_machine q_me_court_machine k_me_court_machine y.2.2, wPL o_pool]) (fun _ => Jt [tX7 k_me, tX1 k_me_court, tX2 k_me_court_isles, tX4 k_me_court_isles_now, tX3 k_me_court_machine, tPL o_pool]) A) ([.ref h_me, .int p0, .int p1, .int p2] : List Value).toArray s 0 0 A) = Qz
  clear hP hD hnm
  unfold f_X7_changedEntries at h
  refine lv_aload_n hx hb dX7_changedEntries_0 rfl (lv_at hl 0 rfl) ?_
  refine lv_iload_n hx hb dX7_changedEntries_1 rfl (lv_at hl 2 rfl) ?_
  obtain ⟨z1, ez1, h⟩ := z_bd h
  refine xj_v (xrV (As := [.int p1]) (rest := []) ⟨hx, hb, hml, hown, hts⟩ (m_X7_setScores l dC dI _ h_me h_me_court h_me_court_isles h_me_court_machine h_me_court_isles_now q_me k_me q_me_court k_me_court q_me_court_isles k_me_court_isles q_me_court_isles_now k_me_court_isles_now q_me_court_machine k_me_court_machine o_me o_me_court o_me_court_isles o_me_court_isles_now o_me_court_machine o_pool p1 z1 ez1) kw954 kw951 kw953 kw27 kw118 hd_X7_setScores ⟨rfl, rfl⟩ rfl rfl ⟨rfl, rfl⟩ hX hK hw [0, 1, 2, 3, 4, 5] (by decide) rfl rfl rfl rfl rfl hl.1 rfl rfl dX7_changedEntries_2) hw hA [0, 1, 2, 3, 4, 5] (by decide) rfl rfl (fun H locs hw => ?_)
  have hw : Wd dC dI A s.heap [wX7 h_me h_me_court h_me_court_isles q_me k_me z1.1, wX1 h_me_court h_me_court_isles h_me_court_machine q_me_court k_me_court o_me_court, wX2 h_me_court_isles h_me_court_isles_now q_me_court_isles k_me_court_isles o_me_court_isles, wX4 h_me_court_isles_now q_me_court_isles_now k_me_court_isles_now o_me_court_isles_now, wX3 h_me_court_machine q_me_court_machine k_me_court_machine z1.2, wPL o_pool] H locs := hw
  refine lv_aload_n hx hb dX7_changedEntries_5 rfl (lv_at hl 0 rfl) ?_
  refine fgX7_5 hx hb hts hown hK hw 0 rfl kw392 dX7_changedEntries_6 ?_
  refine lv_iload_n hx hb dX7_changedEntries_9 rfl (lv_at hl 2 rfl) ?_
  refine lv_bipush (v := 7) hx hb dX7_changedEntries_10 (by decide) ?_
  refine lv_imul hx hb dX7_changedEntries_12 ?_
  refine lv_iload_n hx hb dX7_changedEntries_13 rfl (lv_at hl 1 rfl) ?_
  refine lv_iadd hx hb dX7_changedEntries_14 ?_
  obtain ⟨g2, h⟩ := z_gd h
  refine faX7_5 hx hb hK hw 0 rfl rfl g2 dX7_changedEntries_15 ?_
  refine lv_iconst (v := (-1)) hx hb dX7_changedEntries_16 (by decide) ?_
  refine lv_icmp_ne (tgt := 22) hx hb dX7_changedEntries_17 (by decide) (fun c => ?_) (fun c => ?_)
  · have h := z_f h c
    refine lv_aload_n hx hb dX7_changedEntries_22 rfl (lv_at hl 0 rfl) ?_
    refine lv_iload_n hx hb dX7_changedEntries_23 rfl (lv_at hl 1 rfl) ?_
    refine lv_iload_n hx hb dX7_changedEntries_24 rfl (lv_at hl 2 rfl) ?_
    obtain ⟨z3, ez3, h⟩ := z_bd h
    refine xj_i (xrV (As := [.int p0, .int p1]) (rest := []) ⟨hx, hb, hml, hown, hts⟩ (m_X7_aheadOf l dC dI _ h_me h_me_court h_me_court_isles h_me_court_isles_now q_me k_me q_me_court_isles k_me_court_isles z1.1 o_me_court_isles p0 p1 z3 ez3) kw961 kw958 kw960 kw28 kw118 hd_X7_aheadOf ⟨rfl, rfl⟩ rfl rfl ⟨rfl, rfl⟩ hX hK hw [0, 2] (by decide) rfl rfl rfl rfl rfl hl.1 rfl rfl dX7_changedEntries_25) hw hA [0, 2] (by decide) rfl rfl (fun H locs hw => ?_)
    have hw : Wd dC dI A s.heap [wX7 h_me h_me_court h_me_court_isles q_me k_me z1.1, wX1 h_me_court h_me_court_isles h_me_court_machine q_me_court k_me_court o_me_court, wX2 h_me_court_isles h_me_court_isles_now q_me_court_isles k_me_court_isles o_me_court_isles, wX4 h_me_court_isles_now q_me_court_isles_now k_me_court_isles_now o_me_court_isles_now, wX3 h_me_court_machine q_me_court_machine k_me_court_machine z1.2, wPL o_pool] H locs := hw
    refine lv_istore (lv' := [(4, .int z3), (0, .ref h_me), (1, .int p0), (2, .int p1), (3, .int p2)]) hx hb dX7_changedEntries_28 hl (by decide) rfl (fun ls hl => ?_)
    refine lv_iload hx hb dX7_changedEntries_30 (lv_at hl 0 rfl) ?_
    refine lv_aload_n hx hb dX7_changedEntries_32 rfl (lv_at hl 1 rfl) ?_
    refine fgX7_1 hx hb hts hown hK hw 0 rfl kw387 dX7_changedEntries_33 ?_
    refine fgX2_0 hx hb hts hown hK hw 2 rfl kw298 dX7_changedEntries_36 ?_
    refine fgX4_2 hx hb hts hown hK hw 3 rfl kw269 dX7_changedEntries_39 ?_
    refine lv_iand hx hb dX7_changedEntries_42 ?_
    obtain ⟨x4, ex4, h⟩ := z_lt h
    refine lv_fi (v := x4) ex4.symm ?_
    refine lv_istore (lv' := [(5, .int x4), (4, .int z3), (0, .ref h_me), (1, .int p0), (2, .int p1), (3, .int p2)]) hx hb dX7_changedEntries_43 hl (by decide) rfl (fun ls hl => ?_)
    refine lv_iload hx hb dX7_changedEntries_45 (lv_at hl 0 rfl) ?_
    obtain ⟨z5, ez5, h⟩ := z_bd h
    refine xj_i (xrS (As := [.int x4]) (rest := []) ⟨hx, hb, hml, hown, hts⟩ (m_J6_bitCount_0f7a4 l dC dI _  x4 z5 ez5) kw842 kw962 kw841 kw126 hd_J6_bitCount_0f7a4 ⟨rfl, rfl⟩ rfl rfl ⟨rfl, rfl⟩ hX hK hw [] (by decide) rfl rfl hl.1 rfl rfl dX7_changedEntries_47) hw hA [] (by decide) rfl rfl (fun H locs hw => ?_)
    refine lv_iload_n hx hb dX7_changedEntries_50 rfl (lv_at hl 5 rfl) ?_
    refine lv_iconst (v := 1) hx hb dX7_changedEntries_51 (by decide) ?_
    refine lv_isub hx hb dX7_changedEntries_52 ?_
    refine lv_isub hx hb dX7_changedEntries_53 ?_
    obtain ⟨x6, ex6, h⟩ := z_lt h
    refine lv_fi (v := x6) ex6.symm ?_
    refine lv_istore (lv' := [(6, .int x6), (5, .int x4), (4, .int z3), (0, .ref h_me), (1, .int p0), (2, .int p1), (3, .int p2)]) hx hb dX7_changedEntries_54 hl (by decide) rfl (fun ls hl => ?_)
    refine lv_iload hx hb dX7_changedEntries_56 (lv_at hl 0 rfl) ?_
    refine lv_if_lt (tgt := 69) hx hb dX7_changedEntries_58 (by decide) (fun c => ?_) (fun c => ?_)
    · have h := z_t h c
      refine lv_iload hx hb dX7_changedEntries_69 (lv_at hl 2 rfl) ?_
      refine lv_aload_n hx hb dX7_changedEntries_71 rfl (lv_at hl 3 rfl) ?_
      refine fgX7_1 hx hb hts hown hK hw 0 rfl kw387 dX7_changedEntries_72 ?_
      refine fgX2_0 hx hb hts hown hK hw 2 rfl kw298 dX7_changedEntries_75 ?_
      refine fgX4_2 hx hb hts hown hK hw 3 rfl kw269 dX7_changedEntries_78 ?_
      refine lv_iconst (v := (-1)) hx hb dX7_changedEntries_81 (by decide) ?_
      refine lv_ixor hx hb dX7_changedEntries_82 ?_
      refine lv_iand hx hb dX7_changedEntries_83 ?_
      refine lv_iload hx hb dX7_changedEntries_84 (lv_at hl 0 rfl) ?_
      refine lv_ineg hx hb dX7_changedEntries_86 ?_
      obtain ⟨z7, ez7, h⟩ := z_bd h
      refine xj_i (xrS (As := [.int (z3 &&& ((gI o_me_court_isles_now 2) ^^^ (-1 : Int32))), .int (-x6)]) (rest := []) ⟨hx, hb, hml, hown, hts⟩ (m_X7_lowestBits l dC dI _  (z3 &&& ((gI o_me_court_isles_now 2) ^^^ (-1 : Int32))) (-x6) z7 ez7) kw965 kw963 kw964 kw118 hd_X7_lowestBits ⟨rfl, rfl⟩ rfl rfl ⟨rfl, rfl⟩ hX hK hw [] (by decide) rfl rfl hl.1 rfl rfl dX7_changedEntries_87) hw hA [] (by decide) rfl rfl (fun H locs hw => ?_)
      have hy := Option.some.inj h
      rw [← hQz, ← hy]
      exact xr_i (v := z7) hx hb hr rfl hlk hK hw dX7_changedEntries_90
    · have h := z_f h c
      refine lv_iload hx hb dX7_changedEntries_61 (lv_at hl 1 rfl) ?_
      refine lv_iload hx hb dX7_changedEntries_63 (lv_at hl 0 rfl) ?_
      obtain ⟨z8, ez8, h⟩ := z_bd h
      refine xj_i (xrS (As := [.int x4, .int x6]) (rest := []) ⟨hx, hb, hml, hown, hts⟩ (m_X7_lowestBits l dC dI _  x4 x6 z8 ez8) kw965 kw963 kw964 kw118 hd_X7_lowestBits ⟨rfl, rfl⟩ rfl rfl ⟨rfl, rfl⟩ hX hK hw [] (by decide) rfl rfl hl.1 rfl rfl dX7_changedEntries_65) hw hA [] (by decide) rfl rfl (fun H locs hw => ?_)
      have hy := Option.some.inj h
      rw [← hQz, ← hy]
      exact xr_i (v := z8) hx hb hr rfl hlk hK hw dX7_changedEntries_68
  · have h := z_t h c
    refine lv_iconst (v := (-1)) hx hb dX7_changedEntries_20 (by decide) ?_
    have hy := Option.some.inj h
    rw [← hQz, ← hy]
    exact xr_i (v := (-1 : Int32)) hx hb hr rfl hlk hK hw dX7_changedEntries_21

def bk_X8_be_66 (o_me : Ob) (o_me_isles : Ob) (o_me_isles_now : Ob) (o_me_court : Ob) (o_pool : List CR)  (v5 : Int32) (o_me_machine : Ob) (o_me_study : Ob) : Option (Int32 × Ob × Ob) :=
  some (v5, o_me_machine, o_me_study)
def f_X8_be (o_me : Ob) (o_me_machine : Ob) (o_me_isles : Ob) (o_me_isles_now : Ob) (o_me_court : Ob) (o_me_study : Ob) (o_pool : List CR) (p0 : Int32) (p1 : Int32) (p2 : Int32) (p3 : Int32) : Option (Int32 × Ob × Ob) :=
  (f_X2_isPerson o_me_isles p0).bind fun z1 =>
  if z1 = (0 : Int32) then
  (some ((-1 : Int32), o_me_machine, o_me_study))
  else
  ((f_X8_isRace p1).bind fun z2 =>
  if z2 = (0 : Int32) then
  (some ((-1 : Int32), o_me_machine, o_me_study))
  else
  (if p2 < (1 : Int32) then
  (some ((-1 : Int32), o_me_machine, o_me_study))
  else
  (if (7 : Int32) < p2 then
  (some ((-1 : Int32), o_me_machine, o_me_study))
  else
  (if p3 < (0 : Int32) then
  (some ((-1 : Int32), o_me_machine, o_me_study))
  else
  (if p3 ≤ (1 : Int32) then
  ((f_X7_changedEntries o_me_study o_me_court o_me_isles o_me_isles_now o_me_machine o_pool p0 p1 p2).bind fun z3 =>
  if p3 = (1 : Int32) then
  (bk_X8_be_66 o_me o_me_isles o_me_isles_now o_me_court o_pool  z3.1 z3.2.2 z3.2.1)
  else
  (if z3.1 = (-1 : Int32) then
  (bk_X8_be_66 o_me o_me_isles o_me_isles_now o_me_court o_pool  z3.1 z3.2.2 z3.2.1)
  else
  ((f_J6_bitCount_0f7a4 z3.1).bind fun z4 =>
  some (z4, z3.2.2, z3.2.1))))
  else
  (some ((-1 : Int32), o_me_machine, o_me_study)))))))
set_option maxHeartbeats 4000000 in
set_option maxRecDepth 100000 in
theorem m_X8_be (l : Launch) (dC : Nat → ClassId) (dI : Nat → Nat → Nat) (sz : Nat) (h_me : Nat) (h_me_reader : Nat) (h_me_machine : Nat) (h_me_isles : Nat) (h_me_court : Nat) (h_me_study : Nat) (h_me_paper : Nat) (h_me_paperCourt : Nat) (h_me_past : Nat) (h_me_pastAhead : Nat) (h_me_movingAhead : Nat) (h_me_isles_now : Nat) (q_me : Nat → Nat) (k_me : Nat → ClassId) (q_me_machine : Nat → Nat) (k_me_machine : Nat → ClassId) (q_me_isles : Nat → Nat) (k_me_isles : Nat → ClassId) (q_me_isles_now : Nat → Nat) (k_me_isles_now : Nat → ClassId) (q_me_court : Nat → Nat) (k_me_court : Nat → ClassId) (q_me_study : Nat → Nat) (k_me_study : Nat → ClassId) (o_me : Ob) (o_me_machine : Ob) (o_me_isles : Ob) (o_me_isles_now : Ob) (o_me_court : Ob) (o_me_study : Ob) (o_pool : List CR) (p0 : Int32) (p1 : Int32) (p2 : Int32) (p3 : Int32) (y : Int32 × Ob × Ob) (h : f_X8_be o_me o_me_machine o_me_isles o_me_isles_now o_me_court o_me_study o_pool p0 p1 p2 p3 = some y) : CI l yX8_be cX8_be 6 (some .int) ({ frames := 6, cells := 0, slots := 0, locals := 158 } : Room) dC dI sz [.ref h_me, .int p0, .int p1, .int p2, .int p3] [wX8 h_me h_me_reader h_me_machine h_me_isles h_me_court h_me_study h_me_paper h_me_paperCourt h_me_past h_me_pastAhead h_me_movingAhead q_me k_me o_me, wX3 h_me_machine q_me_machine k_me_machine o_me_machine, wX2 h_me_isles h_me_isles_now q_me_isles k_me_isles o_me_isles, wX4 h_me_isles_now q_me_isles_now k_me_isles_now o_me_isles_now, wX1 h_me_court h_me_isles h_me_machine q_me_court k_me_court o_me_court, wX7 h_me_study h_me_court h_me_isles q_me_study k_me_study o_me_study, wPL o_pool] [tX8 k_me, tX3 k_me_machine, tX2 k_me_isles, tX4 k_me_isles_now, tX1 k_me_court, tX7 k_me_study, tPL o_pool] y.1 [wX8 h_me h_me_reader h_me_machine h_me_isles h_me_court h_me_study h_me_paper h_me_paperCourt h_me_past h_me_pastAhead h_me_movingAhead q_me k_me o_me, wX3 h_me_machine q_me_machine k_me_machine y.2.1, wX2 h_me_isles h_me_isles_now q_me_isles k_me_isles o_me_isles, wX4 h_me_isles_now q_me_isles_now k_me_isles_now o_me_isles_now, wX1 h_me_court h_me_isles h_me_machine q_me_court k_me_court o_me_court, wX7 h_me_study h_me_court h_me_isles q_me_study k_me_study y.2.2, wPL o_pool] := by
  refine CC_of (by decide) (Nat.le_of_ble_eq_true rfl) ?_
  intro p e s m below meth c A ls hx hb hml hr hlk hnm hown hts hX hK hP hD hA hl
  have hl : lv_has ls 6 [(0, .ref h_me), (1, .int p0), (2, .int p1), (3, .int p2), (4, .int p3)] := hl
  have hown : s.vm.findClass RX8 = some m.cls := hown
  have hw : Wd dC dI A s.heap [wX8 h_me h_me_reader h_me_machine h_me_isles h_me_court h_me_study h_me_paper h_me_paperCourt h_me_past h_me_pastAhead h_me_movingAhead q_me k_me o_me, wX3 h_me_machine q_me_machine k_me_machine o_me_machine, wX2 h_me_isles h_me_isles_now q_me_isles k_me_isles o_me_isles, wX4 h_me_isles_now q_me_isles_now k_me_isles_now o_me_isles_now, wX1 h_me_court h_me_isles h_me_machine q_me_court k_me_court o_me_court, wX7 h_me_study h_me_court h_me_isles q_me_study k_me_study o_me_study, wPL o_pool] s.heap [] := ⟨hP, hD, va_S.rf⟩
  generalize hQz : (MQ below (QI dC dI (fun r (_ : Unit) => r = y.1) (fun _ => Jn [wX8 h_me h_me_reader h_me_machine h_me_isles h_me_court h_me_study h_me_paper h_me_paperCourt h_me_past h_me_pastAhead h_me_movingAhead q_me k_me o_me, wX3 h_me_machine q_me_machine k_me_machine y.2.1, wX2 h_me_isles h_me_isles_now q_me_isles k_me_isles o_me_isles, wX4 h_me_isles_now q_me_isles_now k_me_isles_now o_me_isles_now, wX1 h_me_court h_me_isles h_me_machine q_me_court k_me_court o_me_court, wX7 h_me_study h_me_court h_me_isles q_me_study k_me_study y.2.2, wPL o_pool]) (fun _ => Jt [tX8 k_me, tX3 k_me_machine, tX2 k_me_isles, tX4 k_me_isles_now, tX1 k_me_court, tX7 k_me_study, tPL o_pool]) A) ([.ref h_me, .int p0, .int p1, .int p2, .int p3] : List Value).toArray s 0 0 A) = Qz
  clear hP hD hnm
  have bk_66_0 : ∀ (v5 : Int32) (o_me_machine : Ob) (o_me_study : Ob) (H : Heap) (locs : List Loc) (ls : Array Slot), bk_X8_be_66 o_me o_me_isles o_me_isles_now o_me_court o_pool  v5 o_me_machine o_me_study = some y → Wd dC dI A s.heap [wX8 h_me h_me_reader h_me_machine h_me_isles h_me_court h_me_study h_me_paper h_me_paperCourt h_me_past h_me_pastAhead h_me_movingAhead q_me k_me o_me, wX3 h_me_machine q_me_machine k_me_machine o_me_machine, wX2 h_me_isles h_me_isles_now q_me_isles k_me_isles o_me_isles, wX4 h_me_isles_now q_me_isles_now k_me_isles_now o_me_isles_now, wX1 h_me_court h_me_isles h_me_machine q_me_court k_me_court o_me_court, wX7 h_me_study h_me_court h_me_isles q_me_study k_me_study o_me_study, wPL o_pool] H locs → lv_has ls 6 [(5, .int v5)] → W p l e ({ frames := 6, cells := 0, slots := 0, locals := 158 } : Room) s m ([.ref h_me, .int p0, .int p1, .int p2, .int p3] : List Value).toArray below meth c H locs 0 0 Qz (F0 m 66 ls []) := by
    intro v5 o_me_machine o_me_study H locs ls h hw hl
    unfold bk_X8_be_66 at h
    refine lv_iload hx hb dX8_be_66 (lv_at hl 0 rfl) ?_
    refine lv_goto (tgt := 76) hx hb dX8_be_68 (by decide) ?_
    have hy := Option.some.inj h
    rw [← hQz, ← hy]
    exact xr_i (v := v5) hx hb hr rfl hlk hK hw dX8_be_76
  unfold f_X8_be at h
  refine lv_aload_n hx hb dX8_be_0 rfl (lv_at hl 0 rfl) ?_
  refine fgX8_2 hx hb hts hown hK hw 0 rfl kw444 dX8_be_1 ?_
  refine lv_iload_n hx hb dX8_be_4 rfl (lv_at hl 1 rfl) ?_
  obtain ⟨z1, ez1, h⟩ := z_bd h
  refine xj_i (xrV (As := [.int p0]) (rest := []) ⟨hx, hb, hml, hown, hts⟩ (m_X2_isPerson l dC dI _ h_me_isles h_me_isles_now q_me_isles k_me_isles o_me_isles p0 z1 ez1) kw504 kw501 kw502 kw503 kw115 hd_X2_isPerson ⟨rfl, rfl⟩ rfl rfl ⟨rfl, rfl⟩ hX hK hw [2] (by decide) rfl rfl rfl rfl rfl hl.1 rfl rfl dX8_be_5) hw hA [2] (by decide) rfl rfl (fun H locs hw => ?_)
  have hw : Wd dC dI A s.heap [wX8 h_me h_me_reader h_me_machine h_me_isles h_me_court h_me_study h_me_paper h_me_paperCourt h_me_past h_me_pastAhead h_me_movingAhead q_me k_me o_me, wX3 h_me_machine q_me_machine k_me_machine o_me_machine, wX2 h_me_isles h_me_isles_now q_me_isles k_me_isles o_me_isles, wX4 h_me_isles_now q_me_isles_now k_me_isles_now o_me_isles_now, wX1 h_me_court h_me_isles h_me_machine q_me_court k_me_court o_me_court, wX7 h_me_study h_me_court h_me_isles q_me_study k_me_study o_me_study, wPL o_pool] H locs := hw
  refine lv_if_eq (tgt := 40) hx hb dX8_be_8 (by decide) (fun c => ?_) (fun c => ?_)
  · have h := z_t h c
    refine lv_iconst (v := (-1)) hx hb dX8_be_40 (by decide) ?_
    have hy := Option.some.inj h
    rw [← hQz, ← hy]
    exact xr_i (v := (-1 : Int32)) hx hb hr rfl hlk hK hw dX8_be_41
  · have h := z_f h c
    refine lv_iload_n hx hb dX8_be_11 rfl (lv_at hl 2 rfl) ?_
    obtain ⟨z2, ez2, h⟩ := z_bd h
    refine xj_i (xrS (As := [.int p1]) (rest := []) ⟨hx, hb, hml, hown, hts⟩ (m_X8_isRace l dC dI _  p1 z2 ez2) kw527 kw525 kw526 kw110 hd_X8_isRace ⟨rfl, rfl⟩ rfl rfl ⟨rfl, rfl⟩ hX hK hw [] (by decide) rfl rfl hl.1 rfl rfl dX8_be_12) hw hA [] (by decide) rfl rfl (fun H locs hw => ?_)
    refine lv_if_eq (tgt := 40) hx hb dX8_be_15 (by decide) (fun c => ?_) (fun c => ?_)
    · have h := z_t h c
      refine lv_iconst (v := (-1)) hx hb dX8_be_40 (by decide) ?_
      have hy := Option.some.inj h
      rw [← hQz, ← hy]
      exact xr_i (v := (-1 : Int32)) hx hb hr rfl hlk hK hw dX8_be_41
    · have h := z_f h c
      refine lv_iload_n hx hb dX8_be_18 rfl (lv_at hl 3 rfl) ?_
      refine lv_iconst (v := 1) hx hb dX8_be_19 (by decide) ?_
      refine lv_icmp_lt (tgt := 40) hx hb dX8_be_20 (by decide) (fun c => ?_) (fun c => ?_)
      · have h := z_t h c
        refine lv_iconst (v := (-1)) hx hb dX8_be_40 (by decide) ?_
        have hy := Option.some.inj h
        rw [← hQz, ← hy]
        exact xr_i (v := (-1 : Int32)) hx hb hr rfl hlk hK hw dX8_be_41
      · have h := z_f h c
        refine lv_iload_n hx hb dX8_be_23 rfl (lv_at hl 3 rfl) ?_
        refine lv_bipush (v := 7) hx hb dX8_be_24 (by decide) ?_
        refine lv_icmp_gt (tgt := 40) hx hb dX8_be_26 (by decide) (fun c => ?_) (fun c => ?_)
        · have h := z_t h c
          refine lv_iconst (v := (-1)) hx hb dX8_be_40 (by decide) ?_
          have hy := Option.some.inj h
          rw [← hQz, ← hy]
          exact xr_i (v := (-1 : Int32)) hx hb hr rfl hlk hK hw dX8_be_41
        · have h := z_f h c
          refine lv_iload hx hb dX8_be_29 (lv_at hl 4 rfl) ?_
          refine lv_if_lt (tgt := 40) hx hb dX8_be_31 (by decide) (fun c => ?_) (fun c => ?_)
          · have h := z_t h c
            refine lv_iconst (v := (-1)) hx hb dX8_be_40 (by decide) ?_
            have hy := Option.some.inj h
            rw [← hQz, ← hy]
            exact xr_i (v := (-1 : Int32)) hx hb hr rfl hlk hK hw dX8_be_41
          · have h := z_f h c
            refine lv_iload hx hb dX8_be_34 (lv_at hl 4 rfl) ?_
            refine lv_iconst (v := 1) hx hb dX8_be_36 (by decide) ?_
            refine lv_icmp_le (tgt := 42) hx hb dX8_be_37 (by decide) (fun c => ?_) (fun c => ?_)
            · have h := z_t h c
              refine lv_aload_n hx hb dX8_be_42 rfl (lv_at hl 0 rfl) ?_
              refine fgX8_4 hx hb hts hown hK hw 0 rfl kw446 dX8_be_43 ?_
              refine lv_iload_n hx hb dX8_be_46 rfl (lv_at hl 1 rfl) ?_
              refine lv_iload_n hx hb dX8_be_47 rfl (lv_at hl 2 rfl) ?_
              refine lv_iload_n hx hb dX8_be_48 rfl (lv_at hl 3 rfl) ?_
              obtain ⟨z3, ez3, h⟩ := z_bd h
              refine xj_i (xrV (As := [.int p0, .int p1, .int p2]) (rest := []) ⟨hx, hb, hml, hown, hts⟩ (m_X7_changedEntries l dC dI _ h_me_study h_me_court h_me_isles h_me_machine h_me_isles_now q_me_study k_me_study q_me_court k_me_court q_me_isles k_me_isles q_me_isles_now k_me_isles_now q_me_machine k_me_machine o_me_study o_me_court o_me_isles o_me_isles_now o_me_machine o_pool p0 p1 p2 z3 ez3) kw950 kw947 kw948 kw949 kw118 hd_X7_changedEntries ⟨rfl, rfl⟩ rfl rfl ⟨rfl, rfl⟩ hX hK hw [5, 4, 2, 3, 1, 6] (by decide) rfl rfl rfl rfl rfl hl.1 rfl rfl dX8_be_49) hw hA [5, 4, 2, 3, 1, 6] (by decide) rfl rfl (fun H locs hw => ?_)
              have hw : Wd dC dI A s.heap [wX8 h_me h_me_reader h_me_machine h_me_isles h_me_court h_me_study h_me_paper h_me_paperCourt h_me_past h_me_pastAhead h_me_movingAhead q_me k_me o_me, wX3 h_me_machine q_me_machine k_me_machine z3.2.2, wX2 h_me_isles h_me_isles_now q_me_isles k_me_isles o_me_isles, wX4 h_me_isles_now q_me_isles_now k_me_isles_now o_me_isles_now, wX1 h_me_court h_me_isles h_me_machine q_me_court k_me_court o_me_court, wX7 h_me_study h_me_court h_me_isles q_me_study k_me_study z3.2.1, wPL o_pool] H locs := hw
              refine lv_istore (lv' := [(5, .int z3.1), (0, .ref h_me), (1, .int p0), (2, .int p1), (3, .int p2), (4, .int p3)]) hx hb dX8_be_52 hl (by decide) rfl (fun ls hl => ?_)
              refine lv_iload hx hb dX8_be_54 (lv_at hl 5 rfl) ?_
              refine lv_iconst (v := 1) hx hb dX8_be_56 (by decide) ?_
              refine lv_icmp_eq (tgt := 66) hx hb dX8_be_57 (by decide) (fun c => ?_) (fun c => ?_)
              · have h := z_t h c
                exact bk_66_0  z3.1 z3.2.2 z3.2.1 _ _ _ h hw (lv_sub hl [0] rfl)
              · have h := z_f h c
                refine lv_iload hx hb dX8_be_60 (lv_at hl 0 rfl) ?_
                refine lv_iconst (v := (-1)) hx hb dX8_be_62 (by decide) ?_
                refine lv_icmp_ne (tgt := 71) hx hb dX8_be_63 (by decide) (fun c => ?_) (fun c => ?_)
                · have h := z_f h c
                  refine lv_iload hx hb dX8_be_71 (lv_at hl 0 rfl) ?_
                  obtain ⟨z4, ez4, h⟩ := z_bd h
                  refine xj_i (xrS (As := [.int z3.1]) (rest := []) ⟨hx, hb, hml, hown, hts⟩ (m_J6_bitCount_0f7a4 l dC dI _  z3.1 z4 ez4) kw842 kw966 kw841 kw126 hd_J6_bitCount_0f7a4 ⟨rfl, rfl⟩ rfl rfl ⟨rfl, rfl⟩ hX hK hw [] (by decide) rfl rfl hl.1 rfl rfl dX8_be_73) hw hA [] (by decide) rfl rfl (fun H locs hw => ?_)
                  have hy := Option.some.inj h
                  rw [← hQz, ← hy]
                  exact xr_i (v := z4) hx hb hr rfl hlk hK hw dX8_be_76
                · have h := z_t h c
                  exact bk_66_0  z3.1 z3.2.2 z3.2.1 _ _ _ h hw (lv_sub hl [0] rfl)
            · have h := z_f h c
              refine lv_iconst (v := (-1)) hx hb dX8_be_40 (by decide) ?_
              have hy := Option.some.inj h
              rw [← hQz, ← hy]
              exact xr_i (v := (-1 : Int32)) hx hb hr rfl hlk hK hw dX8_be_41

def f_X8_refuse (o_me : Ob) (p0 : Int32) : Option (Int32 × Ob) :=
  zlt (sI o_me 12 p0) fun o1 =>
  if (0 : Int32) ≤ p0 then
  (some (p0, o1))
  else
  (if p0 < (-6 : Int32) then
  (some (p0, o1))
  else
  (zlt (-p0) fun x2 =>
  zgd (zin x2 7) <|
  zgd (zin x2 7) <|
  zlt (tA o1 11 x2.toNatClampNeg ((gA o1 11 x2.toNatClampNeg) + (1 : Int32))) fun o5 =>
  some (p0, o5)))
set_option maxHeartbeats 4000000 in
set_option maxRecDepth 100000 in
theorem m_X8_refuse (l : Launch) (dC : Nat → ClassId) (dI : Nat → Nat → Nat) (sz : Nat) (h_me : Nat) (h_me_reader : Nat) (h_me_machine : Nat) (h_me_isles : Nat) (h_me_court : Nat) (h_me_study : Nat) (h_me_paper : Nat) (h_me_paperCourt : Nat) (h_me_past : Nat) (h_me_pastAhead : Nat) (h_me_movingAhead : Nat) (q_me : Nat → Nat) (k_me : Nat → ClassId) (o_me : Ob) (p0 : Int32) (y : Int32 × Ob) (h : f_X8_refuse o_me p0 = some y) : CI l yX8_refuse cX8_refuse 2 (some .int) ({ frames := 0, cells := 0, slots := 0, locals := 0 } : Room) dC dI sz [.ref h_me, .int p0] [wX8 h_me h_me_reader h_me_machine h_me_isles h_me_court h_me_study h_me_paper h_me_paperCourt h_me_past h_me_pastAhead h_me_movingAhead q_me k_me o_me] [tX8 k_me] y.1 [wX8 h_me h_me_reader h_me_machine h_me_isles h_me_court h_me_study h_me_paper h_me_paperCourt h_me_past h_me_pastAhead h_me_movingAhead q_me k_me y.2] := by
  refine CC_of (by decide) (Nat.le_of_ble_eq_true rfl) ?_
  intro p e s m below meth c A ls hx hb hml hr hlk hnm hown hts hX hK hP hD hA hl
  have hl : lv_has ls 2 [(0, .ref h_me), (1, .int p0)] := hl
  have hown : s.vm.findClass RX8 = some m.cls := hown
  have hw : Wd dC dI A s.heap [wX8 h_me h_me_reader h_me_machine h_me_isles h_me_court h_me_study h_me_paper h_me_paperCourt h_me_past h_me_pastAhead h_me_movingAhead q_me k_me o_me] s.heap [] := ⟨hP, hD, va_S.rf⟩
  generalize hQz : (MQ below (QI dC dI (fun r (_ : Unit) => r = y.1) (fun _ => Jn [wX8 h_me h_me_reader h_me_machine h_me_isles h_me_court h_me_study h_me_paper h_me_paperCourt h_me_past h_me_pastAhead h_me_movingAhead q_me k_me y.2]) (fun _ => Jt [tX8 k_me]) A) ([.ref h_me, .int p0] : List Value).toArray s 0 0 A) = Qz
  clear hP hD hnm
  unfold f_X8_refuse at h
  refine lv_aload_n hx hb dX8_refuse_0 rfl (lv_at hl 0 rfl) ?_
  refine lv_iload_n hx hb dX8_refuse_1 rfl (lv_at hl 1 rfl) ?_
  refine fpX8_12 hx hb hts hown hK hw 0 rfl kw454 dX8_refuse_2 (fun H locs hw => ?_)
  obtain ⟨o1, eo1, h⟩ := z_lt h
  have hw : Wd dC dI A s.heap [wX8 h_me h_me_reader h_me_machine h_me_isles h_me_court h_me_study h_me_paper h_me_paperCourt h_me_past h_me_pastAhead h_me_movingAhead q_me k_me o1] H locs := by rw [eo1]; exact hw
  refine lv_iload_n hx hb dX8_refuse_5 rfl (lv_at hl 1 rfl) ?_
  refine lv_if_ge (tgt := 26) hx hb dX8_refuse_6 (by decide) (fun c => ?_) (fun c => ?_)
  · have h := z_t h c
    refine lv_iload_n hx hb dX8_refuse_26 rfl (lv_at hl 1 rfl) ?_
    have hy := Option.some.inj h
    rw [← hQz, ← hy]
    exact xr_i (v := p0) hx hb hr rfl hlk hK hw dX8_refuse_27
  · have h := z_f h c
    refine lv_iload_n hx hb dX8_refuse_9 rfl (lv_at hl 1 rfl) ?_
    refine lv_bipush (v := (-6)) hx hb dX8_refuse_10 (by decide) ?_
    refine lv_icmp_lt (tgt := 26) hx hb dX8_refuse_12 (by decide) (fun c => ?_) (fun c => ?_)
    · have h := z_t h c
      refine lv_iload_n hx hb dX8_refuse_26 rfl (lv_at hl 1 rfl) ?_
      have hy := Option.some.inj h
      rw [← hQz, ← hy]
      exact xr_i (v := p0) hx hb hr rfl hlk hK hw dX8_refuse_27
    · have h := z_f h c
      refine lv_aload_n hx hb dX8_refuse_15 rfl (lv_at hl 0 rfl) ?_
      refine fgX8_11 hx hb hts hown hK hw 0 rfl kw453 dX8_refuse_16 ?_
      refine lv_iload_n hx hb dX8_refuse_19 rfl (lv_at hl 1 rfl) ?_
      refine lv_ineg hx hb dX8_refuse_20 ?_
      obtain ⟨x2, ex2, h⟩ := z_lt h
      refine lv_fi (v := x2) ex2.symm ?_
      refine lv_dup2_11 hx hb dX8_refuse_21 rfl rfl ?_
      obtain ⟨g3, h⟩ := z_gd h
      refine faX8_11 hx hb hK hw 0 rfl rfl g3 dX8_refuse_22 ?_
      refine lv_iconst (v := 1) hx hb dX8_refuse_23 (by decide) ?_
      refine lv_iadd hx hb dX8_refuse_24 ?_
      obtain ⟨g4, h⟩ := z_gd h
      refine fbX8_11 hx hb hK hw 0 rfl rfl g4 dX8_refuse_25 (fun H locs hw => ?_)
      obtain ⟨o5, eo5, h⟩ := z_lt h
      have hw : Wd dC dI A s.heap [wX8 h_me h_me_reader h_me_machine h_me_isles h_me_court h_me_study h_me_paper h_me_paperCourt h_me_past h_me_pastAhead h_me_movingAhead q_me k_me o5] H locs := by rw [eo5]; exact hw
      refine lv_iload_n hx hb dX8_refuse_26 rfl (lv_at hl 1 rfl) ?_
      have hy := Option.some.inj h
      rw [← hQz, ← hy]
      exact xr_i (v := p0) hx hb hr rfl hlk hK hw dX8_refuse_27

def f_X8_grant (o_me : Ob) (p0 : Int32) : Option (Int32 × Ob) :=
  zlt (sI o_me 12 (0 : Int32)) fun o1 =>
  some (p0, o1)
set_option maxHeartbeats 4000000 in
set_option maxRecDepth 100000 in
theorem m_X8_grant (l : Launch) (dC : Nat → ClassId) (dI : Nat → Nat → Nat) (sz : Nat) (h_me : Nat) (h_me_reader : Nat) (h_me_machine : Nat) (h_me_isles : Nat) (h_me_court : Nat) (h_me_study : Nat) (h_me_paper : Nat) (h_me_paperCourt : Nat) (h_me_past : Nat) (h_me_pastAhead : Nat) (h_me_movingAhead : Nat) (q_me : Nat → Nat) (k_me : Nat → ClassId) (o_me : Ob) (p0 : Int32) (y : Int32 × Ob) (h : f_X8_grant o_me p0 = some y) : CI l yX8_grant cX8_grant 2 (some .int) ({ frames := 0, cells := 0, slots := 0, locals := 0 } : Room) dC dI sz [.ref h_me, .int p0] [wX8 h_me h_me_reader h_me_machine h_me_isles h_me_court h_me_study h_me_paper h_me_paperCourt h_me_past h_me_pastAhead h_me_movingAhead q_me k_me o_me] [tX8 k_me] y.1 [wX8 h_me h_me_reader h_me_machine h_me_isles h_me_court h_me_study h_me_paper h_me_paperCourt h_me_past h_me_pastAhead h_me_movingAhead q_me k_me y.2] := by
  refine CC_of (by decide) (Nat.le_of_ble_eq_true rfl) ?_
  intro p e s m below meth c A ls hx hb hml hr hlk hnm hown hts hX hK hP hD hA hl
  have hl : lv_has ls 2 [(0, .ref h_me), (1, .int p0)] := hl
  have hown : s.vm.findClass RX8 = some m.cls := hown
  have hw : Wd dC dI A s.heap [wX8 h_me h_me_reader h_me_machine h_me_isles h_me_court h_me_study h_me_paper h_me_paperCourt h_me_past h_me_pastAhead h_me_movingAhead q_me k_me o_me] s.heap [] := ⟨hP, hD, va_S.rf⟩
  generalize hQz : (MQ below (QI dC dI (fun r (_ : Unit) => r = y.1) (fun _ => Jn [wX8 h_me h_me_reader h_me_machine h_me_isles h_me_court h_me_study h_me_paper h_me_paperCourt h_me_past h_me_pastAhead h_me_movingAhead q_me k_me y.2]) (fun _ => Jt [tX8 k_me]) A) ([.ref h_me, .int p0] : List Value).toArray s 0 0 A) = Qz
  clear hP hD hnm
  unfold f_X8_grant at h
  refine lv_aload_n hx hb dX8_grant_0 rfl (lv_at hl 0 rfl) ?_
  refine lv_iconst (v := 0) hx hb dX8_grant_1 (by decide) ?_
  refine fpX8_12 hx hb hts hown hK hw 0 rfl kw454 dX8_grant_2 (fun H locs hw => ?_)
  obtain ⟨o1, eo1, h⟩ := z_lt h
  have hw : Wd dC dI A s.heap [wX8 h_me h_me_reader h_me_machine h_me_isles h_me_court h_me_study h_me_paper h_me_paperCourt h_me_past h_me_pastAhead h_me_movingAhead q_me k_me o1] H locs := by rw [eo1]; exact hw
  refine lv_iload_n hx hb dX8_grant_5 rfl (lv_at hl 1 rfl) ?_
  have hy := Option.some.inj h
  rw [← hQz, ← hy]
  exact xr_i (v := p0) hx hb hr rfl hlk hK hw dX8_grant_6

def bk_X8_beats_14   (o_me : Ob) (o_me_isles : Ob) : Option (Int32 × Ob × Ob) :=
  (f_X8_refuse o_me (-1 : Int32)).bind fun z1 =>
  some (z1.1, z1.2, o_me_isles)
def bk_X8_beats_42   (o_me : Ob) (o_me_isles : Ob) : Option (Int32 × Ob × Ob) :=
  (f_X8_refuse o_me (-2 : Int32)).bind fun z3 =>
  some (z3.1, z3.2, o_me_isles)
def f_X8_beats (o_me : Ob) (o_me_isles : Ob) (p0 : Int32) (p1 : Int32) (p2 : Int32) : Option (Int32 × Ob × Ob) :=
  if p0 = p1 then
  (bk_X8_beats_14   o_me o_me_isles)
  else
  (if p2 < (0 : Int32) then
  (bk_X8_beats_14   o_me o_me_isles)
  else
  (if p2 ≤ (1 : Int32) then
  ((f_X2_isPerson o_me_isles p0).bind fun z2 =>
  if z2 = (0 : Int32) then
  (bk_X8_beats_42   o_me o_me_isles)
  else
  ((f_X2_isPerson o_me_isles p1).bind fun z4 =>
  if z4 = (0 : Int32) then
  (bk_X8_beats_42   o_me o_me_isles)
  else
  (zgd (zin p0 7) <|
  zlt (((gA o_me_isles 3 p0.toNatClampNeg) >>> (p1 &&& 31)) &&& (1 : Int32)) fun x6 =>
  zgd (zin p0 7) <|
  zgd (zin p0 7) <|
  zlt (tA o_me_isles 3 p0.toNatClampNeg ((gA o_me_isles 3 p0.toNatClampNeg) ^^^ ((x6 ^^^ p2) <<< (p1 &&& 31)))) fun o9 =>
  (f_X8_grant o_me x6).bind fun z10 =>
  some (z10.1, z10.2, o9))))
  else
  (bk_X8_beats_14   o_me o_me_isles)))
set_option maxHeartbeats 4000000 in
set_option maxRecDepth 100000 in
theorem m_X8_beats (l : Launch) (dC : Nat → ClassId) (dI : Nat → Nat → Nat) (sz : Nat) (h_me : Nat) (h_me_reader : Nat) (h_me_machine : Nat) (h_me_isles : Nat) (h_me_court : Nat) (h_me_study : Nat) (h_me_paper : Nat) (h_me_paperCourt : Nat) (h_me_past : Nat) (h_me_pastAhead : Nat) (h_me_movingAhead : Nat) (h_me_isles_now : Nat) (q_me : Nat → Nat) (k_me : Nat → ClassId) (q_me_isles : Nat → Nat) (k_me_isles : Nat → ClassId) (o_me : Ob) (o_me_isles : Ob) (p0 : Int32) (p1 : Int32) (p2 : Int32) (y : Int32 × Ob × Ob) (h : f_X8_beats o_me o_me_isles p0 p1 p2 = some y) : CI l yX8_beats cX8_beats 5 (some .int) ({ frames := 1, cells := 0, slots := 0, locals := 21 } : Room) dC dI sz [.ref h_me, .int p0, .int p1, .int p2] [wX8 h_me h_me_reader h_me_machine h_me_isles h_me_court h_me_study h_me_paper h_me_paperCourt h_me_past h_me_pastAhead h_me_movingAhead q_me k_me o_me, wX2 h_me_isles h_me_isles_now q_me_isles k_me_isles o_me_isles] [tX8 k_me, tX2 k_me_isles] y.1 [wX8 h_me h_me_reader h_me_machine h_me_isles h_me_court h_me_study h_me_paper h_me_paperCourt h_me_past h_me_pastAhead h_me_movingAhead q_me k_me y.2.1, wX2 h_me_isles h_me_isles_now q_me_isles k_me_isles y.2.2] := by
  refine CC_of (by decide) (Nat.le_of_ble_eq_true rfl) ?_
  intro p e s m below meth c A ls hx hb hml hr hlk hnm hown hts hX hK hP hD hA hl
  have hl : lv_has ls 5 [(0, .ref h_me), (1, .int p0), (2, .int p1), (3, .int p2)] := hl
  have hown : s.vm.findClass RX8 = some m.cls := hown
  have hw : Wd dC dI A s.heap [wX8 h_me h_me_reader h_me_machine h_me_isles h_me_court h_me_study h_me_paper h_me_paperCourt h_me_past h_me_pastAhead h_me_movingAhead q_me k_me o_me, wX2 h_me_isles h_me_isles_now q_me_isles k_me_isles o_me_isles] s.heap [] := ⟨hP, hD, va_S.rf⟩
  generalize hQz : (MQ below (QI dC dI (fun r (_ : Unit) => r = y.1) (fun _ => Jn [wX8 h_me h_me_reader h_me_machine h_me_isles h_me_court h_me_study h_me_paper h_me_paperCourt h_me_past h_me_pastAhead h_me_movingAhead q_me k_me y.2.1, wX2 h_me_isles h_me_isles_now q_me_isles k_me_isles y.2.2]) (fun _ => Jt [tX8 k_me, tX2 k_me_isles]) A) ([.ref h_me, .int p0, .int p1, .int p2] : List Value).toArray s 0 0 A) = Qz
  clear hP hD hnm
  have bk_14_0 : ∀ (o_me : Ob) (o_me_isles : Ob) (H : Heap) (locs : List Loc) (ls : Array Slot), bk_X8_beats_14   o_me o_me_isles = some y → Wd dC dI A s.heap [wX8 h_me h_me_reader h_me_machine h_me_isles h_me_court h_me_study h_me_paper h_me_paperCourt h_me_past h_me_pastAhead h_me_movingAhead q_me k_me o_me, wX2 h_me_isles h_me_isles_now q_me_isles k_me_isles o_me_isles] H locs → lv_has ls 5 [(0, .ref h_me)] → W p l e ({ frames := 1, cells := 0, slots := 0, locals := 21 } : Room) s m ([.ref h_me, .int p0, .int p1, .int p2] : List Value).toArray below meth c H locs 0 0 Qz (F0 m 14 ls []) := by
    intro o_me o_me_isles H locs ls h hw hl
    unfold bk_X8_beats_14 at h
    refine lv_aload_n hx hb dX8_beats_14 rfl (lv_at hl 0 rfl) ?_
    refine lv_iconst (v := (-1)) hx hb dX8_beats_15 (by decide) ?_
    obtain ⟨z1, ez1, h⟩ := z_bd h
    refine xj_i (xrV (As := [.int (-1 : Int32)]) (rest := []) ⟨hx, hb, hml, hown, hts⟩ (m_X8_refuse l dC dI _ h_me h_me_reader h_me_machine h_me_isles h_me_court h_me_study h_me_paper h_me_paperCourt h_me_past h_me_pastAhead h_me_movingAhead q_me k_me o_me (-1 : Int32) z1 ez1) kw508 kw505 kw507 kw0 kw110 hd_X8_refuse ⟨rfl, rfl⟩ rfl rfl ⟨rfl, rfl⟩ hX hK hw [0] (by decide) rfl rfl rfl rfl rfl hl.1 rfl rfl dX8_beats_16) hw hA [0] (by decide) rfl rfl (fun H locs hw => ?_)
    have hw : Wd dC dI A s.heap [wX8 h_me h_me_reader h_me_machine h_me_isles h_me_court h_me_study h_me_paper h_me_paperCourt h_me_past h_me_pastAhead h_me_movingAhead q_me k_me z1.2, wX2 h_me_isles h_me_isles_now q_me_isles k_me_isles o_me_isles] H locs := hw
    have hy := Option.some.inj h
    rw [← hQz, ← hy]
    exact xr_i (v := z1.1) hx hb hr rfl hlk hK hw dX8_beats_19
  have bk_42_1 : ∀ (o_me : Ob) (o_me_isles : Ob) (H : Heap) (locs : List Loc) (ls : Array Slot), bk_X8_beats_42   o_me o_me_isles = some y → Wd dC dI A s.heap [wX8 h_me h_me_reader h_me_machine h_me_isles h_me_court h_me_study h_me_paper h_me_paperCourt h_me_past h_me_pastAhead h_me_movingAhead q_me k_me o_me, wX2 h_me_isles h_me_isles_now q_me_isles k_me_isles o_me_isles] H locs → lv_has ls 5 [(0, .ref h_me)] → W p l e ({ frames := 1, cells := 0, slots := 0, locals := 21 } : Room) s m ([.ref h_me, .int p0, .int p1, .int p2] : List Value).toArray below meth c H locs 0 0 Qz (F0 m 42 ls []) := by
    intro o_me o_me_isles H locs ls h hw hl
    unfold bk_X8_beats_42 at h
    refine lv_aload_n hx hb dX8_beats_42 rfl (lv_at hl 0 rfl) ?_
    refine lv_bipush (v := (-2)) hx hb dX8_beats_43 (by decide) ?_
    obtain ⟨z3, ez3, h⟩ := z_bd h
    refine xj_i (xrV (As := [.int (-2 : Int32)]) (rest := []) ⟨hx, hb, hml, hown, hts⟩ (m_X8_refuse l dC dI _ h_me h_me_reader h_me_machine h_me_isles h_me_court h_me_study h_me_paper h_me_paperCourt h_me_past h_me_pastAhead h_me_movingAhead q_me k_me o_me (-2 : Int32) z3 ez3) kw508 kw505 kw507 kw0 kw110 hd_X8_refuse ⟨rfl, rfl⟩ rfl rfl ⟨rfl, rfl⟩ hX hK hw [0] (by decide) rfl rfl rfl rfl rfl hl.1 rfl rfl dX8_beats_45) hw hA [0] (by decide) rfl rfl (fun H locs hw => ?_)
    have hw : Wd dC dI A s.heap [wX8 h_me h_me_reader h_me_machine h_me_isles h_me_court h_me_study h_me_paper h_me_paperCourt h_me_past h_me_pastAhead h_me_movingAhead q_me k_me z3.2, wX2 h_me_isles h_me_isles_now q_me_isles k_me_isles o_me_isles] H locs := hw
    have hy := Option.some.inj h
    rw [← hQz, ← hy]
    exact xr_i (v := z3.1) hx hb hr rfl hlk hK hw dX8_beats_48
  unfold f_X8_beats at h
  refine lv_iload_n hx hb dX8_beats_0 rfl (lv_at hl 1 rfl) ?_
  refine lv_iload_n hx hb dX8_beats_1 rfl (lv_at hl 2 rfl) ?_
  refine lv_icmp_eq (tgt := 14) hx hb dX8_beats_2 (by decide) (fun c => ?_) (fun c => ?_)
  · have h := z_t h c
    exact bk_14_0  o_me o_me_isles _ _ _ h hw (lv_sub hl [0] rfl)
  · have h := z_f h c
    refine lv_iload_n hx hb dX8_beats_5 rfl (lv_at hl 3 rfl) ?_
    refine lv_if_lt (tgt := 14) hx hb dX8_beats_6 (by decide) (fun c => ?_) (fun c => ?_)
    · have h := z_t h c
      exact bk_14_0  o_me o_me_isles _ _ _ h hw (lv_sub hl [0] rfl)
    · have h := z_f h c
      refine lv_iload_n hx hb dX8_beats_9 rfl (lv_at hl 3 rfl) ?_
      refine lv_iconst (v := 1) hx hb dX8_beats_10 (by decide) ?_
      refine lv_icmp_le (tgt := 20) hx hb dX8_beats_11 (by decide) (fun c => ?_) (fun c => ?_)
      · have h := z_t h c
        refine lv_aload_n hx hb dX8_beats_20 rfl (lv_at hl 0 rfl) ?_
        refine fgX8_2 hx hb hts hown hK hw 0 rfl kw444 dX8_beats_21 ?_
        refine lv_iload_n hx hb dX8_beats_24 rfl (lv_at hl 1 rfl) ?_
        obtain ⟨z2, ez2, h⟩ := z_bd h
        refine xj_i (xrV (As := [.int p0]) (rest := []) ⟨hx, hb, hml, hown, hts⟩ (m_X2_isPerson l dC dI _ h_me_isles h_me_isles_now q_me_isles k_me_isles o_me_isles p0 z2 ez2) kw504 kw501 kw502 kw503 kw115 hd_X2_isPerson ⟨rfl, rfl⟩ rfl rfl ⟨rfl, rfl⟩ hX hK hw [1] (by decide) rfl rfl rfl rfl rfl hl.1 rfl rfl dX8_beats_25) hw hA [1] (by decide) rfl rfl (fun H locs hw => ?_)
        have hw : Wd dC dI A s.heap [wX8 h_me h_me_reader h_me_machine h_me_isles h_me_court h_me_study h_me_paper h_me_paperCourt h_me_past h_me_pastAhead h_me_movingAhead q_me k_me o_me, wX2 h_me_isles h_me_isles_now q_me_isles k_me_isles o_me_isles] H locs := hw
        refine lv_if_eq (tgt := 42) hx hb dX8_beats_28 (by decide) (fun c => ?_) (fun c => ?_)
        · have h := z_t h c
          exact bk_42_1  o_me o_me_isles _ _ _ h hw (lv_sub hl [0] rfl)
        · have h := z_f h c
          refine lv_aload_n hx hb dX8_beats_31 rfl (lv_at hl 0 rfl) ?_
          refine fgX8_2 hx hb hts hown hK hw 0 rfl kw444 dX8_beats_32 ?_
          refine lv_iload_n hx hb dX8_beats_35 rfl (lv_at hl 2 rfl) ?_
          obtain ⟨z4, ez4, h⟩ := z_bd h
          refine xj_i (xrV (As := [.int p1]) (rest := []) ⟨hx, hb, hml, hown, hts⟩ (m_X2_isPerson l dC dI _ h_me_isles h_me_isles_now q_me_isles k_me_isles o_me_isles p1 z4 ez4) kw504 kw501 kw502 kw503 kw115 hd_X2_isPerson ⟨rfl, rfl⟩ rfl rfl ⟨rfl, rfl⟩ hX hK hw [1] (by decide) rfl rfl rfl rfl rfl hl.1 rfl rfl dX8_beats_36) hw hA [1] (by decide) rfl rfl (fun H locs hw => ?_)
          have hw : Wd dC dI A s.heap [wX8 h_me h_me_reader h_me_machine h_me_isles h_me_court h_me_study h_me_paper h_me_paperCourt h_me_past h_me_pastAhead h_me_movingAhead q_me k_me o_me, wX2 h_me_isles h_me_isles_now q_me_isles k_me_isles o_me_isles] H locs := hw
          refine lv_if_ne (tgt := 49) hx hb dX8_beats_39 (by decide) (fun c => ?_) (fun c => ?_)
          · have h := z_f h c
            refine lv_aload_n hx hb dX8_beats_49 rfl (lv_at hl 0 rfl) ?_
            refine fgX8_2 hx hb hts hown hK hw 0 rfl kw444 dX8_beats_50 ?_
            refine fgX2_3 hx hb hts hown hK hw 1 rfl kw308 dX8_beats_53 ?_
            refine lv_iload_n hx hb dX8_beats_56 rfl (lv_at hl 1 rfl) ?_
            obtain ⟨g5, h⟩ := z_gd h
            refine faX2_3 hx hb hK hw 1 rfl rfl g5 dX8_beats_57 ?_
            refine lv_iload_n hx hb dX8_beats_58 rfl (lv_at hl 2 rfl) ?_
            refine lv_ishr hx hb dX8_beats_59 ?_
            refine lv_iconst (v := 1) hx hb dX8_beats_60 (by decide) ?_
            refine lv_iand hx hb dX8_beats_61 ?_
            obtain ⟨x6, ex6, h⟩ := z_lt h
            refine lv_fi (v := x6) ex6.symm ?_
            refine lv_istore (lv' := [(4, .int x6), (0, .ref h_me), (1, .int p0), (2, .int p1), (3, .int p2)]) hx hb dX8_beats_62 hl (by decide) rfl (fun ls hl => ?_)
            refine lv_aload_n hx hb dX8_beats_64 rfl (lv_at hl 1 rfl) ?_
            refine fgX8_2 hx hb hts hown hK hw 0 rfl kw444 dX8_beats_65 ?_
            refine fgX2_3 hx hb hts hown hK hw 1 rfl kw308 dX8_beats_68 ?_
            refine lv_iload_n hx hb dX8_beats_71 rfl (lv_at hl 2 rfl) ?_
            refine lv_dup2_11 hx hb dX8_beats_72 rfl rfl ?_
            obtain ⟨g7, h⟩ := z_gd h
            refine faX2_3 hx hb hK hw 1 rfl rfl g7 dX8_beats_73 ?_
            refine lv_iload hx hb dX8_beats_74 (lv_at hl 0 rfl) ?_
            refine lv_iload_n hx hb dX8_beats_76 rfl (lv_at hl 4 rfl) ?_
            refine lv_ixor hx hb dX8_beats_77 ?_
            refine lv_iload_n hx hb dX8_beats_78 rfl (lv_at hl 3 rfl) ?_
            refine lv_ishl hx hb dX8_beats_79 ?_
            refine lv_ixor hx hb dX8_beats_80 ?_
            obtain ⟨g8, h⟩ := z_gd h
            refine fbX2_3 hx hb hK hw 1 rfl rfl g8 dX8_beats_81 (fun H locs hw => ?_)
            obtain ⟨o9, eo9, h⟩ := z_lt h
            have hw : Wd dC dI A s.heap [wX8 h_me h_me_reader h_me_machine h_me_isles h_me_court h_me_study h_me_paper h_me_paperCourt h_me_past h_me_pastAhead h_me_movingAhead q_me k_me o_me, wX2 h_me_isles h_me_isles_now q_me_isles k_me_isles o9] H locs := by rw [eo9]; exact hw
            refine lv_aload_n hx hb dX8_beats_82 rfl (lv_at hl 1 rfl) ?_
            refine lv_iload hx hb dX8_beats_83 (lv_at hl 0 rfl) ?_
            obtain ⟨z10, ez10, h⟩ := z_bd h
            refine xj_i (xrV (As := [.int x6]) (rest := []) ⟨hx, hb, hml, hown, hts⟩ (m_X8_grant l dC dI _ h_me h_me_reader h_me_machine h_me_isles h_me_court h_me_study h_me_paper h_me_paperCourt h_me_past h_me_pastAhead h_me_movingAhead q_me k_me o_me x6 z10 ez10) kw520 kw517 kw519 kw1 kw110 hd_X8_grant ⟨rfl, rfl⟩ rfl rfl ⟨rfl, rfl⟩ hX hK hw [0] (by decide) rfl rfl rfl rfl rfl hl.1 rfl rfl dX8_beats_85) hw hA [0] (by decide) rfl rfl (fun H locs hw => ?_)
            have hw : Wd dC dI A s.heap [wX8 h_me h_me_reader h_me_machine h_me_isles h_me_court h_me_study h_me_paper h_me_paperCourt h_me_past h_me_pastAhead h_me_movingAhead q_me k_me z10.2, wX2 h_me_isles h_me_isles_now q_me_isles k_me_isles o9] H locs := hw
            have hy := Option.some.inj h
            rw [← hQz, ← hy]
            exact xr_i (v := z10.1) hx hb hr rfl hlk hK hw dX8_beats_88
          · have h := z_t h c
            exact bk_42_1  o_me o_me_isles _ _ _ h hw (lv_sub hl [0] rfl)
      · have h := z_f h c
        exact bk_14_0  o_me o_me_isles _ _ _ h hw (lv_sub hl [0] rfl)

def f_X8_blots (o_me : Ob) : Option (Int32) :=
  some (gI o_me 13)
set_option maxHeartbeats 4000000 in
set_option maxRecDepth 100000 in
theorem m_X8_blots (l : Launch) (dC : Nat → ClassId) (dI : Nat → Nat → Nat) (sz : Nat) (h_me : Nat) (h_me_reader : Nat) (h_me_machine : Nat) (h_me_isles : Nat) (h_me_court : Nat) (h_me_study : Nat) (h_me_paper : Nat) (h_me_paperCourt : Nat) (h_me_past : Nat) (h_me_pastAhead : Nat) (h_me_movingAhead : Nat) (q_me : Nat → Nat) (k_me : Nat → ClassId) (o_me : Ob) (y : Int32) (h : f_X8_blots o_me = some y) : CI l yX8_blots cX8_blots 1 (some .int) ({ frames := 0, cells := 0, slots := 0, locals := 0 } : Room) dC dI sz [.ref h_me] [wX8 h_me h_me_reader h_me_machine h_me_isles h_me_court h_me_study h_me_paper h_me_paperCourt h_me_past h_me_pastAhead h_me_movingAhead q_me k_me o_me] [tX8 k_me] y [wX8 h_me h_me_reader h_me_machine h_me_isles h_me_court h_me_study h_me_paper h_me_paperCourt h_me_past h_me_pastAhead h_me_movingAhead q_me k_me o_me] := by
  refine CC_of (by decide) (Nat.le_of_ble_eq_true rfl) ?_
  intro p e s m below meth c A ls hx hb hml hr hlk hnm hown hts hX hK hP hD hA hl
  have hl : lv_has ls 1 [(0, .ref h_me)] := hl
  have hown : s.vm.findClass RX8 = some m.cls := hown
  have hw : Wd dC dI A s.heap [wX8 h_me h_me_reader h_me_machine h_me_isles h_me_court h_me_study h_me_paper h_me_paperCourt h_me_past h_me_pastAhead h_me_movingAhead q_me k_me o_me] s.heap [] := ⟨hP, hD, va_S.rf⟩
  generalize hQz : (MQ below (QI dC dI (fun r (_ : Unit) => r = y) (fun _ => Jn [wX8 h_me h_me_reader h_me_machine h_me_isles h_me_court h_me_study h_me_paper h_me_paperCourt h_me_past h_me_pastAhead h_me_movingAhead q_me k_me o_me]) (fun _ => Jt [tX8 k_me]) A) ([.ref h_me] : List Value).toArray s 0 0 A) = Qz
  clear hP hD hnm
  unfold f_X8_blots at h
  refine lv_aload_n hx hb dX8_blots_0 rfl (lv_at hl 0 rfl) ?_
  refine fgX8_13 hx hb hts hown hK hw 0 rfl kw455 dX8_blots_1 ?_
  have hy := Option.some.inj h
  rw [← hQz, ← hy]
  exact xr_i (v := gI o_me 13) hx hb hr rfl hlk hK hw dX8_blots_4

def f_X1_turnsTo_Q (o_me : Ob) (o_me_isles : Ob) (o_me_isles_now : Ob) (o_me_machine : Ob) (o_pool : List CR) (p0 : Option Nat) (p1 : Int32) (p2 : Int32) : Option (Int32 × Ob) :=
  (zop p0 o_pool ((f_X1_told_N o_me (1 : Int32) p1 p2 (2 : Int32)).map (fun v => (v, o_me_machine))) (fun cr => f_X1_told_O cr.2.2.2.1 cr.2.2.2.2.1 o_me o_me_isles o_me_isles_now o_me_machine cr.2.2.2.2.2 (1 : Int32) p1 p2 (2 : Int32))).bind fun z1 =>
  if (lg_cmp z1.1 (-9000000000000000000 : Int64)) = (0 : Int32) then
  (zgd (zin p1 7) <|
  some (((gA o_me_isles_now 0 p1.toNatClampNeg) + (1 : Int32)) - ((gA o_me_isles_now 0 p1.toNatClampNeg) + (1 : Int32)) / (10 : Int32) * (10 : Int32), z1.2))
  else
  ((f_X1_nearest z1.1 (9 : Int32)).bind fun z2 =>
  some (z2, z1.2))
set_option maxHeartbeats 4000000 in
set_option maxRecDepth 100000 in
theorem m_X1_turnsTo_Q (l : Launch) (dC : Nat → ClassId) (dI : Nat → Nat → Nat) (sz : Nat) (h_me : Nat) (h_me_isles : Nat) (h_me_machine : Nat) (h_me_isles_now : Nat) (q_me : Nat → Nat) (k_me : Nat → ClassId) (q_me_isles : Nat → Nat) (k_me_isles : Nat → ClassId) (q_me_isles_now : Nat → Nat) (k_me_isles_now : Nat → ClassId) (q_me_machine : Nat → Nat) (k_me_machine : Nat → ClassId) (o_me : Ob) (o_me_isles : Ob) (o_me_isles_now : Ob) (o_me_machine : Ob) (o_pool : List CR) (p0 : Option Nat) (p1 : Int32) (p2 : Int32) (y : Int32 × Ob) (h : f_X1_turnsTo_Q o_me o_me_isles o_me_isles_now o_me_machine o_pool p0 p1 p2 = some y) : CI l yX1_turnsTo cX1_turnsTo 6 (some .int) ({ frames := 3, cells := 0, slots := 0, locals := 84 } : Room) dC dI sz [.ref h_me, va_rf p0, .int p1, .int p2] [wX1 h_me h_me_isles h_me_machine q_me k_me o_me, wX2 h_me_isles h_me_isles_now q_me_isles k_me_isles o_me_isles, wX4 h_me_isles_now q_me_isles_now k_me_isles_now o_me_isles_now, wX3 h_me_machine q_me_machine k_me_machine o_me_machine, wPL o_pool] [tX1 k_me, tX2 k_me_isles, tX4 k_me_isles_now, tX3 k_me_machine, tPL o_pool] y.1 [wX1 h_me h_me_isles h_me_machine q_me k_me o_me, wX2 h_me_isles h_me_isles_now q_me_isles k_me_isles o_me_isles, wX4 h_me_isles_now q_me_isles_now k_me_isles_now o_me_isles_now, wX3 h_me_machine q_me_machine k_me_machine y.2, wPL o_pool] := by
  refine CC_of (by decide) (by cases p0 <;> exact Nat.le_of_ble_eq_true rfl) ?_
  intro p e s m below meth c A ls hx hb hml hr hlk hnm hown hts hX hK hP hD hA hl
  have hl : lv_has ls 6 [(0, .ref h_me), (1, va_rf p0), (2, .int p1), (3, .int p2)] := by
    have e9 : lv_args 0 [.ref h_me, va_rf p0, .int p1, .int p2] = [(0, .ref h_me), (1, va_rf p0), (2, .int p1), (3, .int p2)] := by cases p0 <;> rfl
    rw [← e9]; exact hl
  have hown : s.vm.findClass RX1 = some m.cls := hown
  have hw : Wd dC dI A s.heap [wX1 h_me h_me_isles h_me_machine q_me k_me o_me, wX2 h_me_isles h_me_isles_now q_me_isles k_me_isles o_me_isles, wX4 h_me_isles_now q_me_isles_now k_me_isles_now o_me_isles_now, wX3 h_me_machine q_me_machine k_me_machine o_me_machine, wPL o_pool] s.heap [] := ⟨hP, hD, va_S.rf⟩
  generalize hQz : (MQ below (QI dC dI (fun r (_ : Unit) => r = y.1) (fun _ => Jn [wX1 h_me h_me_isles h_me_machine q_me k_me o_me, wX2 h_me_isles h_me_isles_now q_me_isles k_me_isles o_me_isles, wX4 h_me_isles_now q_me_isles_now k_me_isles_now o_me_isles_now, wX3 h_me_machine q_me_machine k_me_machine y.2, wPL o_pool]) (fun _ => Jt [tX1 k_me, tX2 k_me_isles, tX4 k_me_isles_now, tX3 k_me_machine, tPL o_pool]) A) ([.ref h_me, va_rf p0, .int p1, .int p2] : List Value).toArray s 0 0 A) = Qz
  clear hP hD hnm
  unfold f_X1_turnsTo_Q at h
  refine lv_aload_n hx hb dX1_turnsTo_0 rfl (lv_at hl 0 rfl) ?_
  refine xaload_n hx hb dX1_turnsTo_1 rfl (lv_at hl 1 rfl) ?_
  refine lv_iconst (v := 1) hx hb dX1_turnsTo_2 (by decide) ?_
  refine lv_iload_n hx hb dX1_turnsTo_3 rfl (lv_at hl 2 rfl) ?_
  refine lv_iload_n hx hb dX1_turnsTo_4 rfl (lv_at hl 3 rfl) ?_
  refine lv_iconst (v := 2) hx hb dX1_turnsTo_5 (by decide) ?_
  obtain ⟨z1, ez1, h⟩ := z_bd h
  have kk9 : ∀ (H : Heap) (locs : List Loc), Wd dC dI A s.heap [wX1 h_me h_me_isles h_me_machine q_me k_me o_me, wX2 h_me_isles h_me_isles_now q_me_isles k_me_isles o_me_isles, wX4 h_me_isles_now q_me_isles_now k_me_isles_now o_me_isles_now, wX3 h_me_machine q_me_machine k_me_machine z1.2, wPL o_pool] H locs → W p l e ({ frames := 3, cells := 0, slots := 0, locals := 84 } : Room) s m ([.ref h_me, va_rf p0, .int p1, .int p2] : List Value).toArray below meth c H locs 0 0 Qz (F0 m 9 ls [.long z1.1]) := by
    intro H locs hw
    refine lv_lstore (lv' := [(4, .long z1.1), (0, .ref h_me), (1, va_rf p0), (2, .int p1), (3, .int p2)]) hx hb dX1_turnsTo_9 hl (by decide) rfl (fun ls hl => ?_)
    refine lv_lload hx hb dX1_turnsTo_11 (lv_at hl 0 rfl) ?_
    refine lv_ldc2 (v := (-9000000000000000000)) hx hb hown (hts _ kw550) dX1_turnsTo_13 ?_
    refine W.lcmp hx hb dX1_turnsTo_16 ?_
    refine lv_if_ne (tgt := 40) hx hb dX1_turnsTo_17 (by decide) (fun c => ?_) (fun c => ?_)
    · have h := z_f h c
      refine lv_lload hx hb dX1_turnsTo_40 (lv_at hl 0 rfl) ?_
      refine lv_bipush (v := 9) hx hb dX1_turnsTo_42 (by decide) ?_
      obtain ⟨z2, ez2, h⟩ := z_bd h
      refine xj_i (xrS (As := [.long z1.1, .int (9 : Int32)]) (rest := []) ⟨hx, hb, hml, hown, hts⟩ (m_X1_nearest l dC dI _  z1.1 (9 : Int32) z2 ez2) kw575 kw573 kw574 kw117 hd_X1_nearest ⟨rfl, rfl⟩ rfl rfl ⟨rfl, rfl⟩ hX hK hw [] (by decide) rfl rfl hl.1 rfl rfl dX1_turnsTo_44) hw hA [] (by decide) rfl rfl (fun H locs hw => ?_)
      have hy := Option.some.inj h
      rw [← hQz, ← hy]
      exact xr_i (v := z2) hx hb hr rfl hlk hK hw dX1_turnsTo_47
    · have h := z_t h c
      refine lv_aload_n hx hb dX1_turnsTo_20 rfl (lv_at hl 1 rfl) ?_
      refine fgX1_0 hx hb hts hown hK hw 0 rfl kw363 dX1_turnsTo_21 ?_
      refine fgX2_0 hx hb hts hown hK hw 1 rfl kw299 dX1_turnsTo_24 ?_
      refine fgX4_0 hx hb hts hown hK hw 2 rfl kw263 dX1_turnsTo_27 ?_
      refine lv_iload_n hx hb dX1_turnsTo_30 rfl (lv_at hl 3 rfl) ?_
      obtain ⟨g3, h⟩ := z_gd h
      refine faX4_0 hx hb hK hw 2 rfl rfl g3 dX1_turnsTo_31 ?_
      refine lv_iconst (v := 1) hx hb dX1_turnsTo_32 (by decide) ?_
      refine lv_iadd hx hb dX1_turnsTo_33 ?_
      refine lv_bipush (v := 10) hx hb dX1_turnsTo_34 (by decide) ?_
      refine lv_irem hx hb dX1_turnsTo_36 (by decide) ?_
      refine lv_goto (tgt := 47) hx hb dX1_turnsTo_37 (by decide) ?_
      have hy := Option.some.inj h
      rw [← hQz, ← hy]
      exact xr_i (v := ((gA o_me_isles_now 0 p1.toNatClampNeg) + (1 : Int32)) - ((gA o_me_isles_now 0 p1.toNatClampNeg) + (1 : Int32)) / (10 : Int32) * (10 : Int32)) hx hb hr rfl hlk hK hw dX1_turnsTo_47
  rcases z_op ez1 with ⟨er, ek⟩ | ⟨⟨h_law, q_law, k_law, nc_law, ns_law, o_law⟩, l1, l2, er, el, ek⟩
  · refine W.eq (g2 := F0 m 6 ls [.int (2 : Int32), .int p2, .int p1, .int (1 : Int32), .null, .ref h_me]) (by rw [er]; rfl) ?_
    obtain ⟨v9, ev9, ek⟩ := Option.map_eq_some_iff.mp ek
    refine xj_l (xrV (As := [.null, .int (1 : Int32), .int p1, .int p2, .int (2 : Int32)]) (rest := []) ⟨hx, hb, hml, hown, hts⟩ (m_X1_told_N l dC dI _ h_me h_me_isles h_me_machine q_me k_me o_me (1 : Int32) p1 p2 (2 : Int32) v9 ev9) kw547 kw544 kw546 kw2 kw117 hd_X1_told ⟨rfl, rfl⟩ rfl rfl ⟨rfl, rfl⟩ hX hK hw [0] (by decide) rfl rfl rfl rfl rfl hl.1 rfl rfl dX1_turnsTo_6) hw hA [0] (by decide) rfl rfl (fun H locs hw => ?_)
    refine lv_fl (v := z1.1) (by rw [← ek]) ?_
    refine kk9 H locs ?_
    rw [← ek]
    exact hw
  · refine W.eq (g2 := F0 m 6 ls [.int (2 : Int32), .int p2, .int p1, .int (1 : Int32), .ref h_law, .ref h_me]) (by rw [er]; rfl) ?_
    have hw := wd_split 4 (l1 := l1) (l2 := l2) (c := (h_law, q_law, k_law, nc_law, ns_law, o_law)) (by rw [← el]; rfl) hw
    have hK9 := wk_split (Ts := [tX1 k_me, tX2 k_me_isles, tX4 k_me_isles_now, tX3 k_me_machine, tPL o_pool]) 4 (l1 := l1) (l2 := l2) (c := (h_law, q_law, k_law, nc_law, ns_law, o_law)) (by rw [← el]; rfl) hK
    have hw : Wd dC dI A s.heap [wX1 h_me h_me_isles h_me_machine q_me k_me o_me, wX2 h_me_isles h_me_isles_now q_me_isles k_me_isles o_me_isles, wX4 h_me_isles_now q_me_isles_now k_me_isles_now o_me_isles_now, wX3 h_me_machine q_me_machine k_me_machine o_me_machine, wPL (l1 ++ l2), wX0 h_law nc_law ns_law q_law k_law o_law] _ _ := hw
    have hK9 : va_K (dC, dI) vwCl (Jt [tX1 k_me, tX2 k_me_isles, tX4 k_me_isles_now, tX3 k_me_machine, tPL (l1 ++ l2), tX0 k_law]) s := hK9
    refine xj_l (xrV (As := [.ref h_law, .int (1 : Int32), .int p1, .int p2, .int (2 : Int32)]) (rest := []) ⟨hx, hb, hml, hown, hts⟩ (m_X1_told_O l dC dI _ h_me h_me_isles h_me_machine h_me_isles_now h_law q_me k_me q_me_isles k_me_isles q_me_isles_now k_me_isles_now q_me_machine k_me_machine q_law k_law nc_law ns_law o_me o_me_isles o_me_isles_now o_me_machine o_law (1 : Int32) p1 p2 (2 : Int32) z1 ek) kw547 kw544 kw546 kw2 kw117 hd_X1_told ⟨rfl, rfl⟩ rfl rfl ⟨rfl, rfl⟩ hX hK9 hw [0, 1, 2, 3, 5] (by decide) rfl rfl rfl rfl rfl hl.1 rfl rfl dX1_turnsTo_6) hw hA [0, 1, 2, 3, 5] (by decide) rfl rfl (fun H locs hw => ?_)
    have hw := wd_join 4 (l1 := l1) (l2 := l2) (c := (h_law, q_law, k_law, nc_law, ns_law, o_law)) (Ls := [wX1 h_me h_me_isles h_me_machine q_me k_me o_me, wX2 h_me_isles h_me_isles_now q_me_isles k_me_isles o_me_isles, wX4 h_me_isles_now q_me_isles_now k_me_isles_now o_me_isles_now, wX3 h_me_machine q_me_machine k_me_machine z1.2, wPL o_pool]) rfl hw
    rw [← el] at hw
    exact kk9 H locs hw

def lb_X7_fitsAllSeen_2 (o_me : Ob) (o_me_court : Ob) (o_me_court_isles : Ob) (o_me_court_isles_now : Ob) (o_pool : List CR)  (rec_2_0 : Int32 × Int32 × Ob → Option (Int32 × Ob)) (v1 : Int32) (v2 : Int32) (o_me_court_machine : Ob) : Option (Int32 × Ob) :=
  if (gI o_me_court_isles 8) ≤ v2 then
  (some ((1 : Int32), o_me_court_machine))
  else
  ((f_X2_lawInForce o_me_court_isles).bind fun z1 =>
  zgd (zin v2 6) <|
  (f_X1_turnsTo_Q o_me_court o_me_court_isles o_me_court_isles_now o_me_court_machine o_pool z1 v1 (gA o_me_court_isles 4 v2.toNatClampNeg)).bind fun z3 =>
  zgd (zin v2 6) <|
  if z3.1 = (gA o_me_court_isles 5 v2.toNatClampNeg) then
  (zlt (v2 + (1 : Int32)) fun x5 =>
  rec_2_0 (v1, x5, z3.2))
  else
  (some ((0 : Int32), z3.2)))
def lp_X7_fitsAllSeen_2 (o_me : Ob) (o_me_court : Ob) (o_me_court_isles : Ob) (o_me_court_isles_now : Ob) (o_pool : List CR)  : Nat → (Int32 × Int32 × Ob) → Option (Int32 × Ob) := zit (fun rec a => lb_X7_fitsAllSeen_2 o_me o_me_court o_me_court_isles o_me_court_isles_now o_pool  rec a.1 a.2.1 a.2.2)
def f_X7_fitsAllSeen (o_me : Ob) (o_me_court : Ob) (o_me_court_isles : Ob) (o_me_court_isles_now : Ob) (o_me_court_machine : Ob) (o_pool : List CR) (p0 : Int32) : Option (Int32 × Ob) :=
  lp_X7_fitsAllSeen_2 o_me o_me_court o_me_court_isles o_me_court_isles_now o_pool  zfu (p0, (0 : Int32), o_me_court_machine)
set_option maxHeartbeats 4000000 in
set_option maxRecDepth 100000 in
theorem m_X7_fitsAllSeen (l : Launch) (dC : Nat → ClassId) (dI : Nat → Nat → Nat) (sz : Nat) (h_me : Nat) (h_me_court : Nat) (h_me_court_isles : Nat) (h_me_court_machine : Nat) (h_me_court_isles_now : Nat) (q_me : Nat → Nat) (k_me : Nat → ClassId) (q_me_court : Nat → Nat) (k_me_court : Nat → ClassId) (q_me_court_isles : Nat → Nat) (k_me_court_isles : Nat → ClassId) (q_me_court_isles_now : Nat → Nat) (k_me_court_isles_now : Nat → ClassId) (q_me_court_machine : Nat → Nat) (k_me_court_machine : Nat → ClassId) (o_me : Ob) (o_me_court : Ob) (o_me_court_isles : Ob) (o_me_court_isles_now : Ob) (o_me_court_machine : Ob) (o_pool : List CR) (p0 : Int32) (y : Int32 × Ob) (h : f_X7_fitsAllSeen o_me o_me_court o_me_court_isles o_me_court_isles_now o_me_court_machine o_pool p0 = some y) : CI l yX7_fitsAllSeen cX7_fitsAllSeen 3 (some .boolean) ({ frames := 4, cells := 0, slots := 0, locals := 109 } : Room) dC dI sz [.ref h_me, .int p0] [wX7 h_me h_me_court h_me_court_isles q_me k_me o_me, wX1 h_me_court h_me_court_isles h_me_court_machine q_me_court k_me_court o_me_court, wX2 h_me_court_isles h_me_court_isles_now q_me_court_isles k_me_court_isles o_me_court_isles, wX4 h_me_court_isles_now q_me_court_isles_now k_me_court_isles_now o_me_court_isles_now, wX3 h_me_court_machine q_me_court_machine k_me_court_machine o_me_court_machine, wPL o_pool] [tX7 k_me, tX1 k_me_court, tX2 k_me_court_isles, tX4 k_me_court_isles_now, tX3 k_me_court_machine, tPL o_pool] y.1 [wX7 h_me h_me_court h_me_court_isles q_me k_me o_me, wX1 h_me_court h_me_court_isles h_me_court_machine q_me_court k_me_court o_me_court, wX2 h_me_court_isles h_me_court_isles_now q_me_court_isles k_me_court_isles o_me_court_isles, wX4 h_me_court_isles_now q_me_court_isles_now k_me_court_isles_now o_me_court_isles_now, wX3 h_me_court_machine q_me_court_machine k_me_court_machine y.2, wPL o_pool] := by
  refine CC_of (by decide) (Nat.le_of_ble_eq_true rfl) ?_
  intro p e s m below meth c A ls hx hb hml hr hlk hnm hown hts hX hK hP hD hA hl
  have hl : lv_has ls 3 [(0, .ref h_me), (1, .int p0)] := hl
  have hown : s.vm.findClass RX7 = some m.cls := hown
  have hw : Wd dC dI A s.heap [wX7 h_me h_me_court h_me_court_isles q_me k_me o_me, wX1 h_me_court h_me_court_isles h_me_court_machine q_me_court k_me_court o_me_court, wX2 h_me_court_isles h_me_court_isles_now q_me_court_isles k_me_court_isles o_me_court_isles, wX4 h_me_court_isles_now q_me_court_isles_now k_me_court_isles_now o_me_court_isles_now, wX3 h_me_court_machine q_me_court_machine k_me_court_machine o_me_court_machine, wPL o_pool] s.heap [] := ⟨hP, hD, va_S.rf⟩
  generalize hQz : (MQ below (QI dC dI (fun r (_ : Unit) => r = y.1) (fun _ => Jn [wX7 h_me h_me_court h_me_court_isles q_me k_me o_me, wX1 h_me_court h_me_court_isles h_me_court_machine q_me_court k_me_court o_me_court, wX2 h_me_court_isles h_me_court_isles_now q_me_court_isles k_me_court_isles o_me_court_isles, wX4 h_me_court_isles_now q_me_court_isles_now k_me_court_isles_now o_me_court_isles_now, wX3 h_me_court_machine q_me_court_machine k_me_court_machine y.2, wPL o_pool]) (fun _ => Jt [tX7 k_me, tX1 k_me_court, tX2 k_me_court_isles, tX4 k_me_court_isles_now, tX3 k_me_court_machine, tPL o_pool]) A) ([.ref h_me, .int p0] : List Value).toArray s 0 0 A) = Qz
  clear hP hD hnm
  have lp_2_0 : ∀ (N : Nat), ∀ (v1 : Int32) (v2 : Int32) (o_me_court_machine : Ob) (H : Heap) (locs : List Loc) (ls : Array Slot), lp_X7_fitsAllSeen_2 o_me o_me_court o_me_court_isles o_me_court_isles_now o_pool  N (v1, v2, o_me_court_machine) = some y → Wd dC dI A s.heap [wX7 h_me h_me_court h_me_court_isles q_me k_me o_me, wX1 h_me_court h_me_court_isles h_me_court_machine q_me_court k_me_court o_me_court, wX2 h_me_court_isles h_me_court_isles_now q_me_court_isles k_me_court_isles o_me_court_isles, wX4 h_me_court_isles_now q_me_court_isles_now k_me_court_isles_now o_me_court_isles_now, wX3 h_me_court_machine q_me_court_machine k_me_court_machine o_me_court_machine, wPL o_pool] H locs → lv_has ls 3 [(0, .ref h_me), (1, .int v1), (2, .int v2)] → W p l e ({ frames := 4, cells := 0, slots := 0, locals := 109 } : Room) s m ([.ref h_me, .int p0] : List Value).toArray below meth c H locs 0 0 Qz (F0 m 2 ls []) := by
    intro N
    induction N with
    | zero =>
      intro v1 v2 o_me_court_machine H locs ls h hw hl
      exact absurd (show (none : Option (Int32 × Ob)) = some y from h) (by simp)
    | succ N ih =>
      intro v1 v2 o_me_court_machine H locs ls h hw hl
      have h : lb_X7_fitsAllSeen_2 o_me o_me_court o_me_court_isles o_me_court_isles_now o_pool  (lp_X7_fitsAllSeen_2 o_me o_me_court o_me_court_isles o_me_court_isles_now o_pool  N) v1 v2 o_me_court_machine = some y := h
      unfold lb_X7_fitsAllSeen_2 at h
      refine lv_iload_n hx hb dX7_fitsAllSeen_2 rfl (lv_at hl 2 rfl) ?_
      refine lv_aload_n hx hb dX7_fitsAllSeen_3 rfl (lv_at hl 0 rfl) ?_
      refine fgX7_1 hx hb hts hown hK hw 0 rfl kw387 dX7_fitsAllSeen_4 ?_
      refine fgX2_8 hx hb hts hown hK hw 2 rfl kw320 dX7_fitsAllSeen_7 ?_
      refine lv_icmp_ge (tgt := 57) hx hb dX7_fitsAllSeen_10 (by decide) (fun c => ?_) (fun c => ?_)
      · have h := z_t h c
        refine lv_iconst (v := 1) hx hb dX7_fitsAllSeen_57 (by decide) ?_
        have hy := Option.some.inj h
        rw [← hQz, ← hy]
        exact xr_i (v := (1 : Int32)) hx hb hr rfl hlk hK hw dX7_fitsAllSeen_58
      · have h := z_f h c
        refine lv_aload_n hx hb dX7_fitsAllSeen_13 rfl (lv_at hl 0 rfl) ?_
        refine fgX7_0 hx hb hts hown hK hw 0 rfl kw386 dX7_fitsAllSeen_14 ?_
        refine lv_aload_n hx hb dX7_fitsAllSeen_17 rfl (lv_at hl 0 rfl) ?_
        refine fgX7_1 hx hb hts hown hK hw 0 rfl kw387 dX7_fitsAllSeen_18 ?_
        obtain ⟨z1, ez1, h⟩ := z_bd h
        refine xj_q (xrV (As := []) (rest := [.ref h_me_court]) ⟨hx, hb, hml, hown, hts⟩ (m_X2_lawInForce l dC dI _ h_me_court_isles h_me_court_isles_now q_me_court_isles k_me_court_isles o_me_court_isles z1 ez1) kw531 kw955 kw529 kw530 kw115 hd_X2_lawInForce ⟨rfl, rfl⟩ rfl rfl ⟨rfl, rfl⟩ hX hK hw [2] (by decide) rfl rfl rfl rfl rfl hl.1 rfl rfl dX7_fitsAllSeen_21) hw hA [2] (by decide) rfl rfl (fun H locs hw => ?_)
        have hw : Wd dC dI A s.heap [wX7 h_me h_me_court h_me_court_isles q_me k_me o_me, wX1 h_me_court h_me_court_isles h_me_court_machine q_me_court k_me_court o_me_court, wX2 h_me_court_isles h_me_court_isles_now q_me_court_isles k_me_court_isles o_me_court_isles, wX4 h_me_court_isles_now q_me_court_isles_now k_me_court_isles_now o_me_court_isles_now, wX3 h_me_court_machine q_me_court_machine k_me_court_machine o_me_court_machine, wPL o_pool] H locs := hw
        refine lv_iload_n hx hb dX7_fitsAllSeen_24 rfl (lv_at hl 1 rfl) ?_
        refine lv_aload_n hx hb dX7_fitsAllSeen_25 rfl (lv_at hl 0 rfl) ?_
        refine fgX7_1 hx hb hts hown hK hw 0 rfl kw387 dX7_fitsAllSeen_26 ?_
        refine fgX2_4 hx hb hts hown hK hw 2 rfl kw311 dX7_fitsAllSeen_29 ?_
        refine lv_iload_n hx hb dX7_fitsAllSeen_32 rfl (lv_at hl 2 rfl) ?_
        obtain ⟨g2, h⟩ := z_gd h
        refine faX2_4 hx hb hK hw 2 rfl rfl g2 dX7_fitsAllSeen_33 ?_
        obtain ⟨z3, ez3, h⟩ := z_bd h
        refine xj_i (xrV (As := [va_rf z1, .int v1, .int (gA o_me_court_isles 4 v2.toNatClampNeg)]) (rest := []) ⟨hx, hb, hml, hown, hts⟩ (m_X1_turnsTo_Q l dC dI _ h_me_court h_me_court_isles h_me_court_machine h_me_court_isles_now q_me_court k_me_court q_me_court_isles k_me_court_isles q_me_court_isles_now k_me_court_isles_now q_me_court_machine k_me_court_machine o_me_court o_me_court_isles o_me_court_isles_now o_me_court_machine o_pool z1 v1 (gA o_me_court_isles 4 v2.toNatClampNeg) z3 ez3) kw875 kw991 kw873 kw874 kw117 hd_X1_turnsTo ⟨rfl, rfl⟩ rfl rfl ⟨rfl, rfl⟩ hX hK hw [1, 2, 3, 4, 5] (by decide) rfl rfl rfl rfl rfl hl.1 rfl rfl dX7_fitsAllSeen_34) hw hA [1, 2, 3, 4, 5] (by decide) rfl rfl (fun H locs hw => ?_)
        have hw : Wd dC dI A s.heap [wX7 h_me h_me_court h_me_court_isles q_me k_me o_me, wX1 h_me_court h_me_court_isles h_me_court_machine q_me_court k_me_court o_me_court, wX2 h_me_court_isles h_me_court_isles_now q_me_court_isles k_me_court_isles o_me_court_isles, wX4 h_me_court_isles_now q_me_court_isles_now k_me_court_isles_now o_me_court_isles_now, wX3 h_me_court_machine q_me_court_machine k_me_court_machine z3.2, wPL o_pool] H locs := hw
        refine lv_aload_n hx hb dX7_fitsAllSeen_37 rfl (lv_at hl 0 rfl) ?_
        refine fgX7_1 hx hb hts hown hK hw 0 rfl kw387 dX7_fitsAllSeen_38 ?_
        refine fgX2_5 hx hb hts hown hK hw 2 rfl kw313 dX7_fitsAllSeen_41 ?_
        refine lv_iload_n hx hb dX7_fitsAllSeen_44 rfl (lv_at hl 2 rfl) ?_
        obtain ⟨g4, h⟩ := z_gd h
        refine faX2_5 hx hb hK hw 2 rfl rfl g4 dX7_fitsAllSeen_45 ?_
        refine lv_icmp_eq (tgt := 51) hx hb dX7_fitsAllSeen_46 (by decide) (fun c => ?_) (fun c => ?_)
        · have h := z_t h c
          obtain ⟨x5, ex5, h⟩ := z_lt h
          refine lv_iinc (v := x5) (lv' := [(2, .int x5), (0, .ref h_me), (1, .int v1)]) hx hb dX7_fitsAllSeen_51 hl (k := 2) rfl ((congrArg (v2 + ·) (show Int32.ofInt 1 = (1 : Int32) from by decide)).trans ex5.symm) (by decide) rfl (fun ls hl => ?_)
          refine lv_goto (tgt := 2) hx hb dX7_fitsAllSeen_54 (by decide) ?_
          exact ih v1 x5 z3.2 _ _ _ h hw (lv_sub hl [1, 2, 0] rfl)
        · have h := z_f h c
          refine lv_iconst (v := 0) hx hb dX7_fitsAllSeen_49 (by decide) ?_
          have hy := Option.some.inj h
          rw [← hQz, ← hy]
          exact xr_i (v := (0 : Int32)) hx hb hr rfl hlk hK hw dX7_fitsAllSeen_50
  unfold f_X7_fitsAllSeen at h
  refine lv_iconst (v := 0) hx hb dX7_fitsAllSeen_0 (by decide) ?_
  refine lv_istore_n (lv' := [(2, .int (0 : Int32)), (0, .ref h_me), (1, .int p0)]) hx hb dX7_fitsAllSeen_1 rfl hl (by decide) rfl (fun ls hl => ?_)
  exact lp_2_0  zfu p0 (0 : Int32) o_me_court_machine _ _ _ h hw (lv_sub hl [1, 2, 0] rfl)

def bk_X7_suspects_29 (o_me : Ob) (o_me_court : Ob) (o_me_court_isles : Ob) (o_me_court_isles_now : Ob) (o_pool : List CR) (rec_4_0 : Int32 × Int32 × Ob → Option (Int32 × Ob)) (v1 : Int32) (v2 : Int32) (o_me_court_machine : Ob) : Option (Int32 × Ob) :=
  zlt (v2 + (1 : Int32)) fun x2 =>
  rec_4_0 (v1, x2, o_me_court_machine)
def lb_X7_suspects_4 (o_me : Ob) (o_me_court : Ob) (o_me_court_isles : Ob) (o_me_court_isles_now : Ob) (o_pool : List CR)  (rec_4_0 : Int32 × Int32 × Ob → Option (Int32 × Ob)) (v1 : Int32) (v2 : Int32) (o_me_court_machine : Ob) : Option (Int32 × Ob) :=
  if (gI o_me_court_isles 7) ≤ v2 then
  (some (v1, o_me_court_machine))
  else
  ((f_X7_fitsAllSeen o_me o_me_court o_me_court_isles o_me_court_isles_now o_me_court_machine o_pool v2).bind fun z1 =>
  if z1.1 = (0 : Int32) then
  (bk_X7_suspects_29 o_me o_me_court o_me_court_isles o_me_court_isles_now o_pool rec_4_0 v1 v2 z1.2)
  else
  (zlt (v1 ||| ((1 : Int32) <<< (v2 &&& 31))) fun x3 =>
  bk_X7_suspects_29 o_me o_me_court o_me_court_isles o_me_court_isles_now o_pool rec_4_0 x3 v2 z1.2))
def lp_X7_suspects_4 (o_me : Ob) (o_me_court : Ob) (o_me_court_isles : Ob) (o_me_court_isles_now : Ob) (o_pool : List CR)  : Nat → (Int32 × Int32 × Ob) → Option (Int32 × Ob) := zit (fun rec a => lb_X7_suspects_4 o_me o_me_court o_me_court_isles o_me_court_isles_now o_pool  rec a.1 a.2.1 a.2.2)
def f_X7_suspects (o_me : Ob) (o_me_court : Ob) (o_me_court_isles : Ob) (o_me_court_isles_now : Ob) (o_me_court_machine : Ob) (o_pool : List CR) : Option (Int32 × Ob) :=
  lp_X7_suspects_4 o_me o_me_court o_me_court_isles o_me_court_isles_now o_pool  zfu ((0 : Int32), (0 : Int32), o_me_court_machine)
set_option maxHeartbeats 4000000 in
set_option maxRecDepth 100000 in
theorem m_X7_suspects (l : Launch) (dC : Nat → ClassId) (dI : Nat → Nat → Nat) (sz : Nat) (h_me : Nat) (h_me_court : Nat) (h_me_court_isles : Nat) (h_me_court_machine : Nat) (h_me_court_isles_now : Nat) (q_me : Nat → Nat) (k_me : Nat → ClassId) (q_me_court : Nat → Nat) (k_me_court : Nat → ClassId) (q_me_court_isles : Nat → Nat) (k_me_court_isles : Nat → ClassId) (q_me_court_isles_now : Nat → Nat) (k_me_court_isles_now : Nat → ClassId) (q_me_court_machine : Nat → Nat) (k_me_court_machine : Nat → ClassId) (o_me : Ob) (o_me_court : Ob) (o_me_court_isles : Ob) (o_me_court_isles_now : Ob) (o_me_court_machine : Ob) (o_pool : List CR) (y : Int32 × Ob) (h : f_X7_suspects o_me o_me_court o_me_court_isles o_me_court_isles_now o_me_court_machine o_pool = some y) : CI l yX7_suspects cX7_suspects 3 (some .int) ({ frames := 5, cells := 0, slots := 0, locals := 131 } : Room) dC dI sz [.ref h_me] [wX7 h_me h_me_court h_me_court_isles q_me k_me o_me, wX1 h_me_court h_me_court_isles h_me_court_machine q_me_court k_me_court o_me_court, wX2 h_me_court_isles h_me_court_isles_now q_me_court_isles k_me_court_isles o_me_court_isles, wX4 h_me_court_isles_now q_me_court_isles_now k_me_court_isles_now o_me_court_isles_now, wX3 h_me_court_machine q_me_court_machine k_me_court_machine o_me_court_machine, wPL o_pool] [tX7 k_me, tX1 k_me_court, tX2 k_me_court_isles, tX4 k_me_court_isles_now, tX3 k_me_court_machine, tPL o_pool] y.1 [wX7 h_me h_me_court h_me_court_isles q_me k_me o_me, wX1 h_me_court h_me_court_isles h_me_court_machine q_me_court k_me_court o_me_court, wX2 h_me_court_isles h_me_court_isles_now q_me_court_isles k_me_court_isles o_me_court_isles, wX4 h_me_court_isles_now q_me_court_isles_now k_me_court_isles_now o_me_court_isles_now, wX3 h_me_court_machine q_me_court_machine k_me_court_machine y.2, wPL o_pool] := by
  refine CC_of (by decide) (Nat.le_of_ble_eq_true rfl) ?_
  intro p e s m below meth c A ls hx hb hml hr hlk hnm hown hts hX hK hP hD hA hl
  have hl : lv_has ls 3 [(0, .ref h_me)] := hl
  have hown : s.vm.findClass RX7 = some m.cls := hown
  have hw : Wd dC dI A s.heap [wX7 h_me h_me_court h_me_court_isles q_me k_me o_me, wX1 h_me_court h_me_court_isles h_me_court_machine q_me_court k_me_court o_me_court, wX2 h_me_court_isles h_me_court_isles_now q_me_court_isles k_me_court_isles o_me_court_isles, wX4 h_me_court_isles_now q_me_court_isles_now k_me_court_isles_now o_me_court_isles_now, wX3 h_me_court_machine q_me_court_machine k_me_court_machine o_me_court_machine, wPL o_pool] s.heap [] := ⟨hP, hD, va_S.rf⟩
  generalize hQz : (MQ below (QI dC dI (fun r (_ : Unit) => r = y.1) (fun _ => Jn [wX7 h_me h_me_court h_me_court_isles q_me k_me o_me, wX1 h_me_court h_me_court_isles h_me_court_machine q_me_court k_me_court o_me_court, wX2 h_me_court_isles h_me_court_isles_now q_me_court_isles k_me_court_isles o_me_court_isles, wX4 h_me_court_isles_now q_me_court_isles_now k_me_court_isles_now o_me_court_isles_now, wX3 h_me_court_machine q_me_court_machine k_me_court_machine y.2, wPL o_pool]) (fun _ => Jt [tX7 k_me, tX1 k_me_court, tX2 k_me_court_isles, tX4 k_me_court_isles_now, tX3 k_me_court_machine, tPL o_pool]) A) ([.ref h_me] : List Value).toArray s 0 0 A) = Qz
  clear hP hD hnm
  have bk_29_1 : ∀ (rec_4_0 : Int32 × Int32 × Ob → Option (Int32 × Ob)) (hrec_4_0 : ∀ (v1 : Int32) (v2 : Int32) (o_me_court_machine : Ob) (H : Heap) (locs : List Loc) (ls : Array Slot), rec_4_0 (v1, v2, o_me_court_machine) = some y → Wd dC dI A s.heap [wX7 h_me h_me_court h_me_court_isles q_me k_me o_me, wX1 h_me_court h_me_court_isles h_me_court_machine q_me_court k_me_court o_me_court, wX2 h_me_court_isles h_me_court_isles_now q_me_court_isles k_me_court_isles o_me_court_isles, wX4 h_me_court_isles_now q_me_court_isles_now k_me_court_isles_now o_me_court_isles_now, wX3 h_me_court_machine q_me_court_machine k_me_court_machine o_me_court_machine, wPL o_pool] H locs → lv_has ls 3 [(0, .ref h_me), (1, .int v1), (2, .int v2)] → W p l e ({ frames := 5, cells := 0, slots := 0, locals := 131 } : Room) s m ([.ref h_me] : List Value).toArray below meth c H locs 0 0 Qz (F0 m 4 ls [])), ∀ (v1 : Int32) (v2 : Int32) (o_me_court_machine : Ob) (H : Heap) (locs : List Loc) (ls : Array Slot), bk_X7_suspects_29 o_me o_me_court o_me_court_isles o_me_court_isles_now o_pool rec_4_0 v1 v2 o_me_court_machine = some y → Wd dC dI A s.heap [wX7 h_me h_me_court h_me_court_isles q_me k_me o_me, wX1 h_me_court h_me_court_isles h_me_court_machine q_me_court k_me_court o_me_court, wX2 h_me_court_isles h_me_court_isles_now q_me_court_isles k_me_court_isles o_me_court_isles, wX4 h_me_court_isles_now q_me_court_isles_now k_me_court_isles_now o_me_court_isles_now, wX3 h_me_court_machine q_me_court_machine k_me_court_machine o_me_court_machine, wPL o_pool] H locs → lv_has ls 3 [(0, .ref h_me), (1, .int v1), (2, .int v2)] → W p l e ({ frames := 5, cells := 0, slots := 0, locals := 131 } : Room) s m ([.ref h_me] : List Value).toArray below meth c H locs 0 0 Qz (F0 m 29 ls []) := by
    intro rec_4_0 hrec_4_0
    intro v1 v2 o_me_court_machine H locs ls h hw hl
    unfold bk_X7_suspects_29 at h
    obtain ⟨x2, ex2, h⟩ := z_lt h
    refine lv_iinc (v := x2) (lv' := [(2, .int x2), (0, .ref h_me), (1, .int v1)]) hx hb dX7_suspects_29 hl (k := 2) rfl ((congrArg (v2 + ·) (show Int32.ofInt 1 = (1 : Int32) from by decide)).trans ex2.symm) (by decide) rfl (fun ls hl => ?_)
    refine lv_goto (tgt := 4) hx hb dX7_suspects_32 (by decide) ?_
    exact hrec_4_0 v1 x2 o_me_court_machine _ _ _ h hw (lv_sub hl [1, 2, 0] rfl)
  have lp_4_0 : ∀ (N : Nat), ∀ (v1 : Int32) (v2 : Int32) (o_me_court_machine : Ob) (H : Heap) (locs : List Loc) (ls : Array Slot), lp_X7_suspects_4 o_me o_me_court o_me_court_isles o_me_court_isles_now o_pool  N (v1, v2, o_me_court_machine) = some y → Wd dC dI A s.heap [wX7 h_me h_me_court h_me_court_isles q_me k_me o_me, wX1 h_me_court h_me_court_isles h_me_court_machine q_me_court k_me_court o_me_court, wX2 h_me_court_isles h_me_court_isles_now q_me_court_isles k_me_court_isles o_me_court_isles, wX4 h_me_court_isles_now q_me_court_isles_now k_me_court_isles_now o_me_court_isles_now, wX3 h_me_court_machine q_me_court_machine k_me_court_machine o_me_court_machine, wPL o_pool] H locs → lv_has ls 3 [(0, .ref h_me), (1, .int v1), (2, .int v2)] → W p l e ({ frames := 5, cells := 0, slots := 0, locals := 131 } : Room) s m ([.ref h_me] : List Value).toArray below meth c H locs 0 0 Qz (F0 m 4 ls []) := by
    intro N
    induction N with
    | zero =>
      intro v1 v2 o_me_court_machine H locs ls h hw hl
      exact absurd (show (none : Option (Int32 × Ob)) = some y from h) (by simp)
    | succ N ih =>
      intro v1 v2 o_me_court_machine H locs ls h hw hl
      have h : lb_X7_suspects_4 o_me o_me_court o_me_court_isles o_me_court_isles_now o_pool  (lp_X7_suspects_4 o_me o_me_court o_me_court_isles o_me_court_isles_now o_pool  N) v1 v2 o_me_court_machine = some y := h
      unfold lb_X7_suspects_4 at h
      refine lv_iload_n hx hb dX7_suspects_4 rfl (lv_at hl 2 rfl) ?_
      refine lv_aload_n hx hb dX7_suspects_5 rfl (lv_at hl 0 rfl) ?_
      refine fgX7_1 hx hb hts hown hK hw 0 rfl kw387 dX7_suspects_6 ?_
      refine fgX2_7 hx hb hts hown hK hw 2 rfl kw316 dX7_suspects_9 ?_
      refine lv_icmp_ge (tgt := 35) hx hb dX7_suspects_12 (by decide) (fun c => ?_) (fun c => ?_)
      · have h := z_t h c
        refine lv_iload_n hx hb dX7_suspects_35 rfl (lv_at hl 1 rfl) ?_
        have hy := Option.some.inj h
        rw [← hQz, ← hy]
        exact xr_i (v := v1) hx hb hr rfl hlk hK hw dX7_suspects_36
      · have h := z_f h c
        refine lv_aload_n hx hb dX7_suspects_15 rfl (lv_at hl 0 rfl) ?_
        refine lv_iload_n hx hb dX7_suspects_16 rfl (lv_at hl 2 rfl) ?_
        obtain ⟨z1, ez1, h⟩ := z_bd h
        refine xj_i (xrV (As := [.int v2]) (rest := []) ⟨hx, hb, hml, hown, hts⟩ (m_X7_fitsAllSeen l dC dI _ h_me h_me_court h_me_court_isles h_me_court_machine h_me_court_isles_now q_me k_me q_me_court k_me_court q_me_court_isles k_me_court_isles q_me_court_isles_now k_me_court_isles_now q_me_court_machine k_me_court_machine o_me o_me_court o_me_court_isles o_me_court_isles_now o_me_court_machine o_pool v2 z1 ez1) kw990 kw987 kw989 kw29 kw118 hd_X7_fitsAllSeen ⟨rfl, rfl⟩ rfl rfl ⟨rfl, rfl⟩ hX hK hw [0, 1, 2, 3, 4, 5] (by decide) rfl rfl rfl rfl rfl hl.1 rfl rfl dX7_suspects_17) hw hA [0, 1, 2, 3, 4, 5] (by decide) rfl rfl (fun H locs hw => ?_)
        have hw : Wd dC dI A s.heap [wX7 h_me h_me_court h_me_court_isles q_me k_me o_me, wX1 h_me_court h_me_court_isles h_me_court_machine q_me_court k_me_court o_me_court, wX2 h_me_court_isles h_me_court_isles_now q_me_court_isles k_me_court_isles o_me_court_isles, wX4 h_me_court_isles_now q_me_court_isles_now k_me_court_isles_now o_me_court_isles_now, wX3 h_me_court_machine q_me_court_machine k_me_court_machine z1.2, wPL o_pool] H locs := hw
        refine lv_if_eq (tgt := 29) hx hb dX7_suspects_20 (by decide) (fun c => ?_) (fun c => ?_)
        · have h := z_t h c
          exact bk_29_1 (lp_X7_suspects_4 o_me o_me_court o_me_court_isles o_me_court_isles_now o_pool  N) ih v1 v2 z1.2 _ _ _ h hw (lv_sub hl [0, 1, 2] rfl)
        · have h := z_f h c
          refine lv_iload_n hx hb dX7_suspects_23 rfl (lv_at hl 1 rfl) ?_
          refine lv_iconst (v := 1) hx hb dX7_suspects_24 (by decide) ?_
          refine lv_iload_n hx hb dX7_suspects_25 rfl (lv_at hl 2 rfl) ?_
          refine lv_ishl hx hb dX7_suspects_26 ?_
          refine lv_ior hx hb dX7_suspects_27 ?_
          obtain ⟨x3, ex3, h⟩ := z_lt h
          refine lv_fi (v := x3) ex3.symm ?_
          refine lv_istore_n (lv' := [(1, .int x3), (0, .ref h_me), (2, .int v2)]) hx hb dX7_suspects_28 rfl hl (by decide) rfl (fun ls hl => ?_)
          exact bk_29_1 (lp_X7_suspects_4 o_me o_me_court o_me_court_isles o_me_court_isles_now o_pool  N) ih x3 v2 z1.2 _ _ _ h hw (lv_sub hl [1, 0, 2] rfl)
  unfold f_X7_suspects at h
  refine lv_iconst (v := 0) hx hb dX7_suspects_0 (by decide) ?_
  refine lv_istore_n (lv' := [(1, .int (0 : Int32)), (0, .ref h_me)]) hx hb dX7_suspects_1 rfl hl (by decide) rfl (fun ls hl => ?_)
  refine lv_iconst (v := 0) hx hb dX7_suspects_2 (by decide) ?_
  refine lv_istore_n (lv' := [(2, .int (0 : Int32)), (1, .int (0 : Int32)), (0, .ref h_me)]) hx hb dX7_suspects_3 rfl hl (by decide) rfl (fun ls hl => ?_)
  exact lp_4_0  zfu (0 : Int32) (0 : Int32) o_me_court_machine _ _ _ h hw (lv_sub hl [2, 1, 0] rfl)

def f_X8_canBe (o_me : Ob) (o_me_machine : Ob) (o_me_isles : Ob) (o_me_isles_now : Ob) (o_me_court : Ob) (o_me_study : Ob) (o_pool : List CR) : Option (Int32 × Ob) :=
  (f_X7_suspects o_me_study o_me_court o_me_isles o_me_isles_now o_me_machine o_pool).bind fun z1 =>
  some (z1.1, z1.2)
set_option maxHeartbeats 4000000 in
set_option maxRecDepth 100000 in
theorem m_X8_canBe (l : Launch) (dC : Nat → ClassId) (dI : Nat → Nat → Nat) (sz : Nat) (h_me : Nat) (h_me_reader : Nat) (h_me_machine : Nat) (h_me_isles : Nat) (h_me_court : Nat) (h_me_study : Nat) (h_me_paper : Nat) (h_me_paperCourt : Nat) (h_me_past : Nat) (h_me_pastAhead : Nat) (h_me_movingAhead : Nat) (h_me_isles_now : Nat) (q_me : Nat → Nat) (k_me : Nat → ClassId) (q_me_machine : Nat → Nat) (k_me_machine : Nat → ClassId) (q_me_isles : Nat → Nat) (k_me_isles : Nat → ClassId) (q_me_isles_now : Nat → Nat) (k_me_isles_now : Nat → ClassId) (q_me_court : Nat → Nat) (k_me_court : Nat → ClassId) (q_me_study : Nat → Nat) (k_me_study : Nat → ClassId) (o_me : Ob) (o_me_machine : Ob) (o_me_isles : Ob) (o_me_isles_now : Ob) (o_me_court : Ob) (o_me_study : Ob) (o_pool : List CR) (y : Int32 × Ob) (h : f_X8_canBe o_me o_me_machine o_me_isles o_me_isles_now o_me_court o_me_study o_pool = some y) : CI l yX8_canBe cX8_canBe 1 (some .int) ({ frames := 6, cells := 0, slots := 0, locals := 153 } : Room) dC dI sz [.ref h_me] [wX8 h_me h_me_reader h_me_machine h_me_isles h_me_court h_me_study h_me_paper h_me_paperCourt h_me_past h_me_pastAhead h_me_movingAhead q_me k_me o_me, wX3 h_me_machine q_me_machine k_me_machine o_me_machine, wX2 h_me_isles h_me_isles_now q_me_isles k_me_isles o_me_isles, wX4 h_me_isles_now q_me_isles_now k_me_isles_now o_me_isles_now, wX1 h_me_court h_me_isles h_me_machine q_me_court k_me_court o_me_court, wX7 h_me_study h_me_court h_me_isles q_me_study k_me_study o_me_study, wPL o_pool] [tX8 k_me, tX3 k_me_machine, tX2 k_me_isles, tX4 k_me_isles_now, tX1 k_me_court, tX7 k_me_study, tPL o_pool] y.1 [wX8 h_me h_me_reader h_me_machine h_me_isles h_me_court h_me_study h_me_paper h_me_paperCourt h_me_past h_me_pastAhead h_me_movingAhead q_me k_me o_me, wX3 h_me_machine q_me_machine k_me_machine y.2, wX2 h_me_isles h_me_isles_now q_me_isles k_me_isles o_me_isles, wX4 h_me_isles_now q_me_isles_now k_me_isles_now o_me_isles_now, wX1 h_me_court h_me_isles h_me_machine q_me_court k_me_court o_me_court, wX7 h_me_study h_me_court h_me_isles q_me_study k_me_study o_me_study, wPL o_pool] := by
  refine CC_of (by decide) (Nat.le_of_ble_eq_true rfl) ?_
  intro p e s m below meth c A ls hx hb hml hr hlk hnm hown hts hX hK hP hD hA hl
  have hl : lv_has ls 1 [(0, .ref h_me)] := hl
  have hown : s.vm.findClass RX8 = some m.cls := hown
  have hw : Wd dC dI A s.heap [wX8 h_me h_me_reader h_me_machine h_me_isles h_me_court h_me_study h_me_paper h_me_paperCourt h_me_past h_me_pastAhead h_me_movingAhead q_me k_me o_me, wX3 h_me_machine q_me_machine k_me_machine o_me_machine, wX2 h_me_isles h_me_isles_now q_me_isles k_me_isles o_me_isles, wX4 h_me_isles_now q_me_isles_now k_me_isles_now o_me_isles_now, wX1 h_me_court h_me_isles h_me_machine q_me_court k_me_court o_me_court, wX7 h_me_study h_me_court h_me_isles q_me_study k_me_study o_me_study, wPL o_pool] s.heap [] := ⟨hP, hD, va_S.rf⟩
  generalize hQz : (MQ below (QI dC dI (fun r (_ : Unit) => r = y.1) (fun _ => Jn [wX8 h_me h_me_reader h_me_machine h_me_isles h_me_court h_me_study h_me_paper h_me_paperCourt h_me_past h_me_pastAhead h_me_movingAhead q_me k_me o_me, wX3 h_me_machine q_me_machine k_me_machine y.2, wX2 h_me_isles h_me_isles_now q_me_isles k_me_isles o_me_isles, wX4 h_me_isles_now q_me_isles_now k_me_isles_now o_me_isles_now, wX1 h_me_court h_me_isles h_me_machine q_me_court k_me_court o_me_court, wX7 h_me_study h_me_court h_me_isles q_me_study k_me_study o_me_study, wPL o_pool]) (fun _ => Jt [tX8 k_me, tX3 k_me_machine, tX2 k_me_isles, tX4 k_me_isles_now, tX1 k_me_court, tX7 k_me_study, tPL o_pool]) A) ([.ref h_me] : List Value).toArray s 0 0 A) = Qz
  clear hP hD hnm
  unfold f_X8_canBe at h
  refine lv_aload_n hx hb dX8_canBe_0 rfl (lv_at hl 0 rfl) ?_
  refine fgX8_4 hx hb hts hown hK hw 0 rfl kw446 dX8_canBe_1 ?_
  obtain ⟨z1, ez1, h⟩ := z_bd h
  refine xj_i (xrV (As := []) (rest := []) ⟨hx, hb, hml, hown, hts⟩ (m_X7_suspects l dC dI _ h_me_study h_me_court h_me_isles h_me_machine h_me_isles_now q_me_study k_me_study q_me_court k_me_court q_me_isles k_me_isles q_me_isles_now k_me_isles_now q_me_machine k_me_machine o_me_study o_me_court o_me_isles o_me_isles_now o_me_machine o_pool z1 ez1) kw986 kw983 kw984 kw985 kw118 hd_X7_suspects ⟨rfl, rfl⟩ rfl rfl ⟨rfl, rfl⟩ hX hK hw [5, 4, 2, 3, 1, 6] (by decide) rfl rfl rfl rfl rfl hl.1 rfl rfl dX8_canBe_4) hw hA [5, 4, 2, 3, 1, 6] (by decide) rfl rfl (fun H locs hw => ?_)
  have hw : Wd dC dI A s.heap [wX8 h_me h_me_reader h_me_machine h_me_isles h_me_court h_me_study h_me_paper h_me_paperCourt h_me_past h_me_pastAhead h_me_movingAhead q_me k_me o_me, wX3 h_me_machine q_me_machine k_me_machine z1.2, wX2 h_me_isles h_me_isles_now q_me_isles k_me_isles o_me_isles, wX4 h_me_isles_now q_me_isles_now k_me_isles_now o_me_isles_now, wX1 h_me_court h_me_isles h_me_machine q_me_court k_me_court o_me_court, wX7 h_me_study h_me_court h_me_isles q_me_study k_me_study o_me_study, wPL o_pool] H locs := hw
  have hy := Option.some.inj h
  rw [← hQz, ← hy]
  exact xr_i (v := z1.1) hx hb hr rfl hlk hK hw dX8_canBe_7

def f_X4_set_O (o_me : Ob) (o_a0 : Ob) : Option (Ob) :=
  zgd (zcp (0 : Int32) (0 : Int32) (7 : Int32) 7 7) <|
  zlt (cA o_me 0 (gA o_a0 0) (0 : Int32) (0 : Int32) (7 : Int32)) fun o2 =>
  zgd (zcp (0 : Int32) (0 : Int32) (7 : Int32) 7 7) <|
  zlt (cA o2 1 (gA o_a0 1) (0 : Int32) (0 : Int32) (7 : Int32)) fun o4 =>
  zlt (sI o4 2 (gI o_a0 2)) fun o5 =>
  zlt (sI o5 3 (gI o_a0 3)) fun o6 =>
  zlt (sI o6 4 (gI o_a0 4)) fun o7 =>
  some o7
set_option maxHeartbeats 4000000 in
set_option maxRecDepth 100000 in
theorem m_X4_set_O (l : Launch) (dC : Nat → ClassId) (dI : Nat → Nat → Nat) (sz : Nat) (h_me : Nat) (h_a0 : Nat) (q_me : Nat → Nat) (k_me : Nat → ClassId) (q_a0 : Nat → Nat) (k_a0 : Nat → ClassId) (o_me : Ob) (o_a0 : Ob) (y : Ob) (h : f_X4_set_O o_me o_a0 = some y) : CV l yX4_set cX4_set 2 none ({ frames := 1, cells := 0, slots := 0, locals := 60 } : Room) dC dI sz [.ref h_me, .ref h_a0] [wX4 h_me q_me k_me o_me, wX4 h_a0 q_a0 k_a0 o_a0] [tX4 k_me, tX4 k_a0] [wX4 h_me q_me k_me y, wX4 h_a0 q_a0 k_a0 o_a0] := by
  refine CC_of (by decide) (Nat.le_of_ble_eq_true rfl) ?_
  intro p e s m below meth c A ls hx hb hml hr hlk hnm hown hts hX hK hP hD hA hl
  have hl : lv_has ls 2 [(0, .ref h_me), (1, .ref h_a0)] := hl
  have hown : s.vm.findClass RX4 = some m.cls := hown
  have hw : Wd dC dI A s.heap [wX4 h_me q_me k_me o_me, wX4 h_a0 q_a0 k_a0 o_a0] s.heap [] := ⟨hP, hD, va_S.rf⟩
  generalize hQz : (MQ below (QV dC dI (fun (_ : Unit) => True) (fun _ => Jn [wX4 h_me q_me k_me y, wX4 h_a0 q_a0 k_a0 o_a0]) (fun _ => Jt [tX4 k_me, tX4 k_a0]) A) ([.ref h_me, .ref h_a0] : List Value).toArray s 0 0 A) = Qz
  clear hP hD hnm
  unfold f_X4_set_O at h
  refine lv_aload_n hx hb dX4_set_0 rfl (lv_at hl 1 rfl) ?_
  refine fgX4_0 hx hb hts hown hK hw 1 rfl kw261 dX4_set_1 ?_
  refine lv_iconst (v := 0) hx hb dX4_set_4 (by decide) ?_
  refine lv_aload_n hx hb dX4_set_5 rfl (lv_at hl 0 rfl) ?_
  refine fgX4_0 hx hb hts hown hK hw 0 rfl kw261 dX4_set_6 ?_
  refine lv_iconst (v := 0) hx hb dX4_set_9 (by decide) ?_
  refine lv_bipush (v := 7) hx hb dX4_set_10 (by decide) ?_
  obtain ⟨g1, h⟩ := z_gd h
  refine xcopy (n0 := 1) (j0 := 1) (u0 := 0) (n1 := 0) (j1 := 1) (u1 := 0) hx hb (hml.trans hl.1.symm) hown hts kw826 kw812 kw811 kw125 hK hw rfl rfl rfl rfl rfl rfl rfl rfl g1 (Nat.le_of_ble_eq_true rfl) (Nat.le_of_ble_eq_true rfl) dX4_set_12 (fun H locs hw => ?_)
  obtain ⟨o2, eo2, h⟩ := z_lt h
  have hw : Wd dC dI A s.heap [wX4 h_me q_me k_me o2, wX4 h_a0 q_a0 k_a0 o_a0] H locs := by rw [eo2]; exact hw
  refine lv_aload_n hx hb dX4_set_15 rfl (lv_at hl 1 rfl) ?_
  refine fgX4_1 hx hb hts hown hK hw 1 rfl kw265 dX4_set_16 ?_
  refine lv_iconst (v := 0) hx hb dX4_set_19 (by decide) ?_
  refine lv_aload_n hx hb dX4_set_20 rfl (lv_at hl 0 rfl) ?_
  refine fgX4_1 hx hb hts hown hK hw 0 rfl kw265 dX4_set_21 ?_
  refine lv_iconst (v := 0) hx hb dX4_set_24 (by decide) ?_
  refine lv_bipush (v := 7) hx hb dX4_set_25 (by decide) ?_
  obtain ⟨g3, h⟩ := z_gd h
  refine xcopy (n0 := 1) (j0 := 2) (u0 := 1) (n1 := 0) (j1 := 2) (u1 := 1) hx hb (hml.trans hl.1.symm) hown hts kw826 kw812 kw811 kw125 hK hw rfl rfl rfl rfl rfl rfl rfl rfl g3 (Nat.le_of_ble_eq_true rfl) (Nat.le_of_ble_eq_true rfl) dX4_set_27 (fun H locs hw => ?_)
  obtain ⟨o4, eo4, h⟩ := z_lt h
  have hw : Wd dC dI A s.heap [wX4 h_me q_me k_me o4, wX4 h_a0 q_a0 k_a0 o_a0] H locs := by rw [eo4]; exact hw
  refine lv_aload_n hx hb dX4_set_30 rfl (lv_at hl 0 rfl) ?_
  refine lv_aload_n hx hb dX4_set_31 rfl (lv_at hl 1 rfl) ?_
  refine fgX4_2 hx hb hts hown hK hw 1 rfl kw268 dX4_set_32 ?_
  refine fpX4_2 hx hb hts hown hK hw 0 rfl kw268 dX4_set_35 (fun H locs hw => ?_)
  obtain ⟨o5, eo5, h⟩ := z_lt h
  have hw : Wd dC dI A s.heap [wX4 h_me q_me k_me o5, wX4 h_a0 q_a0 k_a0 o_a0] H locs := by rw [eo5]; exact hw
  refine lv_aload_n hx hb dX4_set_38 rfl (lv_at hl 0 rfl) ?_
  refine lv_aload_n hx hb dX4_set_39 rfl (lv_at hl 1 rfl) ?_
  refine fgX4_3 hx hb hts hown hK hw 1 rfl kw273 dX4_set_40 ?_
  refine fpX4_3 hx hb hts hown hK hw 0 rfl kw273 dX4_set_43 (fun H locs hw => ?_)
  obtain ⟨o6, eo6, h⟩ := z_lt h
  have hw : Wd dC dI A s.heap [wX4 h_me q_me k_me o6, wX4 h_a0 q_a0 k_a0 o_a0] H locs := by rw [eo6]; exact hw
  refine lv_aload_n hx hb dX4_set_46 rfl (lv_at hl 0 rfl) ?_
  refine lv_aload_n hx hb dX4_set_47 rfl (lv_at hl 1 rfl) ?_
  refine fgX4_4 hx hb hts hown hK hw 1 rfl kw277 dX4_set_48 ?_
  refine fpX4_4 hx hb hts hown hK hw 0 rfl kw277 dX4_set_51 (fun H locs hw => ?_)
  obtain ⟨o7, eo7, h⟩ := z_lt h
  have hw : Wd dC dI A s.heap [wX4 h_me q_me k_me o7, wX4 h_a0 q_a0 k_a0 o_a0] H locs := by rw [eo7]; exact hw
  have hy := Option.some.inj h
  rw [← hQz, ← hy]
  exact xr_v hx hb hr hlk hK hw dX4_set_54

def lb_X2_set_O_88 (o_pool : List CR) (o_a0 : Ob) (o_a0_now : Ob)  (rec_88_0 : Int32 × Ob × Ob → Option (Ob × Ob)) (v2 : Int32) (o_me : Ob) (o_me_now : Ob) : Option (Ob × Ob) :=
  if (6 : Int32) ≤ v2 then
  (zlt (sI o_me 7 (gI o_a0 7)) fun o12 =>
  zlt (sI o12 8 (gI o_a0 8)) fun o13 =>
  zlt (sI o13 9 (gI o_a0 9)) fun o14 =>
  zlt (sI o14 10 (gI o_a0 10)) fun o15 =>
  zlt (sI o15 11 (gI o_a0 11)) fun o16 =>
  zlt (sI o16 12 (gI o_a0 12)) fun o17 =>
  some (o17, o_me_now))
  else
  (zgd (zin v2 6) <|
  zgd (zpo o_pool (gR o_a0 6 v2.toNatClampNeg)) <|
  zgd (zin v2 6) <|
  zlt (tR o_me 6 v2.toNatClampNeg (gR o_a0 6 v2.toNatClampNeg)) fun o21 =>
  zlt (v2 + (1 : Int32)) fun x22 =>
  rec_88_0 (x22, o21, o_me_now))
def lp_X2_set_O_88 (o_pool : List CR) (o_a0 : Ob) (o_a0_now : Ob)  : Nat → (Int32 × Ob × Ob) → Option (Ob × Ob) := zit (fun rec a => lb_X2_set_O_88 o_pool o_a0 o_a0_now  rec a.1 a.2.1 a.2.2)
def f_X2_set_O (o_me : Ob) (o_me_now : Ob) (o_pool : List CR) (o_a0 : Ob) (o_a0_now : Ob) : Option (Ob × Ob) :=
  (f_X4_set_O o_me_now o_a0_now).bind fun z1 =>
  zgd (zcp (0 : Int32) (0 : Int32) (7 : Int32) 7 7) <|
  zlt (cA o_me 1 (gA o_a0 1) (0 : Int32) (0 : Int32) (7 : Int32)) fun o3 =>
  zgd (zcp (0 : Int32) (0 : Int32) (28 : Int32) 28 28) <|
  zlt (cA o3 2 (gA o_a0 2) (0 : Int32) (0 : Int32) (28 : Int32)) fun o5 =>
  zgd (zcp (0 : Int32) (0 : Int32) (7 : Int32) 7 7) <|
  zlt (cA o5 3 (gA o_a0 3) (0 : Int32) (0 : Int32) (7 : Int32)) fun o7 =>
  zgd (zcp (0 : Int32) (0 : Int32) (6 : Int32) 6 6) <|
  zlt (cA o7 4 (gA o_a0 4) (0 : Int32) (0 : Int32) (6 : Int32)) fun o9 =>
  zgd (zcp (0 : Int32) (0 : Int32) (6 : Int32) 6 6) <|
  zlt (cA o9 5 (gA o_a0 5) (0 : Int32) (0 : Int32) (6 : Int32)) fun o11 =>
  lp_X2_set_O_88 o_pool o_a0 o_a0_now  zfu ((0 : Int32), o11, z1)
set_option maxHeartbeats 4000000 in
set_option maxRecDepth 100000 in
theorem m_X2_set_O (l : Launch) (dC : Nat → ClassId) (dI : Nat → Nat → Nat) (sz : Nat) (h_me : Nat) (h_me_now : Nat) (h_a0 : Nat) (h_a0_now : Nat) (q_me : Nat → Nat) (k_me : Nat → ClassId) (q_me_now : Nat → Nat) (k_me_now : Nat → ClassId) (q_a0 : Nat → Nat) (k_a0 : Nat → ClassId) (q_a0_now : Nat → Nat) (k_a0_now : Nat → ClassId) (o_me : Ob) (o_me_now : Ob) (o_pool : List CR) (o_a0 : Ob) (o_a0_now : Ob) (y : Ob × Ob) (h : f_X2_set_O o_me o_me_now o_pool o_a0 o_a0_now = some y) : CV l yX2_set cX2_set 3 none ({ frames := 2, cells := 0, slots := 0, locals := 81 } : Room) dC dI sz [.ref h_me, .ref h_a0] [wX2 h_me h_me_now q_me k_me o_me, wX4 h_me_now q_me_now k_me_now o_me_now, wPL o_pool, wX2 h_a0 h_a0_now q_a0 k_a0 o_a0, wX4 h_a0_now q_a0_now k_a0_now o_a0_now] [tX2 k_me, tX4 k_me_now, tPL o_pool, tX2 k_a0, tX4 k_a0_now] [wX2 h_me h_me_now q_me k_me y.1, wX4 h_me_now q_me_now k_me_now y.2, wPL o_pool, wX2 h_a0 h_a0_now q_a0 k_a0 o_a0, wX4 h_a0_now q_a0_now k_a0_now o_a0_now] := by
  refine CC_of (by decide) (Nat.le_of_ble_eq_true rfl) ?_
  intro p e s m below meth c A ls hx hb hml hr hlk hnm hown hts hX hK hP hD hA hl
  have hl : lv_has ls 3 [(0, .ref h_me), (1, .ref h_a0)] := hl
  have hown : s.vm.findClass RX2 = some m.cls := hown
  have hw : Wd dC dI A s.heap [wX2 h_me h_me_now q_me k_me o_me, wX4 h_me_now q_me_now k_me_now o_me_now, wPL o_pool, wX2 h_a0 h_a0_now q_a0 k_a0 o_a0, wX4 h_a0_now q_a0_now k_a0_now o_a0_now] s.heap [] := ⟨hP, hD, va_S.rf⟩
  generalize hQz : (MQ below (QV dC dI (fun (_ : Unit) => True) (fun _ => Jn [wX2 h_me h_me_now q_me k_me y.1, wX4 h_me_now q_me_now k_me_now y.2, wPL o_pool, wX2 h_a0 h_a0_now q_a0 k_a0 o_a0, wX4 h_a0_now q_a0_now k_a0_now o_a0_now]) (fun _ => Jt [tX2 k_me, tX4 k_me_now, tPL o_pool, tX2 k_a0, tX4 k_a0_now]) A) ([.ref h_me, .ref h_a0] : List Value).toArray s 0 0 A) = Qz
  clear hP hD hnm
  have lp_88_0 : ∀ (N : Nat), ∀ (v2 : Int32) (o_me : Ob) (o_me_now : Ob) (H : Heap) (locs : List Loc) (ls : Array Slot), lp_X2_set_O_88 o_pool o_a0 o_a0_now  N (v2, o_me, o_me_now) = some y → Wd dC dI A s.heap [wX2 h_me h_me_now q_me k_me o_me, wX4 h_me_now q_me_now k_me_now o_me_now, wPL o_pool, wX2 h_a0 h_a0_now q_a0 k_a0 o_a0, wX4 h_a0_now q_a0_now k_a0_now o_a0_now] H locs → lv_has ls 3 [(0, .ref h_me), (1, .ref h_a0), (2, .int v2)] → W p l e ({ frames := 2, cells := 0, slots := 0, locals := 81 } : Room) s m ([.ref h_me, .ref h_a0] : List Value).toArray below meth c H locs 0 0 Qz (F0 m 88 ls []) := by
    intro N
    induction N with
    | zero =>
      intro v2 o_me o_me_now H locs ls h hw hl
      exact absurd (show (none : Option (Ob × Ob)) = some y from h) (by simp)
    | succ N ih =>
      intro v2 o_me o_me_now H locs ls h hw hl
      have h : lb_X2_set_O_88 o_pool o_a0 o_a0_now  (lp_X2_set_O_88 o_pool o_a0 o_a0_now  N) v2 o_me o_me_now = some y := h
      unfold lb_X2_set_O_88 at h
      refine lv_iload_n hx hb dX2_set_88 rfl (lv_at hl 2 rfl) ?_
      refine lv_bipush (v := 6) hx hb dX2_set_89 (by decide) ?_
      refine lv_icmp_ge (tgt := 112) hx hb dX2_set_91 (by decide) (fun c => ?_) (fun c => ?_)
      · have h := z_t h c
        refine lv_aload_n hx hb dX2_set_112 rfl (lv_at hl 0 rfl) ?_
        refine lv_aload_n hx hb dX2_set_113 rfl (lv_at hl 1 rfl) ?_
        refine fgX2_7 hx hb hts hown hK hw 3 rfl kw315 dX2_set_114 ?_
        refine fpX2_7 hx hb hts hown hK hw 0 rfl kw315 dX2_set_117 (fun H locs hw => ?_)
        obtain ⟨o12, eo12, h⟩ := z_lt h
        have hw : Wd dC dI A s.heap [wX2 h_me h_me_now q_me k_me o12, wX4 h_me_now q_me_now k_me_now o_me_now, wPL o_pool, wX2 h_a0 h_a0_now q_a0 k_a0 o_a0, wX4 h_a0_now q_a0_now k_a0_now o_a0_now] H locs := by rw [eo12]; exact hw
        refine lv_aload_n hx hb dX2_set_120 rfl (lv_at hl 0 rfl) ?_
        refine lv_aload_n hx hb dX2_set_121 rfl (lv_at hl 1 rfl) ?_
        refine fgX2_8 hx hb hts hown hK hw 3 rfl kw319 dX2_set_122 ?_
        refine fpX2_8 hx hb hts hown hK hw 0 rfl kw319 dX2_set_125 (fun H locs hw => ?_)
        obtain ⟨o13, eo13, h⟩ := z_lt h
        have hw : Wd dC dI A s.heap [wX2 h_me h_me_now q_me k_me o13, wX4 h_me_now q_me_now k_me_now o_me_now, wPL o_pool, wX2 h_a0 h_a0_now q_a0 k_a0 o_a0, wX4 h_a0_now q_a0_now k_a0_now o_a0_now] H locs := by rw [eo13]; exact hw
        refine lv_aload_n hx hb dX2_set_128 rfl (lv_at hl 0 rfl) ?_
        refine lv_aload_n hx hb dX2_set_129 rfl (lv_at hl 1 rfl) ?_
        refine fgX2_9 hx hb hts hown hK hw 3 rfl kw322 dX2_set_130 ?_
        refine fpX2_9 hx hb hts hown hK hw 0 rfl kw322 dX2_set_133 (fun H locs hw => ?_)
        obtain ⟨o14, eo14, h⟩ := z_lt h
        have hw : Wd dC dI A s.heap [wX2 h_me h_me_now q_me k_me o14, wX4 h_me_now q_me_now k_me_now o_me_now, wPL o_pool, wX2 h_a0 h_a0_now q_a0 k_a0 o_a0, wX4 h_a0_now q_a0_now k_a0_now o_a0_now] H locs := by rw [eo14]; exact hw
        refine lv_aload_n hx hb dX2_set_136 rfl (lv_at hl 0 rfl) ?_
        refine lv_aload_n hx hb dX2_set_137 rfl (lv_at hl 1 rfl) ?_
        refine fgX2_10 hx hb hts hown hK hw 3 rfl kw324 dX2_set_138 ?_
        refine fpX2_10 hx hb hts hown hK hw 0 rfl kw324 dX2_set_141 (fun H locs hw => ?_)
        obtain ⟨o15, eo15, h⟩ := z_lt h
        have hw : Wd dC dI A s.heap [wX2 h_me h_me_now q_me k_me o15, wX4 h_me_now q_me_now k_me_now o_me_now, wPL o_pool, wX2 h_a0 h_a0_now q_a0 k_a0 o_a0, wX4 h_a0_now q_a0_now k_a0_now o_a0_now] H locs := by rw [eo15]; exact hw
        refine lv_aload_n hx hb dX2_set_144 rfl (lv_at hl 0 rfl) ?_
        refine lv_aload_n hx hb dX2_set_145 rfl (lv_at hl 1 rfl) ?_
        refine fgX2_11 hx hb hts hown hK hw 3 rfl kw326 dX2_set_146 ?_
        refine fpX2_11 hx hb hts hown hK hw 0 rfl kw326 dX2_set_149 (fun H locs hw => ?_)
        obtain ⟨o16, eo16, h⟩ := z_lt h
        have hw : Wd dC dI A s.heap [wX2 h_me h_me_now q_me k_me o16, wX4 h_me_now q_me_now k_me_now o_me_now, wPL o_pool, wX2 h_a0 h_a0_now q_a0 k_a0 o_a0, wX4 h_a0_now q_a0_now k_a0_now o_a0_now] H locs := by rw [eo16]; exact hw
        refine lv_aload_n hx hb dX2_set_152 rfl (lv_at hl 0 rfl) ?_
        refine lv_aload_n hx hb dX2_set_153 rfl (lv_at hl 1 rfl) ?_
        refine fgX2_12 hx hb hts hown hK hw 3 rfl kw328 dX2_set_154 ?_
        refine fpX2_12 hx hb hts hown hK hw 0 rfl kw328 dX2_set_157 (fun H locs hw => ?_)
        obtain ⟨o17, eo17, h⟩ := z_lt h
        have hw : Wd dC dI A s.heap [wX2 h_me h_me_now q_me k_me o17, wX4 h_me_now q_me_now k_me_now o_me_now, wPL o_pool, wX2 h_a0 h_a0_now q_a0 k_a0 o_a0, wX4 h_a0_now q_a0_now k_a0_now o_a0_now] H locs := by rw [eo17]; exact hw
        have hy := Option.some.inj h
        rw [← hQz, ← hy]
        exact xr_v hx hb hr hlk hK hw dX2_set_160
      · have h := z_f h c
        refine lv_aload_n hx hb dX2_set_94 rfl (lv_at hl 0 rfl) ?_
        refine fgX2_6 hx hb hts hown hK hw 0 rfl kw314 dX2_set_95 ?_
        refine lv_iload_n hx hb dX2_set_98 rfl (lv_at hl 2 rfl) ?_
        refine lv_aload_n hx hb dX2_set_99 rfl (lv_at hl 1 rfl) ?_
        refine fgX2_6 hx hb hts hown hK hw 3 rfl kw314 dX2_set_100 ?_
        refine lv_iload_n hx hb dX2_set_103 rfl (lv_at hl 2 rfl) ?_
        obtain ⟨g18, h⟩ := z_gd h
        refine faX2_6 hx hb hK hw 3 rfl rfl g18 dX2_set_104 ?_
        obtain ⟨g19, h⟩ := z_gd h
        obtain ⟨g20, h⟩ := z_gd h
        refine fbX2q (n := 0) (np := 2) hx hb hK hw rfl rfl rfl g19 g20 dX2_set_105 (fun H locs hw => ?_)
        obtain ⟨o21, eo21, h⟩ := z_lt h
        have hw : Wd dC dI A s.heap [wX2 h_me h_me_now q_me k_me o21, wX4 h_me_now q_me_now k_me_now o_me_now, wPL o_pool, wX2 h_a0 h_a0_now q_a0 k_a0 o_a0, wX4 h_a0_now q_a0_now k_a0_now o_a0_now] H locs := by rw [eo21]; exact hw
        obtain ⟨x22, ex22, h⟩ := z_lt h
        refine lv_iinc (v := x22) (lv' := [(2, .int x22), (0, .ref h_me), (1, .ref h_a0)]) hx hb dX2_set_106 hl (k := 2) rfl ((congrArg (v2 + ·) (show Int32.ofInt 1 = (1 : Int32) from by decide)).trans ex22.symm) (by decide) rfl (fun ls hl => ?_)
        refine lv_goto (tgt := 88) hx hb dX2_set_109 (by decide) ?_
        exact ih x22 o21 o_me_now _ _ _ h hw (lv_sub hl [1, 2, 0] rfl)
  unfold f_X2_set_O at h
  refine lv_aload_n hx hb dX2_set_0 rfl (lv_at hl 0 rfl) ?_
  refine fgX2_0 hx hb hts hown hK hw 0 rfl kw295 dX2_set_1 ?_
  refine lv_aload_n hx hb dX2_set_4 rfl (lv_at hl 1 rfl) ?_
  refine fgX2_0 hx hb hts hown hK hw 3 rfl kw295 dX2_set_5 ?_
  obtain ⟨z1, ez1, h⟩ := z_bd h
  refine xj_v (xrV (As := [.ref h_a0_now]) (rest := []) ⟨hx, hb, hml, hown, hts⟩ (m_X4_set_O l dC dI _ h_me_now h_a0_now q_me_now k_me_now q_a0_now k_a0_now o_me_now o_a0_now z1 ez1) kw825 kw1119 kw823 kw824 kw116 hd_X4_set ⟨rfl, rfl⟩ rfl rfl ⟨rfl, rfl⟩ hX hK hw [1, 4] (by decide) rfl rfl rfl rfl rfl hl.1 rfl rfl dX2_set_8) hw hA [1, 4] (by decide) rfl rfl (fun H locs hw => ?_)
  have hw : Wd dC dI A s.heap [wX2 h_me h_me_now q_me k_me o_me, wX4 h_me_now q_me_now k_me_now z1, wPL o_pool, wX2 h_a0 h_a0_now q_a0 k_a0 o_a0, wX4 h_a0_now q_a0_now k_a0_now o_a0_now] H locs := hw
  refine lv_aload_n hx hb dX2_set_11 rfl (lv_at hl 1 rfl) ?_
  refine fgX2_1 hx hb hts hown hK hw 3 rfl kw300 dX2_set_12 ?_
  refine lv_iconst (v := 0) hx hb dX2_set_15 (by decide) ?_
  refine lv_aload_n hx hb dX2_set_16 rfl (lv_at hl 0 rfl) ?_
  refine fgX2_1 hx hb hts hown hK hw 0 rfl kw300 dX2_set_17 ?_
  refine lv_iconst (v := 0) hx hb dX2_set_20 (by decide) ?_
  refine lv_bipush (v := 7) hx hb dX2_set_21 (by decide) ?_
  obtain ⟨g2, h⟩ := z_gd h
  refine xcopy (n0 := 3) (j0 := 1) (u0 := 0) (n1 := 0) (j1 := 1) (u1 := 0) hx hb (hml.trans hl.1.symm) hown hts kw1120 kw812 kw811 kw125 hK hw rfl rfl rfl rfl rfl rfl rfl rfl g2 (Nat.le_of_ble_eq_true rfl) (Nat.le_of_ble_eq_true rfl) dX2_set_23 (fun H locs hw => ?_)
  obtain ⟨o3, eo3, h⟩ := z_lt h
  have hw : Wd dC dI A s.heap [wX2 h_me h_me_now q_me k_me o3, wX4 h_me_now q_me_now k_me_now z1, wPL o_pool, wX2 h_a0 h_a0_now q_a0 k_a0 o_a0, wX4 h_a0_now q_a0_now k_a0_now o_a0_now] H locs := by rw [eo3]; exact hw
  refine lv_aload_n hx hb dX2_set_26 rfl (lv_at hl 1 rfl) ?_
  refine fgX2_2 hx hb hts hown hK hw 3 rfl kw303 dX2_set_27 ?_
  refine lv_iconst (v := 0) hx hb dX2_set_30 (by decide) ?_
  refine lv_aload_n hx hb dX2_set_31 rfl (lv_at hl 0 rfl) ?_
  refine fgX2_2 hx hb hts hown hK hw 0 rfl kw303 dX2_set_32 ?_
  refine lv_iconst (v := 0) hx hb dX2_set_35 (by decide) ?_
  refine lv_bipush (v := 28) hx hb dX2_set_36 (by decide) ?_
  obtain ⟨g4, h⟩ := z_gd h
  refine xcopy (n0 := 3) (j0 := 2) (u0 := 1) (n1 := 0) (j1 := 2) (u1 := 1) hx hb (hml.trans hl.1.symm) hown hts kw1120 kw812 kw811 kw125 hK hw rfl rfl rfl rfl rfl rfl rfl rfl g4 (Nat.le_of_ble_eq_true rfl) (Nat.le_of_ble_eq_true rfl) dX2_set_38 (fun H locs hw => ?_)
  obtain ⟨o5, eo5, h⟩ := z_lt h
  have hw : Wd dC dI A s.heap [wX2 h_me h_me_now q_me k_me o5, wX4 h_me_now q_me_now k_me_now z1, wPL o_pool, wX2 h_a0 h_a0_now q_a0 k_a0 o_a0, wX4 h_a0_now q_a0_now k_a0_now o_a0_now] H locs := by rw [eo5]; exact hw
  refine lv_aload_n hx hb dX2_set_41 rfl (lv_at hl 1 rfl) ?_
  refine fgX2_3 hx hb hts hown hK hw 3 rfl kw307 dX2_set_42 ?_
  refine lv_iconst (v := 0) hx hb dX2_set_45 (by decide) ?_
  refine lv_aload_n hx hb dX2_set_46 rfl (lv_at hl 0 rfl) ?_
  refine fgX2_3 hx hb hts hown hK hw 0 rfl kw307 dX2_set_47 ?_
  refine lv_iconst (v := 0) hx hb dX2_set_50 (by decide) ?_
  refine lv_bipush (v := 7) hx hb dX2_set_51 (by decide) ?_
  obtain ⟨g6, h⟩ := z_gd h
  refine xcopy (n0 := 3) (j0 := 3) (u0 := 2) (n1 := 0) (j1 := 3) (u1 := 2) hx hb (hml.trans hl.1.symm) hown hts kw1120 kw812 kw811 kw125 hK hw rfl rfl rfl rfl rfl rfl rfl rfl g6 (Nat.le_of_ble_eq_true rfl) (Nat.le_of_ble_eq_true rfl) dX2_set_53 (fun H locs hw => ?_)
  obtain ⟨o7, eo7, h⟩ := z_lt h
  have hw : Wd dC dI A s.heap [wX2 h_me h_me_now q_me k_me o7, wX4 h_me_now q_me_now k_me_now z1, wPL o_pool, wX2 h_a0 h_a0_now q_a0 k_a0 o_a0, wX4 h_a0_now q_a0_now k_a0_now o_a0_now] H locs := by rw [eo7]; exact hw
  refine lv_aload_n hx hb dX2_set_56 rfl (lv_at hl 1 rfl) ?_
  refine fgX2_4 hx hb hts hown hK hw 3 rfl kw310 dX2_set_57 ?_
  refine lv_iconst (v := 0) hx hb dX2_set_60 (by decide) ?_
  refine lv_aload_n hx hb dX2_set_61 rfl (lv_at hl 0 rfl) ?_
  refine fgX2_4 hx hb hts hown hK hw 0 rfl kw310 dX2_set_62 ?_
  refine lv_iconst (v := 0) hx hb dX2_set_65 (by decide) ?_
  refine lv_bipush (v := 6) hx hb dX2_set_66 (by decide) ?_
  obtain ⟨g8, h⟩ := z_gd h
  refine xcopy (n0 := 3) (j0 := 4) (u0 := 3) (n1 := 0) (j1 := 4) (u1 := 3) hx hb (hml.trans hl.1.symm) hown hts kw1120 kw812 kw811 kw125 hK hw rfl rfl rfl rfl rfl rfl rfl rfl g8 (Nat.le_of_ble_eq_true rfl) (Nat.le_of_ble_eq_true rfl) dX2_set_68 (fun H locs hw => ?_)
  obtain ⟨o9, eo9, h⟩ := z_lt h
  have hw : Wd dC dI A s.heap [wX2 h_me h_me_now q_me k_me o9, wX4 h_me_now q_me_now k_me_now z1, wPL o_pool, wX2 h_a0 h_a0_now q_a0 k_a0 o_a0, wX4 h_a0_now q_a0_now k_a0_now o_a0_now] H locs := by rw [eo9]; exact hw
  refine lv_aload_n hx hb dX2_set_71 rfl (lv_at hl 1 rfl) ?_
  refine fgX2_5 hx hb hts hown hK hw 3 rfl kw312 dX2_set_72 ?_
  refine lv_iconst (v := 0) hx hb dX2_set_75 (by decide) ?_
  refine lv_aload_n hx hb dX2_set_76 rfl (lv_at hl 0 rfl) ?_
  refine fgX2_5 hx hb hts hown hK hw 0 rfl kw312 dX2_set_77 ?_
  refine lv_iconst (v := 0) hx hb dX2_set_80 (by decide) ?_
  refine lv_bipush (v := 6) hx hb dX2_set_81 (by decide) ?_
  obtain ⟨g10, h⟩ := z_gd h
  refine xcopy (n0 := 3) (j0 := 5) (u0 := 4) (n1 := 0) (j1 := 5) (u1 := 4) hx hb (hml.trans hl.1.symm) hown hts kw1120 kw812 kw811 kw125 hK hw rfl rfl rfl rfl rfl rfl rfl rfl g10 (Nat.le_of_ble_eq_true rfl) (Nat.le_of_ble_eq_true rfl) dX2_set_83 (fun H locs hw => ?_)
  obtain ⟨o11, eo11, h⟩ := z_lt h
  have hw : Wd dC dI A s.heap [wX2 h_me h_me_now q_me k_me o11, wX4 h_me_now q_me_now k_me_now z1, wPL o_pool, wX2 h_a0 h_a0_now q_a0 k_a0 o_a0, wX4 h_a0_now q_a0_now k_a0_now o_a0_now] H locs := by rw [eo11]; exact hw
  refine lv_iconst (v := 0) hx hb dX2_set_86 (by decide) ?_
  refine lv_istore_n (lv' := [(2, .int (0 : Int32)), (0, .ref h_me), (1, .ref h_a0)]) hx hb dX2_set_87 rfl hl (by decide) rfl (fun ls hl => ?_)
  exact lp_88_0  zfu (0 : Int32) o11 z1 _ _ _ h hw (lv_sub hl [1, 2, 0] rfl)

def f_X8_nextDraw (p0 : Int32) : Option (Int32) :=
  some ((((p0.toInt64 * (1103 : Int64)) + (12345 : Int64)) - ((p0.toInt64 * (1103 : Int64)) + (12345 : Int64)) / (1000003 : Int64) * (1000003 : Int64)).toInt32)
set_option maxHeartbeats 4000000 in
set_option maxRecDepth 100000 in
theorem m_X8_nextDraw (l : Launch) (dC : Nat → ClassId) (dI : Nat → Nat → Nat) (sz : Nat)  (p0 : Int32) (y : Int32) (h : f_X8_nextDraw p0 = some y) : CI l yX8_nextDraw cX8_nextDraw 1 (some .int) ({ frames := 0, cells := 0, slots := 0, locals := 0 } : Room) dC dI sz [.int p0] [] [] y [] := by
  refine CC_of (by decide) (Nat.le_of_ble_eq_true rfl) ?_
  intro p e s m below meth c A ls hx hb hml hr hlk hnm hown hts hX hK hP hD hA hl
  have hl : lv_has ls 1 [(0, .int p0)] := hl
  have hown : s.vm.findClass RX8 = some m.cls := hown
  have hw : Wd dC dI A s.heap [] s.heap [] := ⟨hP, hD, va_S.rf⟩
  generalize hQz : (MQ below (QI dC dI (fun r (_ : Unit) => r = y) (fun _ => Jn []) (fun _ => Jt []) A) ([.int p0] : List Value).toArray s 0 0 A) = Qz
  clear hP hD hnm
  unfold f_X8_nextDraw at h
  refine lv_iload_n hx hb dX8_nextDraw_0 rfl (lv_at hl 0 rfl) ?_
  refine lv_i2l hx hb dX8_nextDraw_1 rfl ?_
  refine lv_ldc2 (v := 1103) hx hb hown (hts _ kw1124) dX8_nextDraw_2 ?_
  refine lv_lmul hx hb dX8_nextDraw_5 ?_
  refine lv_ldc2 (v := 12345) hx hb hown (hts _ kw1125) dX8_nextDraw_6 ?_
  refine lv_ladd hx hb dX8_nextDraw_9 ?_
  refine lv_ldc2 (v := 1000003) hx hb hown (hts _ kw1126) dX8_nextDraw_10 ?_
  refine lv_lrem hx hb dX8_nextDraw_13 (by decide) ?_
  refine lv_l2i hx hb dX8_nextDraw_14 rfl ?_
  have hy := Option.some.inj h
  rw [← hQz, ← hy]
  exact xr_i (v := (((p0.toInt64 * (1103 : Int64)) + (12345 : Int64)) - ((p0.toInt64 * (1103 : Int64)) + (12345 : Int64)) / (1000003 : Int64) * (1000003 : Int64)).toInt32) hx hb hr rfl hlk hK hw dX8_nextDraw_15

def f_X1_at (o_me : Ob) (p0 : Int32) : Option (Int32) :=
  if p0 < (1 : Int32) then
  (some (-1 : Int32))
  else
  (if (gI o_me 4) < p0 then
  (some (-1 : Int32))
  else
  (zgd (zin (p0 - (1 : Int32)) 7) <|
  some (gA o_me 2 (p0 - (1 : Int32)).toNatClampNeg)))
set_option maxHeartbeats 4000000 in
set_option maxRecDepth 100000 in
theorem m_X1_at (l : Launch) (dC : Nat → ClassId) (dI : Nat → Nat → Nat) (sz : Nat) (h_me : Nat) (h_me_isles : Nat) (h_me_machine : Nat) (q_me : Nat → Nat) (k_me : Nat → ClassId) (o_me : Ob) (p0 : Int32) (y : Int32) (h : f_X1_at o_me p0 = some y) : CI l yX1_at cX1_at 2 (some .int) ({ frames := 0, cells := 0, slots := 0, locals := 0 } : Room) dC dI sz [.ref h_me, .int p0] [wX1 h_me h_me_isles h_me_machine q_me k_me o_me] [tX1 k_me] y [wX1 h_me h_me_isles h_me_machine q_me k_me o_me] := by
  refine CC_of (by decide) (Nat.le_of_ble_eq_true rfl) ?_
  intro p e s m below meth c A ls hx hb hml hr hlk hnm hown hts hX hK hP hD hA hl
  have hl : lv_has ls 2 [(0, .ref h_me), (1, .int p0)] := hl
  have hown : s.vm.findClass RX1 = some m.cls := hown
  have hw : Wd dC dI A s.heap [wX1 h_me h_me_isles h_me_machine q_me k_me o_me] s.heap [] := ⟨hP, hD, va_S.rf⟩
  generalize hQz : (MQ below (QI dC dI (fun r (_ : Unit) => r = y) (fun _ => Jn [wX1 h_me h_me_isles h_me_machine q_me k_me o_me]) (fun _ => Jt [tX1 k_me]) A) ([.ref h_me, .int p0] : List Value).toArray s 0 0 A) = Qz
  clear hP hD hnm
  unfold f_X1_at at h
  refine lv_iload_n hx hb dX1_at_0 rfl (lv_at hl 1 rfl) ?_
  refine lv_iconst (v := 1) hx hb dX1_at_1 (by decide) ?_
  refine lv_icmp_lt (tgt := 24) hx hb dX1_at_2 (by decide) (fun c => ?_) (fun c => ?_)
  · have h := z_t h c
    refine lv_iconst (v := (-1)) hx hb dX1_at_24 (by decide) ?_
    have hy := Option.some.inj h
    rw [← hQz, ← hy]
    exact xr_i (v := (-1 : Int32)) hx hb hr rfl hlk hK hw dX1_at_25
  · have h := z_f h c
    refine lv_iload_n hx hb dX1_at_5 rfl (lv_at hl 1 rfl) ?_
    refine lv_aload_n hx hb dX1_at_6 rfl (lv_at hl 0 rfl) ?_
    refine fgX1_4 hx hb hts hown hK hw 0 rfl kw368 dX1_at_7 ?_
    refine lv_icmp_gt (tgt := 24) hx hb dX1_at_10 (by decide) (fun c => ?_) (fun c => ?_)
    · have h := z_t h c
      refine lv_iconst (v := (-1)) hx hb dX1_at_24 (by decide) ?_
      have hy := Option.some.inj h
      rw [← hQz, ← hy]
      exact xr_i (v := (-1 : Int32)) hx hb hr rfl hlk hK hw dX1_at_25
    · have h := z_f h c
      refine lv_aload_n hx hb dX1_at_13 rfl (lv_at hl 0 rfl) ?_
      refine fgX1_2 hx hb hts hown hK hw 0 rfl kw366 dX1_at_14 ?_
      refine lv_iload_n hx hb dX1_at_17 rfl (lv_at hl 1 rfl) ?_
      refine lv_iconst (v := 1) hx hb dX1_at_18 (by decide) ?_
      refine lv_isub hx hb dX1_at_19 ?_
      obtain ⟨g1, h⟩ := z_gd h
      refine faX1_2 hx hb hK hw 0 rfl rfl g1 dX1_at_20 ?_
      refine lv_goto (tgt := 25) hx hb dX1_at_21 (by decide) ?_
      have hy := Option.some.inj h
      rw [← hQz, ← hy]
      exact xr_i (v := gA o_me 2 (p0 - (1 : Int32)).toNatClampNeg) hx hb hr rfl hlk hK hw dX1_at_25

def f_X1_wins_Q (o_me : Ob) (o_me_isles : Ob) (o_me_isles_now : Ob) (o_me_machine : Ob) (o_pool : List CR) (p0 : Option Nat) (p1 : Int32) (p2 : Int32) (p3 : Int32) : Option (Int32 × Ob) :=
  (zop p0 o_pool ((f_X1_told_N o_me (2 : Int32) p1 p2 p3).map (fun v => (v, o_me_machine))) (fun cr => f_X1_told_O cr.2.2.2.1 cr.2.2.2.2.1 o_me o_me_isles o_me_isles_now o_me_machine cr.2.2.2.2.2 (2 : Int32) p1 p2 p3)).bind fun z1 =>
  if (lg_cmp z1.1 (-9000000000000000000 : Int64)) = (0 : Int32) then
  (some ((4 : Int32) - p3, z1.2))
  else
  ((f_X1_nearest z1.1 (9 : Int32)).bind fun z2 =>
  some (z2, z1.2))
set_option maxHeartbeats 4000000 in
set_option maxRecDepth 100000 in
theorem m_X1_wins_Q (l : Launch) (dC : Nat → ClassId) (dI : Nat → Nat → Nat) (sz : Nat) (h_me : Nat) (h_me_isles : Nat) (h_me_machine : Nat) (h_me_isles_now : Nat) (q_me : Nat → Nat) (k_me : Nat → ClassId) (q_me_isles : Nat → Nat) (k_me_isles : Nat → ClassId) (q_me_isles_now : Nat → Nat) (k_me_isles_now : Nat → ClassId) (q_me_machine : Nat → Nat) (k_me_machine : Nat → ClassId) (o_me : Ob) (o_me_isles : Ob) (o_me_isles_now : Ob) (o_me_machine : Ob) (o_pool : List CR) (p0 : Option Nat) (p1 : Int32) (p2 : Int32) (p3 : Int32) (y : Int32 × Ob) (h : f_X1_wins_Q o_me o_me_isles o_me_isles_now o_me_machine o_pool p0 p1 p2 p3 = some y) : CI l yX1_wins cX1_wins 7 (some .int) ({ frames := 3, cells := 0, slots := 0, locals := 84 } : Room) dC dI sz [.ref h_me, va_rf p0, .int p1, .int p2, .int p3] [wX1 h_me h_me_isles h_me_machine q_me k_me o_me, wX2 h_me_isles h_me_isles_now q_me_isles k_me_isles o_me_isles, wX4 h_me_isles_now q_me_isles_now k_me_isles_now o_me_isles_now, wX3 h_me_machine q_me_machine k_me_machine o_me_machine, wPL o_pool] [tX1 k_me, tX2 k_me_isles, tX4 k_me_isles_now, tX3 k_me_machine, tPL o_pool] y.1 [wX1 h_me h_me_isles h_me_machine q_me k_me o_me, wX2 h_me_isles h_me_isles_now q_me_isles k_me_isles o_me_isles, wX4 h_me_isles_now q_me_isles_now k_me_isles_now o_me_isles_now, wX3 h_me_machine q_me_machine k_me_machine y.2, wPL o_pool] := by
  refine CC_of (by decide) (by cases p0 <;> exact Nat.le_of_ble_eq_true rfl) ?_
  intro p e s m below meth c A ls hx hb hml hr hlk hnm hown hts hX hK hP hD hA hl
  have hl : lv_has ls 7 [(0, .ref h_me), (1, va_rf p0), (2, .int p1), (3, .int p2), (4, .int p3)] := by
    have e9 : lv_args 0 [.ref h_me, va_rf p0, .int p1, .int p2, .int p3] = [(0, .ref h_me), (1, va_rf p0), (2, .int p1), (3, .int p2), (4, .int p3)] := by cases p0 <;> rfl
    rw [← e9]; exact hl
  have hown : s.vm.findClass RX1 = some m.cls := hown
  have hw : Wd dC dI A s.heap [wX1 h_me h_me_isles h_me_machine q_me k_me o_me, wX2 h_me_isles h_me_isles_now q_me_isles k_me_isles o_me_isles, wX4 h_me_isles_now q_me_isles_now k_me_isles_now o_me_isles_now, wX3 h_me_machine q_me_machine k_me_machine o_me_machine, wPL o_pool] s.heap [] := ⟨hP, hD, va_S.rf⟩
  generalize hQz : (MQ below (QI dC dI (fun r (_ : Unit) => r = y.1) (fun _ => Jn [wX1 h_me h_me_isles h_me_machine q_me k_me o_me, wX2 h_me_isles h_me_isles_now q_me_isles k_me_isles o_me_isles, wX4 h_me_isles_now q_me_isles_now k_me_isles_now o_me_isles_now, wX3 h_me_machine q_me_machine k_me_machine y.2, wPL o_pool]) (fun _ => Jt [tX1 k_me, tX2 k_me_isles, tX4 k_me_isles_now, tX3 k_me_machine, tPL o_pool]) A) ([.ref h_me, va_rf p0, .int p1, .int p2, .int p3] : List Value).toArray s 0 0 A) = Qz
  clear hP hD hnm
  unfold f_X1_wins_Q at h
  refine lv_aload_n hx hb dX1_wins_0 rfl (lv_at hl 0 rfl) ?_
  refine xaload_n hx hb dX1_wins_1 rfl (lv_at hl 1 rfl) ?_
  refine lv_iconst (v := 2) hx hb dX1_wins_2 (by decide) ?_
  refine lv_iload_n hx hb dX1_wins_3 rfl (lv_at hl 2 rfl) ?_
  refine lv_iload_n hx hb dX1_wins_4 rfl (lv_at hl 3 rfl) ?_
  refine lv_iload hx hb dX1_wins_5 (lv_at hl 4 rfl) ?_
  obtain ⟨z1, ez1, h⟩ := z_bd h
  have kk9 : ∀ (H : Heap) (locs : List Loc), Wd dC dI A s.heap [wX1 h_me h_me_isles h_me_machine q_me k_me o_me, wX2 h_me_isles h_me_isles_now q_me_isles k_me_isles o_me_isles, wX4 h_me_isles_now q_me_isles_now k_me_isles_now o_me_isles_now, wX3 h_me_machine q_me_machine k_me_machine z1.2, wPL o_pool] H locs → W p l e ({ frames := 3, cells := 0, slots := 0, locals := 84 } : Room) s m ([.ref h_me, va_rf p0, .int p1, .int p2, .int p3] : List Value).toArray below meth c H locs 0 0 Qz (F0 m 10 ls [.long z1.1]) := by
    intro H locs hw
    refine lv_lstore (lv' := [(5, .long z1.1), (0, .ref h_me), (1, va_rf p0), (2, .int p1), (3, .int p2), (4, .int p3)]) hx hb dX1_wins_10 hl (by decide) rfl (fun ls hl => ?_)
    refine lv_lload hx hb dX1_wins_12 (lv_at hl 0 rfl) ?_
    refine lv_ldc2 (v := (-9000000000000000000)) hx hb hown (hts _ kw550) dX1_wins_14 ?_
    refine W.lcmp hx hb dX1_wins_17 ?_
    refine lv_if_ne (tgt := 28) hx hb dX1_wins_18 (by decide) (fun c => ?_) (fun c => ?_)
    · have h := z_f h c
      refine lv_lload hx hb dX1_wins_28 (lv_at hl 0 rfl) ?_
      refine lv_bipush (v := 9) hx hb dX1_wins_30 (by decide) ?_
      obtain ⟨z2, ez2, h⟩ := z_bd h
      refine xj_i (xrS (As := [.long z1.1, .int (9 : Int32)]) (rest := []) ⟨hx, hb, hml, hown, hts⟩ (m_X1_nearest l dC dI _  z1.1 (9 : Int32) z2 ez2) kw575 kw573 kw574 kw117 hd_X1_nearest ⟨rfl, rfl⟩ rfl rfl ⟨rfl, rfl⟩ hX hK hw [] (by decide) rfl rfl hl.1 rfl rfl dX1_wins_32) hw hA [] (by decide) rfl rfl (fun H locs hw => ?_)
      have hy := Option.some.inj h
      rw [← hQz, ← hy]
      exact xr_i (v := z2) hx hb hr rfl hlk hK hw dX1_wins_35
    · have h := z_t h c
      refine lv_iconst (v := 4) hx hb dX1_wins_21 (by decide) ?_
      refine lv_iload hx hb dX1_wins_22 (lv_at hl 5 rfl) ?_
      refine lv_isub hx hb dX1_wins_24 ?_
      refine lv_goto (tgt := 35) hx hb dX1_wins_25 (by decide) ?_
      have hy := Option.some.inj h
      rw [← hQz, ← hy]
      exact xr_i (v := (4 : Int32) - p3) hx hb hr rfl hlk hK hw dX1_wins_35
  rcases z_op ez1 with ⟨er, ek⟩ | ⟨⟨h_law, q_law, k_law, nc_law, ns_law, o_law⟩, l1, l2, er, el, ek⟩
  · refine W.eq (g2 := F0 m 7 ls [.int p3, .int p2, .int p1, .int (2 : Int32), .null, .ref h_me]) (by rw [er]; rfl) ?_
    obtain ⟨v9, ev9, ek⟩ := Option.map_eq_some_iff.mp ek
    refine xj_l (xrV (As := [.null, .int (2 : Int32), .int p1, .int p2, .int p3]) (rest := []) ⟨hx, hb, hml, hown, hts⟩ (m_X1_told_N l dC dI _ h_me h_me_isles h_me_machine q_me k_me o_me (2 : Int32) p1 p2 p3 v9 ev9) kw547 kw544 kw546 kw2 kw117 hd_X1_told ⟨rfl, rfl⟩ rfl rfl ⟨rfl, rfl⟩ hX hK hw [0] (by decide) rfl rfl rfl rfl rfl hl.1 rfl rfl dX1_wins_7) hw hA [0] (by decide) rfl rfl (fun H locs hw => ?_)
    refine lv_fl (v := z1.1) (by rw [← ek]) ?_
    refine kk9 H locs ?_
    rw [← ek]
    exact hw
  · refine W.eq (g2 := F0 m 7 ls [.int p3, .int p2, .int p1, .int (2 : Int32), .ref h_law, .ref h_me]) (by rw [er]; rfl) ?_
    have hw := wd_split 4 (l1 := l1) (l2 := l2) (c := (h_law, q_law, k_law, nc_law, ns_law, o_law)) (by rw [← el]; rfl) hw
    have hK9 := wk_split (Ts := [tX1 k_me, tX2 k_me_isles, tX4 k_me_isles_now, tX3 k_me_machine, tPL o_pool]) 4 (l1 := l1) (l2 := l2) (c := (h_law, q_law, k_law, nc_law, ns_law, o_law)) (by rw [← el]; rfl) hK
    have hw : Wd dC dI A s.heap [wX1 h_me h_me_isles h_me_machine q_me k_me o_me, wX2 h_me_isles h_me_isles_now q_me_isles k_me_isles o_me_isles, wX4 h_me_isles_now q_me_isles_now k_me_isles_now o_me_isles_now, wX3 h_me_machine q_me_machine k_me_machine o_me_machine, wPL (l1 ++ l2), wX0 h_law nc_law ns_law q_law k_law o_law] _ _ := hw
    have hK9 : va_K (dC, dI) vwCl (Jt [tX1 k_me, tX2 k_me_isles, tX4 k_me_isles_now, tX3 k_me_machine, tPL (l1 ++ l2), tX0 k_law]) s := hK9
    refine xj_l (xrV (As := [.ref h_law, .int (2 : Int32), .int p1, .int p2, .int p3]) (rest := []) ⟨hx, hb, hml, hown, hts⟩ (m_X1_told_O l dC dI _ h_me h_me_isles h_me_machine h_me_isles_now h_law q_me k_me q_me_isles k_me_isles q_me_isles_now k_me_isles_now q_me_machine k_me_machine q_law k_law nc_law ns_law o_me o_me_isles o_me_isles_now o_me_machine o_law (2 : Int32) p1 p2 p3 z1 ek) kw547 kw544 kw546 kw2 kw117 hd_X1_told ⟨rfl, rfl⟩ rfl rfl ⟨rfl, rfl⟩ hX hK9 hw [0, 1, 2, 3, 5] (by decide) rfl rfl rfl rfl rfl hl.1 rfl rfl dX1_wins_7) hw hA [0, 1, 2, 3, 5] (by decide) rfl rfl (fun H locs hw => ?_)
    have hw := wd_join 4 (l1 := l1) (l2 := l2) (c := (h_law, q_law, k_law, nc_law, ns_law, o_law)) (Ls := [wX1 h_me h_me_isles h_me_machine q_me k_me o_me, wX2 h_me_isles h_me_isles_now q_me_isles k_me_isles o_me_isles, wX4 h_me_isles_now q_me_isles_now k_me_isles_now o_me_isles_now, wX3 h_me_machine q_me_machine k_me_machine z1.2, wPL o_pool]) rfl hw
    rw [← el] at hw
    exact kk9 H locs hw

def f_X4_addPrizes (o_me : Ob) (p0 : Int32) (p1 : Int32) : Option (Ob) :=
  zgd (zin p0 7) <|
  zgd (zin p0 7) <|
  zlt (tA o_me 1 p0.toNatClampNeg (if ((gA o_me 1 p0.toNatClampNeg) + p1) < (999 : Int32) then ((gA o_me 1 p0.toNatClampNeg) + p1) else (999 : Int32))) fun o3 =>
  some o3
set_option maxHeartbeats 4000000 in
set_option maxRecDepth 100000 in
theorem m_X4_addPrizes (l : Launch) (dC : Nat → ClassId) (dI : Nat → Nat → Nat) (sz : Nat) (h_me : Nat) (q_me : Nat → Nat) (k_me : Nat → ClassId) (o_me : Ob) (p0 : Int32) (p1 : Int32) (y : Ob) (h : f_X4_addPrizes o_me p0 p1 = some y) : CV l yX4_addPrizes cX4_addPrizes 3 none ({ frames := 1, cells := 0, slots := 0, locals := 15 } : Room) dC dI sz [.ref h_me, .int p0, .int p1] [wX4 h_me q_me k_me o_me] [tX4 k_me] [wX4 h_me q_me k_me y] := by
  refine CC_of (by decide) (Nat.le_of_ble_eq_true rfl) ?_
  intro p e s m below meth c A ls hx hb hml hr hlk hnm hown hts hX hK hP hD hA hl
  have hl : lv_has ls 3 [(0, .ref h_me), (1, .int p0), (2, .int p1)] := hl
  have hown : s.vm.findClass RX4 = some m.cls := hown
  have hw : Wd dC dI A s.heap [wX4 h_me q_me k_me o_me] s.heap [] := ⟨hP, hD, va_S.rf⟩
  generalize hQz : (MQ below (QV dC dI (fun (_ : Unit) => True) (fun _ => Jn [wX4 h_me q_me k_me y]) (fun _ => Jt [tX4 k_me]) A) ([.ref h_me, .int p0, .int p1] : List Value).toArray s 0 0 A) = Qz
  clear hP hD hnm
  unfold f_X4_addPrizes at h
  refine lv_aload_n hx hb dX4_addPrizes_0 rfl (lv_at hl 0 rfl) ?_
  refine fgX4_1 hx hb hts hown hK hw 0 rfl kw265 dX4_addPrizes_1 ?_
  refine lv_iload_n hx hb dX4_addPrizes_4 rfl (lv_at hl 1 rfl) ?_
  refine lv_sipush (v := 999) hx hb dX4_addPrizes_5 (by decide) ?_
  refine lv_aload_n hx hb dX4_addPrizes_8 rfl (lv_at hl 0 rfl) ?_
  refine fgX4_1 hx hb hts hown hK hw 0 rfl kw265 dX4_addPrizes_9 ?_
  refine lv_iload_n hx hb dX4_addPrizes_12 rfl (lv_at hl 1 rfl) ?_
  obtain ⟨g1, h⟩ := z_gd h
  refine faX4_1 hx hb hK hw 0 rfl rfl g1 dX4_addPrizes_13 ?_
  refine lv_iload_n hx hb dX4_addPrizes_14 rfl (lv_at hl 2 rfl) ?_
  refine lv_iadd hx hb dX4_addPrizes_15 ?_
  refine va_mmin hx hb (hml.trans hl.1.symm) hown (hts _ kw881) (hts _ kw561) (hts _ kw113) (hts _ kw562) (Nat.le_of_ble_eq_true rfl) (Nat.le_of_ble_eq_true rfl) (Nat.le_of_ble_eq_true rfl) (Nat.le_of_ble_eq_true rfl) dX4_addPrizes_16 ?_
  obtain ⟨g2, h⟩ := z_gd h
  refine fbX4_1 hx hb hK hw 0 rfl rfl g2 dX4_addPrizes_19 (fun H locs hw => ?_)
  obtain ⟨o3, eo3, h⟩ := z_lt h
  have hw : Wd dC dI A s.heap [wX4 h_me q_me k_me o3] H locs := by rw [eo3]; exact hw
  have hy := Option.some.inj h
  rw [← hQz, ← hy]
  exact xr_v hx hb hr hlk hK hw dX4_addPrizes_20

def lb_X1_heldRace_186 (o_me : Ob) (o_me_isles : Ob) (o_pool : List CR)  (rec_186_6 : Int32 × Int32 × Ob × Ob → Option (Int32 × Ob × Ob)) (v3 : Int32) (v9 : Int32) (o_me_isles_now : Ob) (o_me_machine : Ob) : Option (Int32 × Ob × Ob) :=
  if (gI o_me 4) ≤ v9 then
  (some (v3, o_me_isles_now, o_me_machine))
  else
  (zgd (zin v9 7) <|
  zlt (sI o_me_isles_now 2 ((gI o_me_isles_now 2) &&& (((1 : Int32) <<< ((gA o_me 2 v9.toNatClampNeg) &&& 31)) ^^^ (-1 : Int32)))) fun o9 =>
  zlt (v9 + (1 : Int32)) fun x10 =>
  rec_186_6 (v3, x10, o9, o_me_machine))
def lp_X1_heldRace_186 (o_me : Ob) (o_me_isles : Ob) (o_pool : List CR)  : Nat → (Int32 × Int32 × Ob × Ob) → Option (Int32 × Ob × Ob) := zit (fun rec a => lb_X1_heldRace_186 o_me o_me_isles o_pool  rec a.1 a.2.1 a.2.2.1 a.2.2.2)
def bk_X1_heldRace_183 (o_me : Ob) (o_me_isles : Ob) (o_pool : List CR)  (v3 : Int32) (o_me_isles_now : Ob) (o_me_machine : Ob) : Option (Int32 × Ob × Ob) :=
  lp_X1_heldRace_186 o_me o_me_isles o_pool  zfu (v3, (0 : Int32), o_me_isles_now, o_me_machine)
def bk_X1_heldRace_163 (o_me : Ob) (o_me_isles : Ob) (o_pool : List CR)  (v3 : Int32) (v5 : Int32) (v8 : Int32) (o_me_isles_now : Ob) (o_me_machine : Ob) : Option (Int32 × Ob × Ob) :=
  if v5 = (-1 : Int32) then
  (bk_X1_heldRace_183 o_me o_me_isles o_pool  v3 o_me_isles_now o_me_machine)
  else
  ((f_X4_addPrizes o_me_isles_now v5 v8).bind fun z11 =>
  bk_X1_heldRace_183 o_me o_me_isles o_pool  v3 z11 o_me_machine)
def bk_X1_heldRace_145 (o_me : Ob) (o_me_isles : Ob) (o_pool : List CR)  (v3 : Int32) (v5 : Int32) (v6 : Int32) (v8 : Int32) (o_me_isles_now : Ob) (o_me_machine : Ob) : Option (Int32 × Ob × Ob) :=
  if v3 = (-1 : Int32) then
  (bk_X1_heldRace_163 o_me o_me_isles o_pool  v3 v5 v8 o_me_isles_now o_me_machine)
  else
  ((f_X4_addPrizes o_me_isles_now v3 v6).bind fun z12 =>
  bk_X1_heldRace_163 o_me o_me_isles o_pool  v3 v5 v8 z12 o_me_machine)
def bk_X1_heldRace_87 (o_me : Ob) (o_me_isles : Ob) (o_pool : List CR)  (v1 : Int32) (v2 : Option Nat) (v3 : Int32) (v4 : Int32) (v5 : Int32) (v6 : Int32) (v7 : Int32) (s0 : Int32) (o_me_isles_now : Ob) (o_me_machine : Ob) : Option (Int32 × Ob × Ob) :=
  if v4 = (-1 : Int32) then
  (bk_X1_heldRace_145 o_me o_me_isles o_pool  v3 v5 v6 s0 o_me_isles_now o_me_machine)
  else
  ((f_X1_turnsTo_Q o_me o_me_isles o_me_isles_now o_me_machine o_pool v2 v4 v1).bind fun z13 =>
  zgd (zin v4 7) <|
  zlt (tA o_me_isles_now 0 v4.toNatClampNeg z13.1) fun o15 =>
  zlt (sI o15 3 (if ((gI o15 3) + v7) < (999 : Int32) then ((gI o15 3) + v7) else (999 : Int32))) fun o16 =>
  bk_X1_heldRace_145 o_me o_me_isles o_pool  v3 v5 v6 s0 o16 z13.2)
def bk_X1_heldRace_66 (o_me : Ob) (o_me_isles : Ob) (o_pool : List CR)  (v1 : Int32) (v2 : Option Nat) (v3 : Int32) (v4 : Int32) (v5 : Int32) (v6 : Int32) (s0 : Int32) (o_me_isles_now : Ob) (o_me_machine : Ob) : Option (Int32 × Ob × Ob) :=
  if v5 = (-1 : Int32) then
  (bk_X1_heldRace_87 o_me o_me_isles o_pool  v1 v2 v3 v4 v5 v6 s0 (0 : Int32) o_me_isles_now o_me_machine)
  else
  ((f_X1_wins_Q o_me o_me_isles o_me_isles_now o_me_machine o_pool v2 v5 v1 (3 : Int32)).bind fun z7 =>
  bk_X1_heldRace_87 o_me o_me_isles o_pool  v1 v2 v3 v4 v5 v6 s0 z7.1 o_me_isles_now z7.2)
def bk_X1_heldRace_45 (o_me : Ob) (o_me_isles : Ob) (o_pool : List CR)  (v1 : Int32) (v2 : Option Nat) (v3 : Int32) (v4 : Int32) (v5 : Int32) (s0 : Int32) (o_me_isles_now : Ob) (o_me_machine : Ob) : Option (Int32 × Ob × Ob) :=
  if v4 = (-1 : Int32) then
  (bk_X1_heldRace_66 o_me o_me_isles o_pool  v1 v2 v3 v4 v5 s0 (0 : Int32) o_me_isles_now o_me_machine)
  else
  ((f_X1_wins_Q o_me o_me_isles o_me_isles_now o_me_machine o_pool v2 v4 v1 (2 : Int32)).bind fun z6 =>
  bk_X1_heldRace_66 o_me o_me_isles o_pool  v1 v2 v3 v4 v5 s0 z6.1 o_me_isles_now z6.2)
def f_X1_heldRace (o_me : Ob) (o_me_isles : Ob) (o_me_isles_now : Ob) (o_me_machine : Ob) (o_pool : List CR) (p0 : Int32) : Option (Int32 × Ob × Ob) :=
  (f_X2_lawInForce o_me_isles).bind fun z1 =>
  (f_X1_at o_me (1 : Int32)).bind fun z2 =>
  (f_X1_at o_me (2 : Int32)).bind fun z3 =>
  (f_X1_at o_me (3 : Int32)).bind fun z4 =>
  if z2 = (-1 : Int32) then
  (bk_X1_heldRace_45 o_me o_me_isles o_pool  p0 z1 z2 z3 z4 (0 : Int32) o_me_isles_now o_me_machine)
  else
  ((f_X1_wins_Q o_me o_me_isles o_me_isles_now o_me_machine o_pool z1 z2 p0 (1 : Int32)).bind fun z5 =>
  bk_X1_heldRace_45 o_me o_me_isles o_pool  p0 z1 z2 z3 z4 z5.1 o_me_isles_now z5.2)
set_option maxHeartbeats 4000000 in
set_option maxRecDepth 100000 in
theorem m_X1_heldRace (l : Launch) (dC : Nat → ClassId) (dI : Nat → Nat → Nat) (sz : Nat) (h_me : Nat) (h_me_isles : Nat) (h_me_machine : Nat) (h_me_isles_now : Nat) (q_me : Nat → Nat) (k_me : Nat → ClassId) (q_me_isles : Nat → Nat) (k_me_isles : Nat → ClassId) (q_me_isles_now : Nat → Nat) (k_me_isles_now : Nat → ClassId) (q_me_machine : Nat → Nat) (k_me_machine : Nat → ClassId) (o_me : Ob) (o_me_isles : Ob) (o_me_isles_now : Ob) (o_me_machine : Ob) (o_pool : List CR) (p0 : Int32) (y : Int32 × Ob × Ob) (h : f_X1_heldRace o_me o_me_isles o_me_isles_now o_me_machine o_pool p0 = some y) : CI l yX1_heldRace cX1_heldRace 10 (some .int) ({ frames := 4, cells := 0, slots := 0, locals := 110 } : Room) dC dI sz [.ref h_me, .int p0] [wX1 h_me h_me_isles h_me_machine q_me k_me o_me, wX2 h_me_isles h_me_isles_now q_me_isles k_me_isles o_me_isles, wX4 h_me_isles_now q_me_isles_now k_me_isles_now o_me_isles_now, wX3 h_me_machine q_me_machine k_me_machine o_me_machine, wPL o_pool] [tX1 k_me, tX2 k_me_isles, tX4 k_me_isles_now, tX3 k_me_machine, tPL o_pool] y.1 [wX1 h_me h_me_isles h_me_machine q_me k_me o_me, wX2 h_me_isles h_me_isles_now q_me_isles k_me_isles o_me_isles, wX4 h_me_isles_now q_me_isles_now k_me_isles_now y.2.1, wX3 h_me_machine q_me_machine k_me_machine y.2.2, wPL o_pool] := by
  refine CC_of (by decide) (Nat.le_of_ble_eq_true rfl) ?_
  intro p e s m below meth c A ls hx hb hml hr hlk hnm hown hts hX hK hP hD hA hl
  have hl : lv_has ls 10 [(0, .ref h_me), (1, .int p0)] := hl
  have hown : s.vm.findClass RX1 = some m.cls := hown
  have hw : Wd dC dI A s.heap [wX1 h_me h_me_isles h_me_machine q_me k_me o_me, wX2 h_me_isles h_me_isles_now q_me_isles k_me_isles o_me_isles, wX4 h_me_isles_now q_me_isles_now k_me_isles_now o_me_isles_now, wX3 h_me_machine q_me_machine k_me_machine o_me_machine, wPL o_pool] s.heap [] := ⟨hP, hD, va_S.rf⟩
  generalize hQz : (MQ below (QI dC dI (fun r (_ : Unit) => r = y.1) (fun _ => Jn [wX1 h_me h_me_isles h_me_machine q_me k_me o_me, wX2 h_me_isles h_me_isles_now q_me_isles k_me_isles o_me_isles, wX4 h_me_isles_now q_me_isles_now k_me_isles_now y.2.1, wX3 h_me_machine q_me_machine k_me_machine y.2.2, wPL o_pool]) (fun _ => Jt [tX1 k_me, tX2 k_me_isles, tX4 k_me_isles_now, tX3 k_me_machine, tPL o_pool]) A) ([.ref h_me, .int p0] : List Value).toArray s 0 0 A) = Qz
  clear hP hD hnm
  have lp_186_6 : ∀ (N : Nat), ∀ (v3 : Int32) (v9 : Int32) (o_me_isles_now : Ob) (o_me_machine : Ob) (H : Heap) (locs : List Loc) (ls : Array Slot), lp_X1_heldRace_186 o_me o_me_isles o_pool  N (v3, v9, o_me_isles_now, o_me_machine) = some y → Wd dC dI A s.heap [wX1 h_me h_me_isles h_me_machine q_me k_me o_me, wX2 h_me_isles h_me_isles_now q_me_isles k_me_isles o_me_isles, wX4 h_me_isles_now q_me_isles_now k_me_isles_now o_me_isles_now, wX3 h_me_machine q_me_machine k_me_machine o_me_machine, wPL o_pool] H locs → lv_has ls 10 [(0, .ref h_me), (3, .int v3), (9, .int v9)] → W p l e ({ frames := 4, cells := 0, slots := 0, locals := 110 } : Room) s m ([.ref h_me, .int p0] : List Value).toArray below meth c H locs 0 0 Qz (F0 m 186 ls []) := by
    intro N
    induction N with
    | zero =>
      intro v3 v9 o_me_isles_now o_me_machine H locs ls h hw hl
      exact absurd (show (none : Option (Int32 × Ob × Ob)) = some y from h) (by simp)
    | succ N ih =>
      intro v3 v9 o_me_isles_now o_me_machine H locs ls h hw hl
      have h : lb_X1_heldRace_186 o_me o_me_isles o_pool  (lp_X1_heldRace_186 o_me o_me_isles o_pool  N) v3 v9 o_me_isles_now o_me_machine = some y := h
      unfold lb_X1_heldRace_186 at h
      refine lv_iload hx hb dX1_heldRace_186 (lv_at hl 2 rfl) ?_
      refine lv_aload_n hx hb dX1_heldRace_188 rfl (lv_at hl 0 rfl) ?_
      refine fgX1_4 hx hb hts hown hK hw 0 rfl kw368 dX1_heldRace_189 ?_
      refine lv_icmp_ge (tgt := 227) hx hb dX1_heldRace_192 (by decide) (fun c => ?_) (fun c => ?_)
      · have h := z_t h c
        refine lv_iload_n hx hb dX1_heldRace_227 rfl (lv_at hl 1 rfl) ?_
        have hy := Option.some.inj h
        rw [← hQz, ← hy]
        exact xr_i (v := v3) hx hb hr rfl hlk hK hw dX1_heldRace_228
      · have h := z_f h c
        refine lv_aload_n hx hb dX1_heldRace_195 rfl (lv_at hl 0 rfl) ?_
        refine fgX1_0 hx hb hts hown hK hw 0 rfl kw363 dX1_heldRace_196 ?_
        refine fgX2_0 hx hb hts hown hK hw 1 rfl kw299 dX1_heldRace_199 ?_
        refine lv_dup hx hb dX1_heldRace_202 rfl ?_
        refine fgX4_2 hx hb hts hown hK hw 2 rfl kw271 dX1_heldRace_203 ?_
        refine lv_iconst (v := 1) hx hb dX1_heldRace_206 (by decide) ?_
        refine lv_aload_n hx hb dX1_heldRace_207 rfl (lv_at hl 0 rfl) ?_
        refine fgX1_2 hx hb hts hown hK hw 0 rfl kw366 dX1_heldRace_208 ?_
        refine lv_iload hx hb dX1_heldRace_211 (lv_at hl 2 rfl) ?_
        obtain ⟨g8, h⟩ := z_gd h
        refine faX1_2 hx hb hK hw 0 rfl rfl g8 dX1_heldRace_213 ?_
        refine lv_ishl hx hb dX1_heldRace_214 ?_
        refine lv_iconst (v := (-1)) hx hb dX1_heldRace_215 (by decide) ?_
        refine lv_ixor hx hb dX1_heldRace_216 ?_
        refine lv_iand hx hb dX1_heldRace_217 ?_
        refine fpX4_2 hx hb hts hown hK hw 2 rfl kw271 dX1_heldRace_218 (fun H locs hw => ?_)
        obtain ⟨o9, eo9, h⟩ := z_lt h
        have hw : Wd dC dI A s.heap [wX1 h_me h_me_isles h_me_machine q_me k_me o_me, wX2 h_me_isles h_me_isles_now q_me_isles k_me_isles o_me_isles, wX4 h_me_isles_now q_me_isles_now k_me_isles_now o9, wX3 h_me_machine q_me_machine k_me_machine o_me_machine, wPL o_pool] H locs := by rw [eo9]; exact hw
        obtain ⟨x10, ex10, h⟩ := z_lt h
        refine lv_iinc (v := x10) (lv' := [(9, .int x10), (0, .ref h_me), (3, .int v3)]) hx hb dX1_heldRace_221 hl (k := 2) rfl ((congrArg (v9 + ·) (show Int32.ofInt 1 = (1 : Int32) from by decide)).trans ex10.symm) (by decide) rfl (fun ls hl => ?_)
        refine lv_goto (tgt := 186) hx hb dX1_heldRace_224 (by decide) ?_
        exact ih v3 x10 o9 o_me_machine _ _ _ h hw (lv_sub hl [1, 2, 0] rfl)
  have bk_183_5 : ∀ (v3 : Int32) (o_me_isles_now : Ob) (o_me_machine : Ob) (H : Heap) (locs : List Loc) (ls : Array Slot), bk_X1_heldRace_183 o_me o_me_isles o_pool  v3 o_me_isles_now o_me_machine = some y → Wd dC dI A s.heap [wX1 h_me h_me_isles h_me_machine q_me k_me o_me, wX2 h_me_isles h_me_isles_now q_me_isles k_me_isles o_me_isles, wX4 h_me_isles_now q_me_isles_now k_me_isles_now o_me_isles_now, wX3 h_me_machine q_me_machine k_me_machine o_me_machine, wPL o_pool] H locs → lv_has ls 10 [(0, .ref h_me), (3, .int v3)] → W p l e ({ frames := 4, cells := 0, slots := 0, locals := 110 } : Room) s m ([.ref h_me, .int p0] : List Value).toArray below meth c H locs 0 0 Qz (F0 m 183 ls []) := by
    intro v3 o_me_isles_now o_me_machine H locs ls h hw hl
    unfold bk_X1_heldRace_183 at h
    refine lv_iconst (v := 0) hx hb dX1_heldRace_183 (by decide) ?_
    refine lv_istore (lv' := [(9, .int (0 : Int32)), (0, .ref h_me), (3, .int v3)]) hx hb dX1_heldRace_184 hl (by decide) rfl (fun ls hl => ?_)
    exact lp_186_6  zfu v3 (0 : Int32) o_me_isles_now o_me_machine _ _ _ h hw (lv_sub hl [1, 2, 0] rfl)
  have bk_163_4 : ∀ (v3 : Int32) (v5 : Int32) (v8 : Int32) (o_me_isles_now : Ob) (o_me_machine : Ob) (H : Heap) (locs : List Loc) (ls : Array Slot), bk_X1_heldRace_163 o_me o_me_isles o_pool  v3 v5 v8 o_me_isles_now o_me_machine = some y → Wd dC dI A s.heap [wX1 h_me h_me_isles h_me_machine q_me k_me o_me, wX2 h_me_isles h_me_isles_now q_me_isles k_me_isles o_me_isles, wX4 h_me_isles_now q_me_isles_now k_me_isles_now o_me_isles_now, wX3 h_me_machine q_me_machine k_me_machine o_me_machine, wPL o_pool] H locs → lv_has ls 10 [(0, .ref h_me), (3, .int v3), (5, .int v5), (8, .int v8)] → W p l e ({ frames := 4, cells := 0, slots := 0, locals := 110 } : Room) s m ([.ref h_me, .int p0] : List Value).toArray below meth c H locs 0 0 Qz (F0 m 163 ls []) := by
    intro v3 v5 v8 o_me_isles_now o_me_machine H locs ls h hw hl
    unfold bk_X1_heldRace_163 at h
    refine lv_iload hx hb dX1_heldRace_163 (lv_at hl 2 rfl) ?_
    refine lv_iconst (v := (-1)) hx hb dX1_heldRace_165 (by decide) ?_
    refine lv_icmp_eq (tgt := 183) hx hb dX1_heldRace_166 (by decide) (fun c => ?_) (fun c => ?_)
    · have h := z_t h c
      exact bk_183_5  v3 o_me_isles_now o_me_machine _ _ _ h hw (lv_sub hl [0, 1] rfl)
    · have h := z_f h c
      refine lv_aload_n hx hb dX1_heldRace_169 rfl (lv_at hl 0 rfl) ?_
      refine fgX1_0 hx hb hts hown hK hw 0 rfl kw363 dX1_heldRace_170 ?_
      refine fgX2_0 hx hb hts hown hK hw 1 rfl kw299 dX1_heldRace_173 ?_
      refine lv_iload hx hb dX1_heldRace_176 (lv_at hl 2 rfl) ?_
      refine lv_iload hx hb dX1_heldRace_178 (lv_at hl 3 rfl) ?_
      obtain ⟨z11, ez11, h⟩ := z_bd h
      refine xj_v (xrV (As := [.int v5, .int v8]) (rest := []) ⟨hx, hb, hml, hown, hts⟩ (m_X4_addPrizes l dC dI _ h_me_isles_now q_me_isles_now k_me_isles_now o_me_isles_now v5 v8 z11 ez11) kw880 kw877 kw878 kw879 kw116 hd_X4_addPrizes ⟨rfl, rfl⟩ rfl rfl ⟨rfl, rfl⟩ hX hK hw [2] (by decide) rfl rfl rfl rfl rfl hl.1 rfl rfl dX1_heldRace_180) hw hA [2] (by decide) rfl rfl (fun H locs hw => ?_)
      have hw : Wd dC dI A s.heap [wX1 h_me h_me_isles h_me_machine q_me k_me o_me, wX2 h_me_isles h_me_isles_now q_me_isles k_me_isles o_me_isles, wX4 h_me_isles_now q_me_isles_now k_me_isles_now z11, wX3 h_me_machine q_me_machine k_me_machine o_me_machine, wPL o_pool] H locs := hw
      exact bk_183_5  v3 z11 o_me_machine _ _ _ h hw (lv_sub hl [0, 1] rfl)
  have bk_145_3 : ∀ (v3 : Int32) (v5 : Int32) (v6 : Int32) (v8 : Int32) (o_me_isles_now : Ob) (o_me_machine : Ob) (H : Heap) (locs : List Loc) (ls : Array Slot), bk_X1_heldRace_145 o_me o_me_isles o_pool  v3 v5 v6 v8 o_me_isles_now o_me_machine = some y → Wd dC dI A s.heap [wX1 h_me h_me_isles h_me_machine q_me k_me o_me, wX2 h_me_isles h_me_isles_now q_me_isles k_me_isles o_me_isles, wX4 h_me_isles_now q_me_isles_now k_me_isles_now o_me_isles_now, wX3 h_me_machine q_me_machine k_me_machine o_me_machine, wPL o_pool] H locs → lv_has ls 10 [(0, .ref h_me), (3, .int v3), (5, .int v5), (6, .int v6), (8, .int v8)] → W p l e ({ frames := 4, cells := 0, slots := 0, locals := 110 } : Room) s m ([.ref h_me, .int p0] : List Value).toArray below meth c H locs 0 0 Qz (F0 m 145 ls []) := by
    intro v3 v5 v6 v8 o_me_isles_now o_me_machine H locs ls h hw hl
    unfold bk_X1_heldRace_145 at h
    refine lv_iload_n hx hb dX1_heldRace_145 rfl (lv_at hl 1 rfl) ?_
    refine lv_iconst (v := (-1)) hx hb dX1_heldRace_146 (by decide) ?_
    refine lv_icmp_eq (tgt := 163) hx hb dX1_heldRace_147 (by decide) (fun c => ?_) (fun c => ?_)
    · have h := z_t h c
      exact bk_163_4  v3 v5 v8 o_me_isles_now o_me_machine _ _ _ h hw (lv_sub hl [0, 1, 2, 4] rfl)
    · have h := z_f h c
      refine lv_aload_n hx hb dX1_heldRace_150 rfl (lv_at hl 0 rfl) ?_
      refine fgX1_0 hx hb hts hown hK hw 0 rfl kw363 dX1_heldRace_151 ?_
      refine fgX2_0 hx hb hts hown hK hw 1 rfl kw299 dX1_heldRace_154 ?_
      refine lv_iload_n hx hb dX1_heldRace_157 rfl (lv_at hl 1 rfl) ?_
      refine lv_iload hx hb dX1_heldRace_158 (lv_at hl 3 rfl) ?_
      obtain ⟨z12, ez12, h⟩ := z_bd h
      refine xj_v (xrV (As := [.int v3, .int v6]) (rest := []) ⟨hx, hb, hml, hown, hts⟩ (m_X4_addPrizes l dC dI _ h_me_isles_now q_me_isles_now k_me_isles_now o_me_isles_now v3 v6 z12 ez12) kw880 kw877 kw878 kw879 kw116 hd_X4_addPrizes ⟨rfl, rfl⟩ rfl rfl ⟨rfl, rfl⟩ hX hK hw [2] (by decide) rfl rfl rfl rfl rfl hl.1 rfl rfl dX1_heldRace_160) hw hA [2] (by decide) rfl rfl (fun H locs hw => ?_)
      have hw : Wd dC dI A s.heap [wX1 h_me h_me_isles h_me_machine q_me k_me o_me, wX2 h_me_isles h_me_isles_now q_me_isles k_me_isles o_me_isles, wX4 h_me_isles_now q_me_isles_now k_me_isles_now z12, wX3 h_me_machine q_me_machine k_me_machine o_me_machine, wPL o_pool] H locs := hw
      exact bk_163_4  v3 v5 v8 z12 o_me_machine _ _ _ h hw (lv_sub hl [0, 1, 2, 4] rfl)
  have bk_87_2 : ∀ (v1 : Int32) (v2 : Option Nat) (v3 : Int32) (v4 : Int32) (v5 : Int32) (v6 : Int32) (v7 : Int32) (s0 : Int32) (o_me_isles_now : Ob) (o_me_machine : Ob) (H : Heap) (locs : List Loc) (ls : Array Slot), bk_X1_heldRace_87 o_me o_me_isles o_pool  v1 v2 v3 v4 v5 v6 v7 s0 o_me_isles_now o_me_machine = some y → Wd dC dI A s.heap [wX1 h_me h_me_isles h_me_machine q_me k_me o_me, wX2 h_me_isles h_me_isles_now q_me_isles k_me_isles o_me_isles, wX4 h_me_isles_now q_me_isles_now k_me_isles_now o_me_isles_now, wX3 h_me_machine q_me_machine k_me_machine o_me_machine, wPL o_pool] H locs → lv_has ls 10 [(0, .ref h_me), (1, .int v1), (2, va_rf v2), (3, .int v3), (4, .int v4), (5, .int v5), (6, .int v6), (7, .int v7)] → W p l e ({ frames := 4, cells := 0, slots := 0, locals := 110 } : Room) s m ([.ref h_me, .int p0] : List Value).toArray below meth c H locs 0 0 Qz (F0 m 87 ls [.int s0]) := by
    intro v1 v2 v3 v4 v5 v6 v7 s0 o_me_isles_now o_me_machine H locs ls h hw hl
    unfold bk_X1_heldRace_87 at h
    refine lv_istore (lv' := [(8, .int s0), (0, .ref h_me), (1, .int v1), (2, va_rf v2), (3, .int v3), (4, .int v4), (5, .int v5), (6, .int v6), (7, .int v7)]) hx hb dX1_heldRace_87 hl (by decide) rfl (fun ls hl => ?_)
    refine lv_iload hx hb dX1_heldRace_89 (lv_at hl 5 rfl) ?_
    refine lv_iconst (v := (-1)) hx hb dX1_heldRace_91 (by decide) ?_
    refine lv_icmp_eq (tgt := 145) hx hb dX1_heldRace_92 (by decide) (fun c => ?_) (fun c => ?_)
    · have h := z_t h c
      exact bk_145_3  v3 v5 v6 s0 o_me_isles_now o_me_machine _ _ _ h hw (lv_sub hl [1, 4, 6, 7, 0] rfl)
    · have h := z_f h c
      refine lv_aload_n hx hb dX1_heldRace_95 rfl (lv_at hl 1 rfl) ?_
      refine fgX1_0 hx hb hts hown hK hw 0 rfl kw363 dX1_heldRace_96 ?_
      refine fgX2_0 hx hb hts hown hK hw 1 rfl kw299 dX1_heldRace_99 ?_
      refine fgX4_0 hx hb hts hown hK hw 2 rfl kw263 dX1_heldRace_102 ?_
      refine lv_iload hx hb dX1_heldRace_105 (lv_at hl 5 rfl) ?_
      refine lv_aload_n hx hb dX1_heldRace_107 rfl (lv_at hl 1 rfl) ?_
      refine xaload_n hx hb dX1_heldRace_108 rfl (lv_at hl 3 rfl) ?_
      refine lv_iload hx hb dX1_heldRace_109 (lv_at hl 5 rfl) ?_
      refine lv_iload_n hx hb dX1_heldRace_111 rfl (lv_at hl 2 rfl) ?_
      obtain ⟨z13, ez13, h⟩ := z_bd h
      refine xj_i (xrV (As := [va_rf v2, .int v4, .int v1]) (rest := [.int v4, .ref (q_me_isles_now 0)]) ⟨hx, hb, hml, hown, hts⟩ (m_X1_turnsTo_Q l dC dI _ h_me h_me_isles h_me_machine h_me_isles_now q_me k_me q_me_isles k_me_isles q_me_isles_now k_me_isles_now q_me_machine k_me_machine o_me o_me_isles o_me_isles_now o_me_machine o_pool v2 v4 v1 z13 ez13) kw875 kw872 kw873 kw874 kw117 hd_X1_turnsTo ⟨rfl, rfl⟩ rfl rfl ⟨rfl, rfl⟩ hX hK hw [0, 1, 2, 3, 4] (by decide) rfl rfl rfl rfl rfl hl.1 rfl rfl dX1_heldRace_112) hw hA [0, 1, 2, 3, 4] (by decide) rfl rfl (fun H locs hw => ?_)
      have hw : Wd dC dI A s.heap [wX1 h_me h_me_isles h_me_machine q_me k_me o_me, wX2 h_me_isles h_me_isles_now q_me_isles k_me_isles o_me_isles, wX4 h_me_isles_now q_me_isles_now k_me_isles_now o_me_isles_now, wX3 h_me_machine q_me_machine k_me_machine z13.2, wPL o_pool] H locs := hw
      obtain ⟨g14, h⟩ := z_gd h
      refine fbX4_0 hx hb hK hw 2 rfl rfl g14 dX1_heldRace_115 (fun H locs hw => ?_)
      obtain ⟨o15, eo15, h⟩ := z_lt h
      have hw : Wd dC dI A s.heap [wX1 h_me h_me_isles h_me_machine q_me k_me o_me, wX2 h_me_isles h_me_isles_now q_me_isles k_me_isles o_me_isles, wX4 h_me_isles_now q_me_isles_now k_me_isles_now o15, wX3 h_me_machine q_me_machine k_me_machine z13.2, wPL o_pool] H locs := by rw [eo15]; exact hw
      refine lv_aload_n hx hb dX1_heldRace_116 rfl (lv_at hl 1 rfl) ?_
      refine fgX1_0 hx hb hts hown hK hw 0 rfl kw363 dX1_heldRace_117 ?_
      refine fgX2_0 hx hb hts hown hK hw 1 rfl kw299 dX1_heldRace_120 ?_
      refine lv_sipush (v := 999) hx hb dX1_heldRace_123 (by decide) ?_
      refine lv_aload_n hx hb dX1_heldRace_126 rfl (lv_at hl 1 rfl) ?_
      refine fgX1_0 hx hb hts hown hK hw 0 rfl kw363 dX1_heldRace_127 ?_
      refine fgX2_0 hx hb hts hown hK hw 1 rfl kw299 dX1_heldRace_130 ?_
      refine fgX4_3 hx hb hts hown hK hw 2 rfl kw275 dX1_heldRace_133 ?_
      refine lv_iload hx hb dX1_heldRace_136 (lv_at hl 8 rfl) ?_
      refine lv_iadd hx hb dX1_heldRace_138 ?_
      refine va_mmin hx hb (hml.trans hl.1.symm) hown (hts _ kw876) (hts _ kw561) (hts _ kw113) (hts _ kw562) (Nat.le_of_ble_eq_true rfl) (Nat.le_of_ble_eq_true rfl) (Nat.le_of_ble_eq_true rfl) (Nat.le_of_ble_eq_true rfl) dX1_heldRace_139 ?_
      refine fpX4_3 hx hb hts hown hK hw 2 rfl kw275 dX1_heldRace_142 (fun H locs hw => ?_)
      obtain ⟨o16, eo16, h⟩ := z_lt h
      have hw : Wd dC dI A s.heap [wX1 h_me h_me_isles h_me_machine q_me k_me o_me, wX2 h_me_isles h_me_isles_now q_me_isles k_me_isles o_me_isles, wX4 h_me_isles_now q_me_isles_now k_me_isles_now o16, wX3 h_me_machine q_me_machine k_me_machine z13.2, wPL o_pool] H locs := by rw [eo16]; exact hw
      exact bk_145_3  v3 v5 v6 s0 o16 z13.2 _ _ _ h hw (lv_sub hl [1, 4, 6, 7, 0] rfl)
  have bk_66_1 : ∀ (v1 : Int32) (v2 : Option Nat) (v3 : Int32) (v4 : Int32) (v5 : Int32) (v6 : Int32) (s0 : Int32) (o_me_isles_now : Ob) (o_me_machine : Ob) (H : Heap) (locs : List Loc) (ls : Array Slot), bk_X1_heldRace_66 o_me o_me_isles o_pool  v1 v2 v3 v4 v5 v6 s0 o_me_isles_now o_me_machine = some y → Wd dC dI A s.heap [wX1 h_me h_me_isles h_me_machine q_me k_me o_me, wX2 h_me_isles h_me_isles_now q_me_isles k_me_isles o_me_isles, wX4 h_me_isles_now q_me_isles_now k_me_isles_now o_me_isles_now, wX3 h_me_machine q_me_machine k_me_machine o_me_machine, wPL o_pool] H locs → lv_has ls 10 [(0, .ref h_me), (1, .int v1), (2, va_rf v2), (3, .int v3), (4, .int v4), (5, .int v5), (6, .int v6)] → W p l e ({ frames := 4, cells := 0, slots := 0, locals := 110 } : Room) s m ([.ref h_me, .int p0] : List Value).toArray below meth c H locs 0 0 Qz (F0 m 66 ls [.int s0]) := by
    intro v1 v2 v3 v4 v5 v6 s0 o_me_isles_now o_me_machine H locs ls h hw hl
    unfold bk_X1_heldRace_66 at h
    refine lv_istore (lv' := [(7, .int s0), (0, .ref h_me), (1, .int v1), (2, va_rf v2), (3, .int v3), (4, .int v4), (5, .int v5), (6, .int v6)]) hx hb dX1_heldRace_66 hl (by decide) rfl (fun ls hl => ?_)
    refine lv_iload hx hb dX1_heldRace_68 (lv_at hl 6 rfl) ?_
    refine lv_iconst (v := (-1)) hx hb dX1_heldRace_70 (by decide) ?_
    refine lv_icmp_ne (tgt := 78) hx hb dX1_heldRace_71 (by decide) (fun c => ?_) (fun c => ?_)
    · have h := z_f h c
      refine lv_aload_n hx hb dX1_heldRace_78 rfl (lv_at hl 1 rfl) ?_
      refine xaload_n hx hb dX1_heldRace_79 rfl (lv_at hl 3 rfl) ?_
      refine lv_iload hx hb dX1_heldRace_80 (lv_at hl 6 rfl) ?_
      refine lv_iload_n hx hb dX1_heldRace_82 rfl (lv_at hl 2 rfl) ?_
      refine lv_iconst (v := 3) hx hb dX1_heldRace_83 (by decide) ?_
      obtain ⟨z7, ez7, h⟩ := z_bd h
      refine xj_i (xrV (As := [va_rf v2, .int v5, .int v1, .int (3 : Int32)]) (rest := []) ⟨hx, hb, hml, hown, hts⟩ (m_X1_wins_Q l dC dI _ h_me h_me_isles h_me_machine h_me_isles_now q_me k_me q_me_isles k_me_isles q_me_isles_now k_me_isles_now q_me_machine k_me_machine o_me o_me_isles o_me_isles_now o_me_machine o_pool v2 v5 v1 (3 : Int32) z7 ez7) kw871 kw868 kw870 kw21 kw117 hd_X1_wins ⟨rfl, rfl⟩ rfl rfl ⟨rfl, rfl⟩ hX hK hw [0, 1, 2, 3, 4] (by decide) rfl rfl rfl rfl rfl hl.1 rfl rfl dX1_heldRace_84) hw hA [0, 1, 2, 3, 4] (by decide) rfl rfl (fun H locs hw => ?_)
      have hw : Wd dC dI A s.heap [wX1 h_me h_me_isles h_me_machine q_me k_me o_me, wX2 h_me_isles h_me_isles_now q_me_isles k_me_isles o_me_isles, wX4 h_me_isles_now q_me_isles_now k_me_isles_now o_me_isles_now, wX3 h_me_machine q_me_machine k_me_machine z7.2, wPL o_pool] H locs := hw
      exact bk_87_2  v1 v2 v3 v4 v5 v6 s0 z7.1 o_me_isles_now z7.2 _ _ _ h hw (lv_sub hl [1, 2, 3, 4, 5, 6, 7, 0] rfl)
    · have h := z_t h c
      refine lv_iconst (v := 0) hx hb dX1_heldRace_74 (by decide) ?_
      refine lv_goto (tgt := 87) hx hb dX1_heldRace_75 (by decide) ?_
      exact bk_87_2  v1 v2 v3 v4 v5 v6 s0 (0 : Int32) o_me_isles_now o_me_machine _ _ _ h hw (lv_sub hl [1, 2, 3, 4, 5, 6, 7, 0] rfl)
  have bk_45_0 : ∀ (v1 : Int32) (v2 : Option Nat) (v3 : Int32) (v4 : Int32) (v5 : Int32) (s0 : Int32) (o_me_isles_now : Ob) (o_me_machine : Ob) (H : Heap) (locs : List Loc) (ls : Array Slot), bk_X1_heldRace_45 o_me o_me_isles o_pool  v1 v2 v3 v4 v5 s0 o_me_isles_now o_me_machine = some y → Wd dC dI A s.heap [wX1 h_me h_me_isles h_me_machine q_me k_me o_me, wX2 h_me_isles h_me_isles_now q_me_isles k_me_isles o_me_isles, wX4 h_me_isles_now q_me_isles_now k_me_isles_now o_me_isles_now, wX3 h_me_machine q_me_machine k_me_machine o_me_machine, wPL o_pool] H locs → lv_has ls 10 [(0, .ref h_me), (1, .int v1), (2, va_rf v2), (3, .int v3), (4, .int v4), (5, .int v5)] → W p l e ({ frames := 4, cells := 0, slots := 0, locals := 110 } : Room) s m ([.ref h_me, .int p0] : List Value).toArray below meth c H locs 0 0 Qz (F0 m 45 ls [.int s0]) := by
    intro v1 v2 v3 v4 v5 s0 o_me_isles_now o_me_machine H locs ls h hw hl
    unfold bk_X1_heldRace_45 at h
    refine lv_istore (lv' := [(6, .int s0), (0, .ref h_me), (1, .int v1), (2, va_rf v2), (3, .int v3), (4, .int v4), (5, .int v5)]) hx hb dX1_heldRace_45 hl (by decide) rfl (fun ls hl => ?_)
    refine lv_iload hx hb dX1_heldRace_47 (lv_at hl 5 rfl) ?_
    refine lv_iconst (v := (-1)) hx hb dX1_heldRace_49 (by decide) ?_
    refine lv_icmp_ne (tgt := 57) hx hb dX1_heldRace_50 (by decide) (fun c => ?_) (fun c => ?_)
    · have h := z_f h c
      refine lv_aload_n hx hb dX1_heldRace_57 rfl (lv_at hl 1 rfl) ?_
      refine xaload_n hx hb dX1_heldRace_58 rfl (lv_at hl 3 rfl) ?_
      refine lv_iload hx hb dX1_heldRace_59 (lv_at hl 5 rfl) ?_
      refine lv_iload_n hx hb dX1_heldRace_61 rfl (lv_at hl 2 rfl) ?_
      refine lv_iconst (v := 2) hx hb dX1_heldRace_62 (by decide) ?_
      obtain ⟨z6, ez6, h⟩ := z_bd h
      refine xj_i (xrV (As := [va_rf v2, .int v4, .int v1, .int (2 : Int32)]) (rest := []) ⟨hx, hb, hml, hown, hts⟩ (m_X1_wins_Q l dC dI _ h_me h_me_isles h_me_machine h_me_isles_now q_me k_me q_me_isles k_me_isles q_me_isles_now k_me_isles_now q_me_machine k_me_machine o_me o_me_isles o_me_isles_now o_me_machine o_pool v2 v4 v1 (2 : Int32) z6 ez6) kw871 kw868 kw870 kw21 kw117 hd_X1_wins ⟨rfl, rfl⟩ rfl rfl ⟨rfl, rfl⟩ hX hK hw [0, 1, 2, 3, 4] (by decide) rfl rfl rfl rfl rfl hl.1 rfl rfl dX1_heldRace_63) hw hA [0, 1, 2, 3, 4] (by decide) rfl rfl (fun H locs hw => ?_)
      have hw : Wd dC dI A s.heap [wX1 h_me h_me_isles h_me_machine q_me k_me o_me, wX2 h_me_isles h_me_isles_now q_me_isles k_me_isles o_me_isles, wX4 h_me_isles_now q_me_isles_now k_me_isles_now o_me_isles_now, wX3 h_me_machine q_me_machine k_me_machine z6.2, wPL o_pool] H locs := hw
      exact bk_66_1  v1 v2 v3 v4 v5 s0 z6.1 o_me_isles_now z6.2 _ _ _ h hw (lv_sub hl [1, 2, 3, 4, 5, 6, 0] rfl)
    · have h := z_t h c
      refine lv_iconst (v := 0) hx hb dX1_heldRace_53 (by decide) ?_
      refine lv_goto (tgt := 66) hx hb dX1_heldRace_54 (by decide) ?_
      exact bk_66_1  v1 v2 v3 v4 v5 s0 (0 : Int32) o_me_isles_now o_me_machine _ _ _ h hw (lv_sub hl [1, 2, 3, 4, 5, 6, 0] rfl)
  unfold f_X1_heldRace at h
  refine lv_aload_n hx hb dX1_heldRace_0 rfl (lv_at hl 0 rfl) ?_
  refine fgX1_0 hx hb hts hown hK hw 0 rfl kw363 dX1_heldRace_1 ?_
  obtain ⟨z1, ez1, h⟩ := z_bd h
  refine xj_q (xrV (As := []) (rest := []) ⟨hx, hb, hml, hown, hts⟩ (m_X2_lawInForce l dC dI _ h_me_isles h_me_isles_now q_me_isles k_me_isles o_me_isles z1 ez1) kw531 kw853 kw529 kw530 kw115 hd_X2_lawInForce ⟨rfl, rfl⟩ rfl rfl ⟨rfl, rfl⟩ hX hK hw [1] (by decide) rfl rfl rfl rfl rfl hl.1 rfl rfl dX1_heldRace_4) hw hA [1] (by decide) rfl rfl (fun H locs hw => ?_)
  have hw : Wd dC dI A s.heap [wX1 h_me h_me_isles h_me_machine q_me k_me o_me, wX2 h_me_isles h_me_isles_now q_me_isles k_me_isles o_me_isles, wX4 h_me_isles_now q_me_isles_now k_me_isles_now o_me_isles_now, wX3 h_me_machine q_me_machine k_me_machine o_me_machine, wPL o_pool] H locs := hw
  refine xastore_n (lv' := [(2, va_rf z1), (0, .ref h_me), (1, .int p0)]) hx hb dX1_heldRace_7 rfl hl (by decide) rfl (fun ls hl => ?_)
  refine lv_aload_n hx hb dX1_heldRace_8 rfl (lv_at hl 1 rfl) ?_
  refine lv_iconst (v := 1) hx hb dX1_heldRace_9 (by decide) ?_
  obtain ⟨z2, ez2, h⟩ := z_bd h
  refine xj_i (xrV (As := [.int (1 : Int32)]) (rest := []) ⟨hx, hb, hml, hown, hts⟩ (m_X1_at l dC dI _ h_me h_me_isles h_me_machine q_me k_me o_me (1 : Int32) z2 ez2) kw615 kw867 kw613 kw614 kw117 hd_X1_at ⟨rfl, rfl⟩ rfl rfl ⟨rfl, rfl⟩ hX hK hw [0] (by decide) rfl rfl rfl rfl rfl hl.1 rfl rfl dX1_heldRace_10) hw hA [0] (by decide) rfl rfl (fun H locs hw => ?_)
  have hw : Wd dC dI A s.heap [wX1 h_me h_me_isles h_me_machine q_me k_me o_me, wX2 h_me_isles h_me_isles_now q_me_isles k_me_isles o_me_isles, wX4 h_me_isles_now q_me_isles_now k_me_isles_now o_me_isles_now, wX3 h_me_machine q_me_machine k_me_machine o_me_machine, wPL o_pool] H locs := hw
  refine lv_istore_n (lv' := [(3, .int z2), (2, va_rf z1), (0, .ref h_me), (1, .int p0)]) hx hb dX1_heldRace_13 rfl hl (by decide) (by generalize z1 = r9; cases r9 <;> rfl) (fun ls hl => ?_)
  refine lv_aload_n hx hb dX1_heldRace_14 rfl (lv_at hl 2 rfl) ?_
  refine lv_iconst (v := 2) hx hb dX1_heldRace_15 (by decide) ?_
  obtain ⟨z3, ez3, h⟩ := z_bd h
  refine xj_i (xrV (As := [.int (2 : Int32)]) (rest := []) ⟨hx, hb, hml, hown, hts⟩ (m_X1_at l dC dI _ h_me h_me_isles h_me_machine q_me k_me o_me (2 : Int32) z3 ez3) kw615 kw867 kw613 kw614 kw117 hd_X1_at ⟨rfl, rfl⟩ rfl rfl ⟨rfl, rfl⟩ hX hK hw [0] (by decide) rfl rfl rfl rfl rfl hl.1 rfl rfl dX1_heldRace_16) hw hA [0] (by decide) rfl rfl (fun H locs hw => ?_)
  have hw : Wd dC dI A s.heap [wX1 h_me h_me_isles h_me_machine q_me k_me o_me, wX2 h_me_isles h_me_isles_now q_me_isles k_me_isles o_me_isles, wX4 h_me_isles_now q_me_isles_now k_me_isles_now o_me_isles_now, wX3 h_me_machine q_me_machine k_me_machine o_me_machine, wPL o_pool] H locs := hw
  refine lv_istore (lv' := [(4, .int z3), (3, .int z2), (2, va_rf z1), (0, .ref h_me), (1, .int p0)]) hx hb dX1_heldRace_19 hl (by decide) rfl (fun ls hl => ?_)
  refine lv_aload_n hx hb dX1_heldRace_21 rfl (lv_at hl 3 rfl) ?_
  refine lv_iconst (v := 3) hx hb dX1_heldRace_22 (by decide) ?_
  obtain ⟨z4, ez4, h⟩ := z_bd h
  refine xj_i (xrV (As := [.int (3 : Int32)]) (rest := []) ⟨hx, hb, hml, hown, hts⟩ (m_X1_at l dC dI _ h_me h_me_isles h_me_machine q_me k_me o_me (3 : Int32) z4 ez4) kw615 kw867 kw613 kw614 kw117 hd_X1_at ⟨rfl, rfl⟩ rfl rfl ⟨rfl, rfl⟩ hX hK hw [0] (by decide) rfl rfl rfl rfl rfl hl.1 rfl rfl dX1_heldRace_23) hw hA [0] (by decide) rfl rfl (fun H locs hw => ?_)
  have hw : Wd dC dI A s.heap [wX1 h_me h_me_isles h_me_machine q_me k_me o_me, wX2 h_me_isles h_me_isles_now q_me_isles k_me_isles o_me_isles, wX4 h_me_isles_now q_me_isles_now k_me_isles_now o_me_isles_now, wX3 h_me_machine q_me_machine k_me_machine o_me_machine, wPL o_pool] H locs := hw
  refine lv_istore (lv' := [(5, .int z4), (4, .int z3), (3, .int z2), (2, va_rf z1), (0, .ref h_me), (1, .int p0)]) hx hb dX1_heldRace_26 hl (by decide) rfl (fun ls hl => ?_)
  refine lv_iload_n hx hb dX1_heldRace_28 rfl (lv_at hl 2 rfl) ?_
  refine lv_iconst (v := (-1)) hx hb dX1_heldRace_29 (by decide) ?_
  refine lv_icmp_ne (tgt := 37) hx hb dX1_heldRace_30 (by decide) (fun c => ?_) (fun c => ?_)
  · have h := z_f h c
    refine lv_aload_n hx hb dX1_heldRace_37 rfl (lv_at hl 4 rfl) ?_
    refine xaload_n hx hb dX1_heldRace_38 rfl (lv_at hl 3 rfl) ?_
    refine lv_iload_n hx hb dX1_heldRace_39 rfl (lv_at hl 2 rfl) ?_
    refine lv_iload_n hx hb dX1_heldRace_40 rfl (lv_at hl 5 rfl) ?_
    refine lv_iconst (v := 1) hx hb dX1_heldRace_41 (by decide) ?_
    obtain ⟨z5, ez5, h⟩ := z_bd h
    refine xj_i (xrV (As := [va_rf z1, .int z2, .int p0, .int (1 : Int32)]) (rest := []) ⟨hx, hb, hml, hown, hts⟩ (m_X1_wins_Q l dC dI _ h_me h_me_isles h_me_machine h_me_isles_now q_me k_me q_me_isles k_me_isles q_me_isles_now k_me_isles_now q_me_machine k_me_machine o_me o_me_isles o_me_isles_now o_me_machine o_pool z1 z2 p0 (1 : Int32) z5 ez5) kw871 kw868 kw870 kw21 kw117 hd_X1_wins ⟨rfl, rfl⟩ rfl rfl ⟨rfl, rfl⟩ hX hK hw [0, 1, 2, 3, 4] (by decide) rfl rfl rfl rfl rfl hl.1 rfl rfl dX1_heldRace_42) hw hA [0, 1, 2, 3, 4] (by decide) rfl rfl (fun H locs hw => ?_)
    have hw : Wd dC dI A s.heap [wX1 h_me h_me_isles h_me_machine q_me k_me o_me, wX2 h_me_isles h_me_isles_now q_me_isles k_me_isles o_me_isles, wX4 h_me_isles_now q_me_isles_now k_me_isles_now o_me_isles_now, wX3 h_me_machine q_me_machine k_me_machine z5.2, wPL o_pool] H locs := hw
    exact bk_45_0  p0 z1 z2 z3 z4 z5.1 o_me_isles_now z5.2 _ _ _ h hw (lv_sub hl [4, 5, 3, 2, 1, 0] rfl)
  · have h := z_t h c
    refine lv_iconst (v := 0) hx hb dX1_heldRace_33 (by decide) ?_
    refine lv_goto (tgt := 45) hx hb dX1_heldRace_34 (by decide) ?_
    exact bk_45_0  p0 z1 z2 z3 z4 (0 : Int32) o_me_isles_now o_me_machine _ _ _ h hw (lv_sub hl [4, 5, 3, 2, 1, 0] rfl)

def f_X1_changedEntry (o_me : Ob) (o_me_isles : Ob) (o_me_isles_now : Ob) (p0 : Int32) : Option (Int32 × Ob) :=
  zlt (sI o_me_isles_now 2 ((gI o_me_isles_now 2) ^^^ ((1 : Int32) <<< (p0 &&& 31)))) fun o1 =>
  some (((gI o1 2) >>> (p0 &&& 31)) &&& (1 : Int32), o1)
set_option maxHeartbeats 4000000 in
set_option maxRecDepth 100000 in
theorem m_X1_changedEntry (l : Launch) (dC : Nat → ClassId) (dI : Nat → Nat → Nat) (sz : Nat) (h_me : Nat) (h_me_isles : Nat) (h_me_machine : Nat) (h_me_isles_now : Nat) (q_me : Nat → Nat) (k_me : Nat → ClassId) (q_me_isles : Nat → Nat) (k_me_isles : Nat → ClassId) (q_me_isles_now : Nat → Nat) (k_me_isles_now : Nat → ClassId) (o_me : Ob) (o_me_isles : Ob) (o_me_isles_now : Ob) (p0 : Int32) (y : Int32 × Ob) (h : f_X1_changedEntry o_me o_me_isles o_me_isles_now p0 = some y) : CI l yX1_changedEntry cX1_changedEntry 2 (some .int) ({ frames := 0, cells := 0, slots := 0, locals := 0 } : Room) dC dI sz [.ref h_me, .int p0] [wX1 h_me h_me_isles h_me_machine q_me k_me o_me, wX2 h_me_isles h_me_isles_now q_me_isles k_me_isles o_me_isles, wX4 h_me_isles_now q_me_isles_now k_me_isles_now o_me_isles_now] [tX1 k_me, tX2 k_me_isles, tX4 k_me_isles_now] y.1 [wX1 h_me h_me_isles h_me_machine q_me k_me o_me, wX2 h_me_isles h_me_isles_now q_me_isles k_me_isles o_me_isles, wX4 h_me_isles_now q_me_isles_now k_me_isles_now y.2] := by
  refine CC_of (by decide) (Nat.le_of_ble_eq_true rfl) ?_
  intro p e s m below meth c A ls hx hb hml hr hlk hnm hown hts hX hK hP hD hA hl
  have hl : lv_has ls 2 [(0, .ref h_me), (1, .int p0)] := hl
  have hown : s.vm.findClass RX1 = some m.cls := hown
  have hw : Wd dC dI A s.heap [wX1 h_me h_me_isles h_me_machine q_me k_me o_me, wX2 h_me_isles h_me_isles_now q_me_isles k_me_isles o_me_isles, wX4 h_me_isles_now q_me_isles_now k_me_isles_now o_me_isles_now] s.heap [] := ⟨hP, hD, va_S.rf⟩
  generalize hQz : (MQ below (QI dC dI (fun r (_ : Unit) => r = y.1) (fun _ => Jn [wX1 h_me h_me_isles h_me_machine q_me k_me o_me, wX2 h_me_isles h_me_isles_now q_me_isles k_me_isles o_me_isles, wX4 h_me_isles_now q_me_isles_now k_me_isles_now y.2]) (fun _ => Jt [tX1 k_me, tX2 k_me_isles, tX4 k_me_isles_now]) A) ([.ref h_me, .int p0] : List Value).toArray s 0 0 A) = Qz
  clear hP hD hnm
  unfold f_X1_changedEntry at h
  refine lv_aload_n hx hb dX1_changedEntry_0 rfl (lv_at hl 0 rfl) ?_
  refine fgX1_0 hx hb hts hown hK hw 0 rfl kw363 dX1_changedEntry_1 ?_
  refine fgX2_0 hx hb hts hown hK hw 1 rfl kw299 dX1_changedEntry_4 ?_
  refine lv_dup hx hb dX1_changedEntry_7 rfl ?_
  refine fgX4_2 hx hb hts hown hK hw 2 rfl kw271 dX1_changedEntry_8 ?_
  refine lv_iconst (v := 1) hx hb dX1_changedEntry_11 (by decide) ?_
  refine lv_iload_n hx hb dX1_changedEntry_12 rfl (lv_at hl 1 rfl) ?_
  refine lv_ishl hx hb dX1_changedEntry_13 ?_
  refine lv_ixor hx hb dX1_changedEntry_14 ?_
  refine fpX4_2 hx hb hts hown hK hw 2 rfl kw271 dX1_changedEntry_15 (fun H locs hw => ?_)
  obtain ⟨o1, eo1, h⟩ := z_lt h
  have hw : Wd dC dI A s.heap [wX1 h_me h_me_isles h_me_machine q_me k_me o_me, wX2 h_me_isles h_me_isles_now q_me_isles k_me_isles o_me_isles, wX4 h_me_isles_now q_me_isles_now k_me_isles_now o1] H locs := by rw [eo1]; exact hw
  refine lv_aload_n hx hb dX1_changedEntry_18 rfl (lv_at hl 0 rfl) ?_
  refine fgX1_0 hx hb hts hown hK hw 0 rfl kw363 dX1_changedEntry_19 ?_
  refine fgX2_0 hx hb hts hown hK hw 1 rfl kw299 dX1_changedEntry_22 ?_
  refine fgX4_2 hx hb hts hown hK hw 2 rfl kw271 dX1_changedEntry_25 ?_
  refine lv_iload_n hx hb dX1_changedEntry_28 rfl (lv_at hl 1 rfl) ?_
  refine lv_ishr hx hb dX1_changedEntry_29 ?_
  refine lv_iconst (v := 1) hx hb dX1_changedEntry_30 (by decide) ?_
  refine lv_iand hx hb dX1_changedEntry_31 ?_
  have hy := Option.some.inj h
  rw [← hQz, ← hy]
  exact xr_i (v := ((gI o1 2) >>> (p0 &&& 31)) &&& (1 : Int32)) hx hb hr rfl hlk hK hw dX1_changedEntry_32

def f_X1_takenGap (o_me : Ob) (o_me_isles : Ob) (o_me_isles_now : Ob) (p0 : Int32) : Option (Int32 × Ob) :=
  zlt (gI o_me_isles_now 3) fun x1 =>
  (f_X4_addPrizes o_me_isles_now p0 x1).bind fun z2 =>
  zlt (sI z2 3 (0 : Int32)) fun o3 =>
  some (x1, o3)
set_option maxHeartbeats 4000000 in
set_option maxRecDepth 100000 in
theorem m_X1_takenGap (l : Launch) (dC : Nat → ClassId) (dI : Nat → Nat → Nat) (sz : Nat) (h_me : Nat) (h_me_isles : Nat) (h_me_machine : Nat) (h_me_isles_now : Nat) (q_me : Nat → Nat) (k_me : Nat → ClassId) (q_me_isles : Nat → Nat) (k_me_isles : Nat → ClassId) (q_me_isles_now : Nat → Nat) (k_me_isles_now : Nat → ClassId) (o_me : Ob) (o_me_isles : Ob) (o_me_isles_now : Ob) (p0 : Int32) (y : Int32 × Ob) (h : f_X1_takenGap o_me o_me_isles o_me_isles_now p0 = some y) : CI l yX1_takenGap cX1_takenGap 3 (some .int) ({ frames := 2, cells := 0, slots := 0, locals := 37 } : Room) dC dI sz [.ref h_me, .int p0] [wX1 h_me h_me_isles h_me_machine q_me k_me o_me, wX2 h_me_isles h_me_isles_now q_me_isles k_me_isles o_me_isles, wX4 h_me_isles_now q_me_isles_now k_me_isles_now o_me_isles_now] [tX1 k_me, tX2 k_me_isles, tX4 k_me_isles_now] y.1 [wX1 h_me h_me_isles h_me_machine q_me k_me o_me, wX2 h_me_isles h_me_isles_now q_me_isles k_me_isles o_me_isles, wX4 h_me_isles_now q_me_isles_now k_me_isles_now y.2] := by
  refine CC_of (by decide) (Nat.le_of_ble_eq_true rfl) ?_
  intro p e s m below meth c A ls hx hb hml hr hlk hnm hown hts hX hK hP hD hA hl
  have hl : lv_has ls 3 [(0, .ref h_me), (1, .int p0)] := hl
  have hown : s.vm.findClass RX1 = some m.cls := hown
  have hw : Wd dC dI A s.heap [wX1 h_me h_me_isles h_me_machine q_me k_me o_me, wX2 h_me_isles h_me_isles_now q_me_isles k_me_isles o_me_isles, wX4 h_me_isles_now q_me_isles_now k_me_isles_now o_me_isles_now] s.heap [] := ⟨hP, hD, va_S.rf⟩
  generalize hQz : (MQ below (QI dC dI (fun r (_ : Unit) => r = y.1) (fun _ => Jn [wX1 h_me h_me_isles h_me_machine q_me k_me o_me, wX2 h_me_isles h_me_isles_now q_me_isles k_me_isles o_me_isles, wX4 h_me_isles_now q_me_isles_now k_me_isles_now y.2]) (fun _ => Jt [tX1 k_me, tX2 k_me_isles, tX4 k_me_isles_now]) A) ([.ref h_me, .int p0] : List Value).toArray s 0 0 A) = Qz
  clear hP hD hnm
  unfold f_X1_takenGap at h
  refine lv_aload_n hx hb dX1_takenGap_0 rfl (lv_at hl 0 rfl) ?_
  refine fgX1_0 hx hb hts hown hK hw 0 rfl kw363 dX1_takenGap_1 ?_
  refine fgX2_0 hx hb hts hown hK hw 1 rfl kw299 dX1_takenGap_4 ?_
  refine fgX4_3 hx hb hts hown hK hw 2 rfl kw275 dX1_takenGap_7 ?_
  obtain ⟨x1, ex1, h⟩ := z_lt h
  refine lv_fi (v := x1) ex1.symm ?_
  refine lv_istore_n (lv' := [(2, .int x1), (0, .ref h_me), (1, .int p0)]) hx hb dX1_takenGap_10 rfl hl (by decide) rfl (fun ls hl => ?_)
  refine lv_aload_n hx hb dX1_takenGap_11 rfl (lv_at hl 1 rfl) ?_
  refine fgX1_0 hx hb hts hown hK hw 0 rfl kw363 dX1_takenGap_12 ?_
  refine fgX2_0 hx hb hts hown hK hw 1 rfl kw299 dX1_takenGap_15 ?_
  refine lv_iload_n hx hb dX1_takenGap_18 rfl (lv_at hl 2 rfl) ?_
  refine lv_iload_n hx hb dX1_takenGap_19 rfl (lv_at hl 0 rfl) ?_
  obtain ⟨z2, ez2, h⟩ := z_bd h
  refine xj_v (xrV (As := [.int p0, .int x1]) (rest := []) ⟨hx, hb, hml, hown, hts⟩ (m_X4_addPrizes l dC dI _ h_me_isles_now q_me_isles_now k_me_isles_now o_me_isles_now p0 x1 z2 ez2) kw880 kw877 kw878 kw879 kw116 hd_X4_addPrizes ⟨rfl, rfl⟩ rfl rfl ⟨rfl, rfl⟩ hX hK hw [2] (by decide) rfl rfl rfl rfl rfl hl.1 rfl rfl dX1_takenGap_20) hw hA [2] (by decide) rfl rfl (fun H locs hw => ?_)
  have hw : Wd dC dI A s.heap [wX1 h_me h_me_isles h_me_machine q_me k_me o_me, wX2 h_me_isles h_me_isles_now q_me_isles k_me_isles o_me_isles, wX4 h_me_isles_now q_me_isles_now k_me_isles_now z2] H locs := hw
  refine lv_aload_n hx hb dX1_takenGap_23 rfl (lv_at hl 1 rfl) ?_
  refine fgX1_0 hx hb hts hown hK hw 0 rfl kw363 dX1_takenGap_24 ?_
  refine fgX2_0 hx hb hts hown hK hw 1 rfl kw299 dX1_takenGap_27 ?_
  refine lv_iconst (v := 0) hx hb dX1_takenGap_30 (by decide) ?_
  refine fpX4_3 hx hb hts hown hK hw 2 rfl kw275 dX1_takenGap_31 (fun H locs hw => ?_)
  obtain ⟨o3, eo3, h⟩ := z_lt h
  have hw : Wd dC dI A s.heap [wX1 h_me h_me_isles h_me_machine q_me k_me o_me, wX2 h_me_isles h_me_isles_now q_me_isles k_me_isles o_me_isles, wX4 h_me_isles_now q_me_isles_now k_me_isles_now o3] H locs := by rw [eo3]; exact hw
  refine lv_iload_n hx hb dX1_takenGap_34 rfl (lv_at hl 0 rfl) ?_
  have hy := Option.some.inj h
  rw [← hQz, ← hy]
  exact xr_i (v := x1) hx hb hr rfl hlk hK hw dX1_takenGap_35

def lb_X1_hasTradeOfLower_2 (o_me : Ob) (o_me_isles : Ob) (o_me_isles_now : Ob)  (rec_2_0 : Int32 × Int32 → Option (Int32)) (v1 : Int32) (v2 : Int32) : Option (Int32) :=
  if v1 ≤ v2 then
  (some (0 : Int32))
  else
  (zgd (zin v2 7) <|
  zgd (zin v1 7) <|
  if (gA o_me_isles_now 0 v2.toNatClampNeg) = (gA o_me_isles_now 0 v1.toNatClampNeg) then
  (some (1 : Int32))
  else
  (zlt (v2 + (1 : Int32)) fun x3 =>
  rec_2_0 (v1, x3)))
def lp_X1_hasTradeOfLower_2 (o_me : Ob) (o_me_isles : Ob) (o_me_isles_now : Ob)  : Nat → (Int32 × Int32) → Option (Int32) := zit (fun rec a => lb_X1_hasTradeOfLower_2 o_me o_me_isles o_me_isles_now  rec a.1 a.2)
def f_X1_hasTradeOfLower (o_me : Ob) (o_me_isles : Ob) (o_me_isles_now : Ob) (p0 : Int32) : Option (Int32) :=
  lp_X1_hasTradeOfLower_2 o_me o_me_isles o_me_isles_now  zfu (p0, (0 : Int32))
set_option maxHeartbeats 4000000 in
set_option maxRecDepth 100000 in
theorem m_X1_hasTradeOfLower (l : Launch) (dC : Nat → ClassId) (dI : Nat → Nat → Nat) (sz : Nat) (h_me : Nat) (h_me_isles : Nat) (h_me_machine : Nat) (h_me_isles_now : Nat) (q_me : Nat → Nat) (k_me : Nat → ClassId) (q_me_isles : Nat → Nat) (k_me_isles : Nat → ClassId) (q_me_isles_now : Nat → Nat) (k_me_isles_now : Nat → ClassId) (o_me : Ob) (o_me_isles : Ob) (o_me_isles_now : Ob) (p0 : Int32) (y : Int32) (h : f_X1_hasTradeOfLower o_me o_me_isles o_me_isles_now p0 = some y) : CI l yX1_hasTradeOfLower cX1_hasTradeOfLower 3 (some .boolean) ({ frames := 0, cells := 0, slots := 0, locals := 0 } : Room) dC dI sz [.ref h_me, .int p0] [wX1 h_me h_me_isles h_me_machine q_me k_me o_me, wX2 h_me_isles h_me_isles_now q_me_isles k_me_isles o_me_isles, wX4 h_me_isles_now q_me_isles_now k_me_isles_now o_me_isles_now] [tX1 k_me, tX2 k_me_isles, tX4 k_me_isles_now] y [wX1 h_me h_me_isles h_me_machine q_me k_me o_me, wX2 h_me_isles h_me_isles_now q_me_isles k_me_isles o_me_isles, wX4 h_me_isles_now q_me_isles_now k_me_isles_now o_me_isles_now] := by
  refine CC_of (by decide) (Nat.le_of_ble_eq_true rfl) ?_
  intro p e s m below meth c A ls hx hb hml hr hlk hnm hown hts hX hK hP hD hA hl
  have hl : lv_has ls 3 [(0, .ref h_me), (1, .int p0)] := hl
  have hown : s.vm.findClass RX1 = some m.cls := hown
  have hw : Wd dC dI A s.heap [wX1 h_me h_me_isles h_me_machine q_me k_me o_me, wX2 h_me_isles h_me_isles_now q_me_isles k_me_isles o_me_isles, wX4 h_me_isles_now q_me_isles_now k_me_isles_now o_me_isles_now] s.heap [] := ⟨hP, hD, va_S.rf⟩
  generalize hQz : (MQ below (QI dC dI (fun r (_ : Unit) => r = y) (fun _ => Jn [wX1 h_me h_me_isles h_me_machine q_me k_me o_me, wX2 h_me_isles h_me_isles_now q_me_isles k_me_isles o_me_isles, wX4 h_me_isles_now q_me_isles_now k_me_isles_now o_me_isles_now]) (fun _ => Jt [tX1 k_me, tX2 k_me_isles, tX4 k_me_isles_now]) A) ([.ref h_me, .int p0] : List Value).toArray s 0 0 A) = Qz
  clear hP hD hnm
  have lp_2_0 : ∀ (N : Nat), ∀ (v1 : Int32) (v2 : Int32) (H : Heap) (locs : List Loc) (ls : Array Slot), lp_X1_hasTradeOfLower_2 o_me o_me_isles o_me_isles_now  N (v1, v2) = some y → Wd dC dI A s.heap [wX1 h_me h_me_isles h_me_machine q_me k_me o_me, wX2 h_me_isles h_me_isles_now q_me_isles k_me_isles o_me_isles, wX4 h_me_isles_now q_me_isles_now k_me_isles_now o_me_isles_now] H locs → lv_has ls 3 [(0, .ref h_me), (1, .int v1), (2, .int v2)] → W p l e ({ frames := 0, cells := 0, slots := 0, locals := 0 } : Room) s m ([.ref h_me, .int p0] : List Value).toArray below meth c H locs 0 0 Qz (F0 m 2 ls []) := by
    intro N
    induction N with
    | zero =>
      intro v1 v2 H locs ls h hw hl
      exact absurd (show (none : Option (Int32)) = some y from h) (by simp)
    | succ N ih =>
      intro v1 v2 H locs ls h hw hl
      have h : lb_X1_hasTradeOfLower_2 o_me o_me_isles o_me_isles_now  (lp_X1_hasTradeOfLower_2 o_me o_me_isles o_me_isles_now  N) v1 v2 = some y := h
      unfold lb_X1_hasTradeOfLower_2 at h
      refine lv_iload_n hx hb dX1_hasTradeOfLower_2 rfl (lv_at hl 2 rfl) ?_
      refine lv_iload_n hx hb dX1_hasTradeOfLower_3 rfl (lv_at hl 1 rfl) ?_
      refine lv_icmp_ge (tgt := 42) hx hb dX1_hasTradeOfLower_4 (by decide) (fun c => ?_) (fun c => ?_)
      · have h := z_t h c
        refine lv_iconst (v := 0) hx hb dX1_hasTradeOfLower_42 (by decide) ?_
        have hy := Option.some.inj h
        rw [← hQz, ← hy]
        exact xr_i (v := (0 : Int32)) hx hb hr rfl hlk hK hw dX1_hasTradeOfLower_43
      · have h := z_f h c
        refine lv_aload_n hx hb dX1_hasTradeOfLower_7 rfl (lv_at hl 0 rfl) ?_
        refine fgX1_0 hx hb hts hown hK hw 0 rfl kw363 dX1_hasTradeOfLower_8 ?_
        refine fgX2_0 hx hb hts hown hK hw 1 rfl kw299 dX1_hasTradeOfLower_11 ?_
        refine fgX4_0 hx hb hts hown hK hw 2 rfl kw263 dX1_hasTradeOfLower_14 ?_
        refine lv_iload_n hx hb dX1_hasTradeOfLower_17 rfl (lv_at hl 2 rfl) ?_
        obtain ⟨g1, h⟩ := z_gd h
        refine faX4_0 hx hb hK hw 2 rfl rfl g1 dX1_hasTradeOfLower_18 ?_
        refine lv_aload_n hx hb dX1_hasTradeOfLower_19 rfl (lv_at hl 0 rfl) ?_
        refine fgX1_0 hx hb hts hown hK hw 0 rfl kw363 dX1_hasTradeOfLower_20 ?_
        refine fgX2_0 hx hb hts hown hK hw 1 rfl kw299 dX1_hasTradeOfLower_23 ?_
        refine fgX4_0 hx hb hts hown hK hw 2 rfl kw263 dX1_hasTradeOfLower_26 ?_
        refine lv_iload_n hx hb dX1_hasTradeOfLower_29 rfl (lv_at hl 1 rfl) ?_
        obtain ⟨g2, h⟩ := z_gd h
        refine faX4_0 hx hb hK hw 2 rfl rfl g2 dX1_hasTradeOfLower_30 ?_
        refine lv_icmp_ne (tgt := 36) hx hb dX1_hasTradeOfLower_31 (by decide) (fun c => ?_) (fun c => ?_)
        · have h := z_f h c
          obtain ⟨x3, ex3, h⟩ := z_lt h
          refine lv_iinc (v := x3) (lv' := [(2, .int x3), (0, .ref h_me), (1, .int v1)]) hx hb dX1_hasTradeOfLower_36 hl (k := 2) rfl ((congrArg (v2 + ·) (show Int32.ofInt 1 = (1 : Int32) from by decide)).trans ex3.symm) (by decide) rfl (fun ls hl => ?_)
          refine lv_goto (tgt := 2) hx hb dX1_hasTradeOfLower_39 (by decide) ?_
          exact ih v1 x3 _ _ _ h hw (lv_sub hl [1, 2, 0] rfl)
        · have h := z_t h c
          refine lv_iconst (v := 1) hx hb dX1_hasTradeOfLower_34 (by decide) ?_
          have hy := Option.some.inj h
          rw [← hQz, ← hy]
          exact xr_i (v := (1 : Int32)) hx hb hr rfl hlk hK hw dX1_hasTradeOfLower_35
  unfold f_X1_hasTradeOfLower at h
  refine lv_iconst (v := 0) hx hb dX1_hasTradeOfLower_0 (by decide) ?_
  refine lv_istore_n (lv' := [(2, .int (0 : Int32)), (0, .ref h_me), (1, .int p0)]) hx hb dX1_hasTradeOfLower_1 rfl hl (by decide) rfl (fun ls hl => ?_)
  exact lp_2_0  zfu p0 (0 : Int32) _ _ _ h hw (lv_sub hl [1, 2, 0] rfl)

