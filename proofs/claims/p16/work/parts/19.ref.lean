def bk_X9_strength_24   (o_me : Ob) : Option (Int32 × Ob) :=
  (f_X9_tell o_me (-1 : Int32)).bind fun z3 =>
  some (z3.1, z3.2)
def f_X9_strength (o_me : Ob) (p0 : Int32) (p1 : Int32) (p2 : Int32) : Option (Int32 × Ob) :=
  zlt (sI o_me 0 (0 : Int32)) fun o1 =>
  (f_X9_isRace p1).bind fun z2 =>
  if z2 = (0 : Int32) then
  (bk_X9_strength_24   o1)
  else
  ((f_X9_in p2.toInt64 (0 : Int64) (9 : Int64)).bind fun z4 =>
  if z4 = (0 : Int32) then
  (bk_X9_strength_24   o1)
  else
  ((f_X9_isPerson o1 p0).bind fun z5 =>
  if z5 = (0 : Int32) then
  ((f_X9_tell o1 (-2 : Int32)).bind fun z6 =>
  some (z6.1, z6.2))
  else
  ((f_X9_change o1 (((36 : Int32) + ((4 : Int32) * p0)) + p1) p2).bind fun z7 =>
  some (z7.1, z7.2))))
set_option maxHeartbeats 4000000 in
set_option maxRecDepth 100000 in
theorem m_X9_strength (l : Launch) (dC : Nat → ClassId) (dI : Nat → Nat → Nat) (sz : Nat) (h_me : Nat) (q_me : Nat → Nat) (k_me : Nat → ClassId) (o_me : Ob) (p0 : Int32) (p1 : Int32) (p2 : Int32) (y : Int32 × Ob) (h : f_X9_strength o_me p0 p1 p2 = some y) : CI l yX9_strength cX9_strength 4 (some .int) ({ frames := 2, cells := 0, slots := 0, locals := 46 } : Room) dC dI sz [.ref h_me, .int p0, .int p1, .int p2] [wX9 h_me q_me k_me o_me] [tX9 k_me] y.1 [wX9 h_me q_me k_me y.2] := by
  refine CC_of (by decide) (Nat.le_of_ble_eq_true rfl) ?_
  intro p e s m below meth c A ls hx hb hml hr hlk hnm hown hts hX hK hP hD hA hl
  have hl : lv_has ls 4 [(0, .ref h_me), (1, .int p0), (2, .int p1), (3, .int p2)] := hl
  have hown : s.vm.findClass RX9 = some m.cls := hown
  have hw : Wd dC dI A s.heap [wX9 h_me q_me k_me o_me] s.heap [] := ⟨hP, hD, va_S.rf⟩
  generalize hQz : (MQ below (QI dC dI (fun r (_ : Unit) => r = y.1) (fun _ => Jn [wX9 h_me q_me k_me y.2]) (fun _ => Jt [tX9 k_me]) A) ([.ref h_me, .int p0, .int p1, .int p2] : List Value).toArray s 0 0 A) = Qz
  clear hP hD hnm
  have bk_24_0 : ∀ (o_me : Ob) (H : Heap) (locs : List Loc) (ls : Array Slot), bk_X9_strength_24   o_me = some y → Wd dC dI A s.heap [wX9 h_me q_me k_me o_me] H locs → lv_has ls 4 [(0, .ref h_me)] → W p l e ({ frames := 2, cells := 0, slots := 0, locals := 46 } : Room) s m ([.ref h_me, .int p0, .int p1, .int p2] : List Value).toArray below meth c H locs 0 0 Qz (F0 m 24 ls []) := by
    intro o_me H locs ls h hw hl
    unfold bk_X9_strength_24 at h
    refine lv_aload_n hx hb dX9_strength_24 rfl (lv_at hl 0 rfl) ?_
    refine lv_iconst (v := (-1)) hx hb dX9_strength_25 (by decide) ?_
    obtain ⟨z3, ez3, h⟩ := z_bd h
    refine xj_i (xrV (As := [.int (-1 : Int32)]) (rest := []) ⟨hx, hb, hml, hown, hts⟩ (m_X9_tell l dC dI _ h_me q_me k_me o_me (-1 : Int32) z3 ez3) kw1374 kw1371 kw1373 kw39 kw120 hd_X9_tell ⟨rfl, rfl⟩ rfl rfl ⟨rfl, rfl⟩ hX hK hw [0] (by decide) rfl rfl rfl rfl rfl hl.1 rfl rfl dX9_strength_26) hw hA [0] (by decide) rfl rfl (fun H locs hw => ?_)
    have hw : Wd dC dI A s.heap [wX9 h_me q_me k_me z3.2] H locs := hw
    have hy := Option.some.inj h
    rw [← hQz, ← hy]
    exact xr_i (v := z3.1) hx hb hr rfl hlk hK hw dX9_strength_29
  unfold f_X9_strength at h
  refine lv_aload_n hx hb dX9_strength_0 rfl (lv_at hl 0 rfl) ?_
  refine lv_iconst (v := 0) hx hb dX9_strength_1 (by decide) ?_
  refine fpX9_0 hx hb hts hown hK hw 0 rfl kw1176 dX9_strength_2 (fun H locs hw => ?_)
  obtain ⟨o1, eo1, h⟩ := z_lt h
  have hw : Wd dC dI A s.heap [wX9 h_me q_me k_me o1] H locs := by rw [eo1]; exact hw
  refine lv_iload_n hx hb dX9_strength_5 rfl (lv_at hl 2 rfl) ?_
  obtain ⟨z2, ez2, h⟩ := z_bd h
  refine xj_i (xrS (As := [.int p1]) (rest := []) ⟨hx, hb, hml, hown, hts⟩ (m_X9_isRace l dC dI _  p1 z2 ez2) kw1444 kw1442 kw1443 kw120 hd_X9_isRace ⟨rfl, rfl⟩ rfl rfl ⟨rfl, rfl⟩ hX hK hw [] (by decide) rfl rfl hl.1 rfl rfl dX9_strength_6) hw hA [] (by decide) rfl rfl (fun H locs hw => ?_)
  refine lv_if_eq (tgt := 24) hx hb dX9_strength_9 (by decide) (fun c => ?_) (fun c => ?_)
  · have h := z_t h c
    exact bk_24_0  o1 _ _ _ h hw (lv_sub hl [0] rfl)
  · have h := z_f h c
    refine lv_iload_n hx hb dX9_strength_12 rfl (lv_at hl 3 rfl) ?_
    refine lv_i2l hx hb dX9_strength_13 rfl ?_
    refine lv_lconst (v := 0) hx hb dX9_strength_14 (by decide) ?_
    refine lv_ldc2 (v := 9) hx hb hown (hts _ kw1398) dX9_strength_15 ?_
    obtain ⟨z4, ez4, h⟩ := z_bd h
    refine xj_i (xrS (As := [.long p2.toInt64, .long (0 : Int64), .long (9 : Int64)]) (rest := []) ⟨hx, hb, hml, hown, hts⟩ (m_X9_in l dC dI _  p2.toInt64 (0 : Int64) (9 : Int64) z4 ez4) kw1385 kw1383 kw1384 kw120 hd_X9_in ⟨rfl, rfl⟩ rfl rfl ⟨rfl, rfl⟩ hX hK hw [] (by decide) rfl rfl hl.1 rfl rfl dX9_strength_18) hw hA [] (by decide) rfl rfl (fun H locs hw => ?_)
    refine lv_if_ne (tgt := 30) hx hb dX9_strength_21 (by decide) (fun c => ?_) (fun c => ?_)
    · have h := z_f h c
      refine lv_aload_n hx hb dX9_strength_30 rfl (lv_at hl 0 rfl) ?_
      refine lv_iload_n hx hb dX9_strength_31 rfl (lv_at hl 1 rfl) ?_
      obtain ⟨z5, ez5, h⟩ := z_bd h
      refine xj_i (xrV (As := [.int p0]) (rest := []) ⟨hx, hb, hml, hown, hts⟩ (m_X9_isPerson l dC dI _ h_me q_me k_me o1 p0 z5 ez5) kw1402 kw1399 kw1401 kw42 kw120 hd_X9_isPerson ⟨rfl, rfl⟩ rfl rfl ⟨rfl, rfl⟩ hX hK hw [0] (by decide) rfl rfl rfl rfl rfl hl.1 rfl rfl dX9_strength_32) hw hA [0] (by decide) rfl rfl (fun H locs hw => ?_)
      have hw : Wd dC dI A s.heap [wX9 h_me q_me k_me o1] H locs := hw
      refine lv_if_eq (tgt := 54) hx hb dX9_strength_35 (by decide) (fun c => ?_) (fun c => ?_)
      · have h := z_t h c
        refine lv_aload_n hx hb dX9_strength_54 rfl (lv_at hl 0 rfl) ?_
        refine lv_bipush (v := (-2)) hx hb dX9_strength_55 (by decide) ?_
        obtain ⟨z6, ez6, h⟩ := z_bd h
        refine xj_i (xrV (As := [.int (-2 : Int32)]) (rest := []) ⟨hx, hb, hml, hown, hts⟩ (m_X9_tell l dC dI _ h_me q_me k_me o1 (-2 : Int32) z6 ez6) kw1374 kw1371 kw1373 kw39 kw120 hd_X9_tell ⟨rfl, rfl⟩ rfl rfl ⟨rfl, rfl⟩ hX hK hw [0] (by decide) rfl rfl rfl rfl rfl hl.1 rfl rfl dX9_strength_57) hw hA [0] (by decide) rfl rfl (fun H locs hw => ?_)
        have hw : Wd dC dI A s.heap [wX9 h_me q_me k_me z6.2] H locs := hw
        have hy := Option.some.inj h
        rw [← hQz, ← hy]
        exact xr_i (v := z6.1) hx hb hr rfl hlk hK hw dX9_strength_60
      · have h := z_f h c
        refine lv_aload_n hx hb dX9_strength_38 rfl (lv_at hl 0 rfl) ?_
        refine lv_bipush (v := 36) hx hb dX9_strength_39 (by decide) ?_
        refine lv_iconst (v := 4) hx hb dX9_strength_41 (by decide) ?_
        refine lv_iload_n hx hb dX9_strength_42 rfl (lv_at hl 1 rfl) ?_
        refine lv_imul hx hb dX9_strength_43 ?_
        refine lv_iadd hx hb dX9_strength_44 ?_
        refine lv_iload_n hx hb dX9_strength_45 rfl (lv_at hl 2 rfl) ?_
        refine lv_iadd hx hb dX9_strength_46 ?_
        refine lv_iload_n hx hb dX9_strength_47 rfl (lv_at hl 3 rfl) ?_
        obtain ⟨z7, ez7, h⟩ := z_bd h
        refine xj_i (xrV (As := [.int (((36 : Int32) + ((4 : Int32) * p0)) + p1), .int p2]) (rest := []) ⟨hx, hb, hml, hown, hts⟩ (m_X9_change l dC dI _ h_me q_me k_me o1 (((36 : Int32) + ((4 : Int32) * p0)) + p1) p2 z7 ez7) kw1449 kw1446 kw1448 kw49 kw120 hd_X9_change ⟨rfl, rfl⟩ rfl rfl ⟨rfl, rfl⟩ hX hK hw [0] (by decide) rfl rfl rfl rfl rfl hl.1 rfl rfl dX9_strength_48) hw hA [0] (by decide) rfl rfl (fun H locs hw => ?_)
        have hw : Wd dC dI A s.heap [wX9 h_me q_me k_me z7.2] H locs := hw
        refine lv_goto (tgt := 60) hx hb dX9_strength_51 (by decide) ?_
        have hy := Option.some.inj h
        rw [← hQz, ← hy]
        exact xr_i (v := z7.1) hx hb hr rfl hlk hK hw dX9_strength_60
    · have h := z_t h c
      exact bk_24_0  o1 _ _ _ h hw (lv_sub hl [0] rfl)

def f_X9_take (o_me : Ob) (p0 : Int32) : Option (Int32 × Ob) :=
  zlt (sI o_me 0 (0 : Int32)) fun o1 =>
  (f_X9_takeNow o1 p0).bind fun z2 =>
  (f_X9_tell z2.2 z2.1).bind fun z3 =>
  some (z3.1, z3.2)
set_option maxHeartbeats 4000000 in
set_option maxRecDepth 100000 in
theorem m_X9_take (l : Launch) (dC : Nat → ClassId) (dI : Nat → Nat → Nat) (sz : Nat) (h_me : Nat) (q_me : Nat → Nat) (k_me : Nat → ClassId) (o_me : Ob) (p0 : Int32) (y : Int32 × Ob) (h : f_X9_take o_me p0 = some y) : CI l yX9_take cX9_take 2 (some .int) ({ frames := 3, cells := 0, slots := 0, locals := 68 } : Room) dC dI sz [.ref h_me, .int p0] [wX9 h_me q_me k_me o_me] [tX9 k_me] y.1 [wX9 h_me q_me k_me y.2] := by
  refine CC_of (by decide) (Nat.le_of_ble_eq_true rfl) ?_
  intro p e s m below meth c A ls hx hb hml hr hlk hnm hown hts hX hK hP hD hA hl
  have hl : lv_has ls 2 [(0, .ref h_me), (1, .int p0)] := hl
  have hown : s.vm.findClass RX9 = some m.cls := hown
  have hw : Wd dC dI A s.heap [wX9 h_me q_me k_me o_me] s.heap [] := ⟨hP, hD, va_S.rf⟩
  generalize hQz : (MQ below (QI dC dI (fun r (_ : Unit) => r = y.1) (fun _ => Jn [wX9 h_me q_me k_me y.2]) (fun _ => Jt [tX9 k_me]) A) ([.ref h_me, .int p0] : List Value).toArray s 0 0 A) = Qz
  clear hP hD hnm
  unfold f_X9_take at h
  refine lv_aload_n hx hb dX9_take_0 rfl (lv_at hl 0 rfl) ?_
  refine lv_iconst (v := 0) hx hb dX9_take_1 (by decide) ?_
  refine fpX9_0 hx hb hts hown hK hw 0 rfl kw1176 dX9_take_2 (fun H locs hw => ?_)
  obtain ⟨o1, eo1, h⟩ := z_lt h
  have hw : Wd dC dI A s.heap [wX9 h_me q_me k_me o1] H locs := by rw [eo1]; exact hw
  refine lv_aload_n hx hb dX9_take_5 rfl (lv_at hl 0 rfl) ?_
  refine lv_aload_n hx hb dX9_take_6 rfl (lv_at hl 0 rfl) ?_
  refine lv_iload_n hx hb dX9_take_7 rfl (lv_at hl 1 rfl) ?_
  obtain ⟨z2, ez2, h⟩ := z_bd h
  refine xj_i (xrV (As := [.int p0]) (rest := [.ref h_me]) ⟨hx, hb, hml, hown, hts⟩ (m_X9_takeNow l dC dI _ h_me q_me k_me o1 p0 z2 ez2) kw1668 kw1665 kw1667 kw84 kw120 hd_X9_takeNow ⟨rfl, rfl⟩ rfl rfl ⟨rfl, rfl⟩ hX hK hw [0] (by decide) rfl rfl rfl rfl rfl hl.1 rfl rfl dX9_take_8) hw hA [0] (by decide) rfl rfl (fun H locs hw => ?_)
  have hw : Wd dC dI A s.heap [wX9 h_me q_me k_me z2.2] H locs := hw
  obtain ⟨z3, ez3, h⟩ := z_bd h
  refine xj_i (xrV (As := [.int z2.1]) (rest := []) ⟨hx, hb, hml, hown, hts⟩ (m_X9_tell l dC dI _ h_me q_me k_me z2.2 z2.1 z3 ez3) kw1374 kw1371 kw1373 kw39 kw120 hd_X9_tell ⟨rfl, rfl⟩ rfl rfl ⟨rfl, rfl⟩ hX hK hw [0] (by decide) rfl rfl rfl rfl rfl hl.1 rfl rfl dX9_take_11) hw hA [0] (by decide) rfl rfl (fun H locs hw => ?_)
  have hw : Wd dC dI A s.heap [wX9 h_me q_me k_me z3.2] H locs := hw
  have hy := Option.some.inj h
  rw [← hQz, ← hy]
  exact xr_i (v := z3.1) hx hb hr rfl hlk hK hw dX9_take_14

def bk_X9_terms_60   (v1 : Int32) (v2 : Int32) (s0 : Int32) (o_me : Ob) : Option (Int32 × Ob) :=
  if s0 = (0 : Int32) then
  ((f_X9_tell o_me (-1 : Int32)).bind fun z4 =>
  some (z4.1, z4.2))
  else
  (zlt (sI o_me 8 (0 : Int32)) fun o2 =>
  (f_X9_change o2 ((4 : Int32) + v1) v2).bind fun z3 =>
  some (z3.1, z3.2))
def bk_X9_terms_59   (v1 : Int32) (v2 : Int32) (o_me : Ob) : Option (Int32 × Ob) :=
  bk_X9_terms_60   v1 v2 (0 : Int32) o_me
def f_X9_terms (o_me : Ob) (p0 : Int32) (p1 : Int32) : Option (Int32 × Ob) :=
  zlt (sI o_me 0 (0 : Int32)) fun o1 =>
  if p0 = (0 : Int32) then
  ((f_X9_in p1.toInt64 (0 : Int64) (999 : Int64)).bind fun z7 =>
  bk_X9_terms_60   p0 p1 z7 o1)
  else
  (if p0 = (1 : Int32) then
  ((f_X9_in p1.toInt64 (0 : Int64) (10 : Int64)).bind fun z6 =>
  bk_X9_terms_60   p0 p1 z6 o1)
  else
  (if p0 = (2 : Int32) then
  ((f_X9_in p1.toInt64 (0 : Int64) (9 : Int64)).bind fun z5 =>
  if z5 = (0 : Int32) then
  (bk_X9_terms_59   p0 p1 o1)
  else
  (bk_X9_terms_60   p0 p1 (1 : Int32) o1))
  else
  (bk_X9_terms_59   p0 p1 o1)))
set_option maxHeartbeats 4000000 in
set_option maxRecDepth 100000 in
theorem m_X9_terms (l : Launch) (dC : Nat → ClassId) (dI : Nat → Nat → Nat) (sz : Nat) (h_me : Nat) (q_me : Nat → Nat) (k_me : Nat → ClassId) (o_me : Ob) (p0 : Int32) (p1 : Int32) (y : Int32 × Ob) (h : f_X9_terms o_me p0 p1 = some y) : CI l yX9_terms cX9_terms 4 (some .int) ({ frames := 1, cells := 0, slots := 0, locals := 25 } : Room) dC dI sz [.ref h_me, .int p0, .int p1] [wX9 h_me q_me k_me o_me] [tX9 k_me] y.1 [wX9 h_me q_me k_me y.2] := by
  refine CC_of (by decide) (Nat.le_of_ble_eq_true rfl) ?_
  intro p e s m below meth c A ls hx hb hml hr hlk hnm hown hts hX hK hP hD hA hl
  have hl : lv_has ls 4 [(0, .ref h_me), (1, .int p0), (2, .int p1)] := hl
  have hown : s.vm.findClass RX9 = some m.cls := hown
  have hw : Wd dC dI A s.heap [wX9 h_me q_me k_me o_me] s.heap [] := ⟨hP, hD, va_S.rf⟩
  generalize hQz : (MQ below (QI dC dI (fun r (_ : Unit) => r = y.1) (fun _ => Jn [wX9 h_me q_me k_me y.2]) (fun _ => Jt [tX9 k_me]) A) ([.ref h_me, .int p0, .int p1] : List Value).toArray s 0 0 A) = Qz
  clear hP hD hnm
  have bk_60_1 : ∀ (v1 : Int32) (v2 : Int32) (s0 : Int32) (o_me : Ob) (H : Heap) (locs : List Loc) (ls : Array Slot), bk_X9_terms_60   v1 v2 s0 o_me = some y → Wd dC dI A s.heap [wX9 h_me q_me k_me o_me] H locs → lv_has ls 4 [(0, .ref h_me), (1, .int v1), (2, .int v2)] → W p l e ({ frames := 1, cells := 0, slots := 0, locals := 25 } : Room) s m ([.ref h_me, .int p0, .int p1] : List Value).toArray below meth c H locs 0 0 Qz (F0 m 60 ls [.int s0]) := by
    intro v1 v2 s0 o_me H locs ls h hw hl
    unfold bk_X9_terms_60 at h
    refine lv_istore_n (lv' := [(3, .int s0), (0, .ref h_me), (1, .int v1), (2, .int v2)]) hx hb dX9_terms_60 rfl hl (by decide) rfl (fun ls hl => ?_)
    refine lv_iload_n hx hb dX9_terms_61 rfl (lv_at hl 0 rfl) ?_
    refine lv_if_ne (tgt := 71) hx hb dX9_terms_62 (by decide) (fun c => ?_) (fun c => ?_)
    · have h := z_f h c
      refine lv_aload_n hx hb dX9_terms_71 rfl (lv_at hl 1 rfl) ?_
      refine lv_iconst (v := 0) hx hb dX9_terms_72 (by decide) ?_
      refine fpX9_8 hx hb hts hown hK hw 0 rfl kw1184 dX9_terms_73 (fun H locs hw => ?_)
      obtain ⟨o2, eo2, h⟩ := z_lt h
      have hw : Wd dC dI A s.heap [wX9 h_me q_me k_me o2] H locs := by rw [eo2]; exact hw
      refine lv_aload_n hx hb dX9_terms_76 rfl (lv_at hl 1 rfl) ?_
      refine lv_iconst (v := 4) hx hb dX9_terms_77 (by decide) ?_
      refine lv_iload_n hx hb dX9_terms_78 rfl (lv_at hl 2 rfl) ?_
      refine lv_iadd hx hb dX9_terms_79 ?_
      refine lv_iload_n hx hb dX9_terms_80 rfl (lv_at hl 3 rfl) ?_
      obtain ⟨z3, ez3, h⟩ := z_bd h
      refine xj_i (xrV (As := [.int ((4 : Int32) + v1), .int v2]) (rest := []) ⟨hx, hb, hml, hown, hts⟩ (m_X9_change l dC dI _ h_me q_me k_me o2 ((4 : Int32) + v1) v2 z3 ez3) kw1449 kw1446 kw1448 kw49 kw120 hd_X9_change ⟨rfl, rfl⟩ rfl rfl ⟨rfl, rfl⟩ hX hK hw [0] (by decide) rfl rfl rfl rfl rfl hl.1 rfl rfl dX9_terms_81) hw hA [0] (by decide) rfl rfl (fun H locs hw => ?_)
      have hw : Wd dC dI A s.heap [wX9 h_me q_me k_me z3.2] H locs := hw
      have hy := Option.some.inj h
      rw [← hQz, ← hy]
      exact xr_i (v := z3.1) hx hb hr rfl hlk hK hw dX9_terms_84
    · have h := z_t h c
      refine lv_aload_n hx hb dX9_terms_65 rfl (lv_at hl 1 rfl) ?_
      refine lv_iconst (v := (-1)) hx hb dX9_terms_66 (by decide) ?_
      obtain ⟨z4, ez4, h⟩ := z_bd h
      refine xj_i (xrV (As := [.int (-1 : Int32)]) (rest := []) ⟨hx, hb, hml, hown, hts⟩ (m_X9_tell l dC dI _ h_me q_me k_me o_me (-1 : Int32) z4 ez4) kw1374 kw1371 kw1373 kw39 kw120 hd_X9_tell ⟨rfl, rfl⟩ rfl rfl ⟨rfl, rfl⟩ hX hK hw [0] (by decide) rfl rfl rfl rfl rfl hl.1 rfl rfl dX9_terms_67) hw hA [0] (by decide) rfl rfl (fun H locs hw => ?_)
      have hw : Wd dC dI A s.heap [wX9 h_me q_me k_me z4.2] H locs := hw
      have hy := Option.some.inj h
      rw [← hQz, ← hy]
      exact xr_i (v := z4.1) hx hb hr rfl hlk hK hw dX9_terms_70
  have bk_59_0 : ∀ (v1 : Int32) (v2 : Int32) (o_me : Ob) (H : Heap) (locs : List Loc) (ls : Array Slot), bk_X9_terms_59   v1 v2 o_me = some y → Wd dC dI A s.heap [wX9 h_me q_me k_me o_me] H locs → lv_has ls 4 [(0, .ref h_me), (1, .int v1), (2, .int v2)] → W p l e ({ frames := 1, cells := 0, slots := 0, locals := 25 } : Room) s m ([.ref h_me, .int p0, .int p1] : List Value).toArray below meth c H locs 0 0 Qz (F0 m 59 ls []) := by
    intro v1 v2 o_me H locs ls h hw hl
    unfold bk_X9_terms_59 at h
    refine lv_iconst (v := 0) hx hb dX9_terms_59 (by decide) ?_
    exact bk_60_1  v1 v2 (0 : Int32) o_me _ _ _ h hw (lv_sub hl [0, 1, 2] rfl)
  unfold f_X9_terms at h
  refine lv_aload_n hx hb dX9_terms_0 rfl (lv_at hl 0 rfl) ?_
  refine lv_iconst (v := 0) hx hb dX9_terms_1 (by decide) ?_
  refine fpX9_0 hx hb hts hown hK hw 0 rfl kw1176 dX9_terms_2 (fun H locs hw => ?_)
  obtain ⟨o1, eo1, h⟩ := z_lt h
  have hw : Wd dC dI A s.heap [wX9 h_me q_me k_me o1] H locs := by rw [eo1]; exact hw
  refine lv_iload_n hx hb dX9_terms_5 rfl (lv_at hl 1 rfl) ?_
  refine lv_if_ne (tgt := 21) hx hb dX9_terms_6 (by decide) (fun c => ?_) (fun c => ?_)
  · have h := z_f h c
    refine lv_iload_n hx hb dX9_terms_21 rfl (lv_at hl 1 rfl) ?_
    refine lv_iconst (v := 1) hx hb dX9_terms_22 (by decide) ?_
    refine lv_icmp_ne (tgt := 38) hx hb dX9_terms_23 (by decide) (fun c => ?_) (fun c => ?_)
    · have h := z_f h c
      refine lv_iload_n hx hb dX9_terms_38 rfl (lv_at hl 1 rfl) ?_
      refine lv_iconst (v := 2) hx hb dX9_terms_39 (by decide) ?_
      refine lv_icmp_ne (tgt := 59) hx hb dX9_terms_40 (by decide) (fun c => ?_) (fun c => ?_)
      · have h := z_f h c
        exact bk_59_0  p0 p1 o1 _ _ _ h hw (lv_sub hl [0, 1, 2] rfl)
      · have h := z_t h c
        refine lv_iload_n hx hb dX9_terms_43 rfl (lv_at hl 2 rfl) ?_
        refine lv_i2l hx hb dX9_terms_44 rfl ?_
        refine lv_lconst (v := 0) hx hb dX9_terms_45 (by decide) ?_
        refine lv_ldc2 (v := 9) hx hb hown (hts _ kw1398) dX9_terms_46 ?_
        obtain ⟨z5, ez5, h⟩ := z_bd h
        refine xj_i (xrS (As := [.long p1.toInt64, .long (0 : Int64), .long (9 : Int64)]) (rest := []) ⟨hx, hb, hml, hown, hts⟩ (m_X9_in l dC dI _  p1.toInt64 (0 : Int64) (9 : Int64) z5 ez5) kw1385 kw1383 kw1384 kw120 hd_X9_in ⟨rfl, rfl⟩ rfl rfl ⟨rfl, rfl⟩ hX hK hw [] (by decide) rfl rfl hl.1 rfl rfl dX9_terms_49) hw hA [] (by decide) rfl rfl (fun H locs hw => ?_)
        refine lv_if_eq (tgt := 59) hx hb dX9_terms_52 (by decide) (fun c => ?_) (fun c => ?_)
        · have h := z_t h c
          exact bk_59_0  p0 p1 o1 _ _ _ h hw (lv_sub hl [0, 1, 2] rfl)
        · have h := z_f h c
          refine lv_iconst (v := 1) hx hb dX9_terms_55 (by decide) ?_
          refine lv_goto (tgt := 60) hx hb dX9_terms_56 (by decide) ?_
          exact bk_60_1  p0 p1 (1 : Int32) o1 _ _ _ h hw (lv_sub hl [0, 1, 2] rfl)
    · have h := z_t h c
      refine lv_iload_n hx hb dX9_terms_26 rfl (lv_at hl 2 rfl) ?_
      refine lv_i2l hx hb dX9_terms_27 rfl ?_
      refine lv_lconst (v := 0) hx hb dX9_terms_28 (by decide) ?_
      refine lv_ldc2 (v := 10) hx hb hown (hts _ kw1468) dX9_terms_29 ?_
      obtain ⟨z6, ez6, h⟩ := z_bd h
      refine xj_i (xrS (As := [.long p1.toInt64, .long (0 : Int64), .long (10 : Int64)]) (rest := []) ⟨hx, hb, hml, hown, hts⟩ (m_X9_in l dC dI _  p1.toInt64 (0 : Int64) (10 : Int64) z6 ez6) kw1385 kw1383 kw1384 kw120 hd_X9_in ⟨rfl, rfl⟩ rfl rfl ⟨rfl, rfl⟩ hX hK hw [] (by decide) rfl rfl hl.1 rfl rfl dX9_terms_32) hw hA [] (by decide) rfl rfl (fun H locs hw => ?_)
      refine lv_goto (tgt := 60) hx hb dX9_terms_35 (by decide) ?_
      exact bk_60_1  p0 p1 z6 o1 _ _ _ h hw (lv_sub hl [0, 1, 2] rfl)
  · have h := z_t h c
    refine lv_iload_n hx hb dX9_terms_9 rfl (lv_at hl 2 rfl) ?_
    refine lv_i2l hx hb dX9_terms_10 rfl ?_
    refine lv_lconst (v := 0) hx hb dX9_terms_11 (by decide) ?_
    refine lv_ldc2 (v := 999) hx hb hown (hts _ kw1467) dX9_terms_12 ?_
    obtain ⟨z7, ez7, h⟩ := z_bd h
    refine xj_i (xrS (As := [.long p1.toInt64, .long (0 : Int64), .long (999 : Int64)]) (rest := []) ⟨hx, hb, hml, hown, hts⟩ (m_X9_in l dC dI _  p1.toInt64 (0 : Int64) (999 : Int64) z7 ez7) kw1385 kw1383 kw1384 kw120 hd_X9_in ⟨rfl, rfl⟩ rfl rfl ⟨rfl, rfl⟩ hX hK hw [] (by decide) rfl rfl hl.1 rfl rfl dX9_terms_15) hw hA [] (by decide) rfl rfl (fun H locs hw => ?_)
    refine lv_goto (tgt := 60) hx hb dX9_terms_18 (by decide) ?_
    exact bk_60_1  p0 p1 z7 o1 _ _ _ h hw (lv_sub hl [0, 1, 2] rfl)

def f_X9_undo (o_me : Ob) : Option (Int32 × Ob) :=
  zlt (sI o_me 0 (0 : Int32)) fun o1 =>
  if (gI o1 8) = (0 : Int32) then
  ((f_X9_tell o1 (-3 : Int32)).bind fun z6 =>
  some (z6.1, z6.2))
  else
  (zlt (sI o1 8 ((gI o1 8) - (1 : Int32))) fun o2 =>
  (f_X9_putBack o2 (gI o2 8)).bind fun z3 =>
  zgd (zin (gI z3 8) 16) <|
  (f_X9_tell z3 (gA z3 7 (gI z3 8).toNatClampNeg)).bind fun z5 =>
  some (z5.1, z5.2))
set_option maxHeartbeats 4000000 in
set_option maxRecDepth 100000 in
theorem m_X9_undo (l : Launch) (dC : Nat → ClassId) (dI : Nat → Nat → Nat) (sz : Nat) (h_me : Nat) (q_me : Nat → Nat) (k_me : Nat → ClassId) (o_me : Ob) (y : Int32 × Ob) (h : f_X9_undo o_me = some y) : CI l yX9_undo cX9_undo 1 (some .int) ({ frames := 1, cells := 0, slots := 0, locals := 22 } : Room) dC dI sz [.ref h_me] [wX9 h_me q_me k_me o_me] [tX9 k_me] y.1 [wX9 h_me q_me k_me y.2] := by
  refine CC_of (by decide) (Nat.le_of_ble_eq_true rfl) ?_
  intro p e s m below meth c A ls hx hb hml hr hlk hnm hown hts hX hK hP hD hA hl
  have hl : lv_has ls 1 [(0, .ref h_me)] := hl
  have hown : s.vm.findClass RX9 = some m.cls := hown
  have hw : Wd dC dI A s.heap [wX9 h_me q_me k_me o_me] s.heap [] := ⟨hP, hD, va_S.rf⟩
  generalize hQz : (MQ below (QI dC dI (fun r (_ : Unit) => r = y.1) (fun _ => Jn [wX9 h_me q_me k_me y.2]) (fun _ => Jt [tX9 k_me]) A) ([.ref h_me] : List Value).toArray s 0 0 A) = Qz
  clear hP hD hnm
  unfold f_X9_undo at h
  refine lv_aload_n hx hb dX9_undo_0 rfl (lv_at hl 0 rfl) ?_
  refine lv_iconst (v := 0) hx hb dX9_undo_1 (by decide) ?_
  refine fpX9_0 hx hb hts hown hK hw 0 rfl kw1176 dX9_undo_2 (fun H locs hw => ?_)
  obtain ⟨o1, eo1, h⟩ := z_lt h
  have hw : Wd dC dI A s.heap [wX9 h_me q_me k_me o1] H locs := by rw [eo1]; exact hw
  refine lv_aload_n hx hb dX9_undo_5 rfl (lv_at hl 0 rfl) ?_
  refine fgX9_8 hx hb hts hown hK hw 0 rfl kw1184 dX9_undo_6 ?_
  refine lv_if_ne (tgt := 19) hx hb dX9_undo_9 (by decide) (fun c => ?_) (fun c => ?_)
  · have h := z_f h c
    refine lv_aload_n hx hb dX9_undo_19 rfl (lv_at hl 0 rfl) ?_
    refine lv_dup hx hb dX9_undo_20 rfl ?_
    refine fgX9_8 hx hb hts hown hK hw 0 rfl kw1184 dX9_undo_21 ?_
    refine lv_iconst (v := 1) hx hb dX9_undo_24 (by decide) ?_
    refine lv_isub hx hb dX9_undo_25 ?_
    refine fpX9_8 hx hb hts hown hK hw 0 rfl kw1184 dX9_undo_26 (fun H locs hw => ?_)
    obtain ⟨o2, eo2, h⟩ := z_lt h
    have hw : Wd dC dI A s.heap [wX9 h_me q_me k_me o2] H locs := by rw [eo2]; exact hw
    refine lv_aload_n hx hb dX9_undo_29 rfl (lv_at hl 0 rfl) ?_
    refine lv_aload_n hx hb dX9_undo_30 rfl (lv_at hl 0 rfl) ?_
    refine fgX9_8 hx hb hts hown hK hw 0 rfl kw1184 dX9_undo_31 ?_
    obtain ⟨z3, ez3, h⟩ := z_bd h
    refine xj_v (xrV (As := [.int (gI o2 8)]) (rest := []) ⟨hx, hb, hml, hown, hts⟩ (m_X9_putBack l dC dI _ h_me q_me k_me o2 (gI o2 8) z3 ez3) kw1378 kw1375 kw1377 kw40 kw120 hd_X9_putBack ⟨rfl, rfl⟩ rfl rfl ⟨rfl, rfl⟩ hX hK hw [0] (by decide) rfl rfl rfl rfl rfl hl.1 rfl rfl dX9_undo_34) hw hA [0] (by decide) rfl rfl (fun H locs hw => ?_)
    have hw : Wd dC dI A s.heap [wX9 h_me q_me k_me z3] H locs := hw
    refine lv_aload_n hx hb dX9_undo_37 rfl (lv_at hl 0 rfl) ?_
    refine lv_aload_n hx hb dX9_undo_38 rfl (lv_at hl 0 rfl) ?_
    refine fgX9_7 hx hb hts hown hK hw 0 rfl kw1183 dX9_undo_39 ?_
    refine lv_aload_n hx hb dX9_undo_42 rfl (lv_at hl 0 rfl) ?_
    refine fgX9_8 hx hb hts hown hK hw 0 rfl kw1184 dX9_undo_43 ?_
    obtain ⟨g4, h⟩ := z_gd h
    refine faX9_7 hx hb hK hw 0 rfl rfl g4 dX9_undo_46 ?_
    obtain ⟨z5, ez5, h⟩ := z_bd h
    refine xj_i (xrV (As := [.int (gA z3 7 (gI z3 8).toNatClampNeg)]) (rest := []) ⟨hx, hb, hml, hown, hts⟩ (m_X9_tell l dC dI _ h_me q_me k_me z3 (gA z3 7 (gI z3 8).toNatClampNeg) z5 ez5) kw1374 kw1371 kw1373 kw39 kw120 hd_X9_tell ⟨rfl, rfl⟩ rfl rfl ⟨rfl, rfl⟩ hX hK hw [0] (by decide) rfl rfl rfl rfl rfl hl.1 rfl rfl dX9_undo_47) hw hA [0] (by decide) rfl rfl (fun H locs hw => ?_)
    have hw : Wd dC dI A s.heap [wX9 h_me q_me k_me z5.2] H locs := hw
    have hy := Option.some.inj h
    rw [← hQz, ← hy]
    exact xr_i (v := z5.1) hx hb hr rfl hlk hK hw dX9_undo_50
  · have h := z_t h c
    refine lv_aload_n hx hb dX9_undo_12 rfl (lv_at hl 0 rfl) ?_
    refine lv_bipush (v := (-3)) hx hb dX9_undo_13 (by decide) ?_
    obtain ⟨z6, ez6, h⟩ := z_bd h
    refine xj_i (xrV (As := [.int (-3 : Int32)]) (rest := []) ⟨hx, hb, hml, hown, hts⟩ (m_X9_tell l dC dI _ h_me q_me k_me o1 (-3 : Int32) z6 ez6) kw1374 kw1371 kw1373 kw39 kw120 hd_X9_tell ⟨rfl, rfl⟩ rfl rfl ⟨rfl, rfl⟩ hX hK hw [0] (by decide) rfl rfl rfl rfl rfl hl.1 rfl rfl dX9_undo_15) hw hA [0] (by decide) rfl rfl (fun H locs hw => ?_)
    have hw : Wd dC dI A s.heap [wX9 h_me q_me k_me z6.2] H locs := hw
    have hy := Option.some.inj h
    rw [← hQz, ← hy]
    exact xr_i (v := z6.1) hx hb hr rfl hlk hK hw dX9_undo_18

