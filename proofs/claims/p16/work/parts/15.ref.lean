def f_X9_crowned (o_me : Ob) (p0 : Int32) : Option (Int32 × Ob) :=
  zlt (sI o_me 0 (0 : Int32)) fun o1 =>
  (f_X9_in p0.toInt64 (0 : Int64) (4 : Int64)).bind fun z2 =>
  if z2 = (0 : Int32) then
  (some ((-1 : Int32), o1))
  else
  ((f_X9_findCrowned o1).bind fun z3 =>
  if p0 = (0 : Int32) then
  (some (z3.1, z3.2))
  else
  (zgd (zin (p0 - (1 : Int32)) 4) <|
  some (gA z3.2 49 (p0 - (1 : Int32)).toNatClampNeg, z3.2)))
set_option maxHeartbeats 4000000 in
set_option maxRecDepth 100000 in
theorem m_X9_crowned (l : Launch) (dC : Nat → ClassId) (dI : Nat → Nat → Nat) (sz : Nat) (h_me : Nat) (q_me : Nat → Nat) (k_me : Nat → ClassId) (o_me : Ob) (p0 : Int32) (y : Int32 × Ob) (h : f_X9_crowned o_me p0 = some y) : CI l yX9_crowned cX9_crowned 3 (some .int) ({ frames := 7, cells := 0, slots := 0, locals := 169 } : Room) dC dI sz [.ref h_me, .int p0] [wX9 h_me q_me k_me o_me] [tX9 k_me] y.1 [wX9 h_me q_me k_me y.2] := by
  refine CC_of (by decide) (Nat.le_of_ble_eq_true rfl) ?_
  intro p e s m below meth c A ls hx hb hml hr hlk hnm hown hts hX hK hP hD hA hl
  have hl : lv_has ls 3 [(0, .ref h_me), (1, .int p0)] := hl
  have hown : s.vm.findClass RX9 = some m.cls := hown
  have hw : Wd dC dI A s.heap [wX9 h_me q_me k_me o_me] s.heap [] := ⟨hP, hD, va_S.rf⟩
  generalize hQz : (MQ below (QI dC dI (fun r (_ : Unit) => r = y.1) (fun _ => Jn [wX9 h_me q_me k_me y.2]) (fun _ => Jt [tX9 k_me]) A) ([.ref h_me, .int p0] : List Value).toArray s 0 0 A) = Qz
  clear hP hD hnm
  unfold f_X9_crowned at h
  refine lv_aload_n hx hb dX9_crowned_0 rfl (lv_at hl 0 rfl) ?_
  refine lv_iconst (v := 0) hx hb dX9_crowned_1 (by decide) ?_
  refine fpX9_0 hx hb hts hown hK hw 0 rfl kw1176 dX9_crowned_2 (fun H locs hw => ?_)
  obtain ⟨o1, eo1, h⟩ := z_lt h
  have hw : Wd dC dI A s.heap [wX9 h_me q_me k_me o1] H locs := by rw [eo1]; exact hw
  refine lv_iload_n hx hb dX9_crowned_5 rfl (lv_at hl 1 rfl) ?_
  refine lv_i2l hx hb dX9_crowned_6 rfl ?_
  refine lv_lconst (v := 0) hx hb dX9_crowned_7 (by decide) ?_
  refine lv_ldc2 (v := 4) hx hb hown (hts _ kw1648) dX9_crowned_8 ?_
  obtain ⟨z2, ez2, h⟩ := z_bd h
  refine xj_i (xrS (As := [.long p0.toInt64, .long (0 : Int64), .long (4 : Int64)]) (rest := []) ⟨hx, hb, hml, hown, hts⟩ (m_X9_in l dC dI _  p0.toInt64 (0 : Int64) (4 : Int64) z2 ez2) kw1385 kw1383 kw1384 kw120 hd_X9_in ⟨rfl, rfl⟩ rfl rfl ⟨rfl, rfl⟩ hX hK hw [] (by decide) rfl rfl hl.1 rfl rfl dX9_crowned_11) hw hA [] (by decide) rfl rfl (fun H locs hw => ?_)
  refine lv_if_ne (tgt := 19) hx hb dX9_crowned_14 (by decide) (fun c => ?_) (fun c => ?_)
  · have h := z_f h c
    refine lv_aload_n hx hb dX9_crowned_19 rfl (lv_at hl 0 rfl) ?_
    obtain ⟨z3, ez3, h⟩ := z_bd h
    refine xj_i (xrV (As := []) (rest := []) ⟨hx, hb, hml, hown, hts⟩ (m_X9_findCrowned l dC dI _ h_me q_me k_me o1 z3 ez3) kw1755 kw1752 kw1754 kw95 kw120 hd_X9_findCrowned ⟨rfl, rfl⟩ rfl rfl ⟨rfl, rfl⟩ hX hK hw [0] (by decide) rfl rfl rfl rfl rfl hl.1 rfl rfl dX9_crowned_20) hw hA [0] (by decide) rfl rfl (fun H locs hw => ?_)
    have hw : Wd dC dI A s.heap [wX9 h_me q_me k_me z3.2] H locs := hw
    refine lv_istore_n (lv' := [(2, .int z3.1), (0, .ref h_me), (1, .int p0)]) hx hb dX9_crowned_23 rfl hl (by decide) rfl (fun ls hl => ?_)
    refine lv_iload_n hx hb dX9_crowned_24 rfl (lv_at hl 2 rfl) ?_
    refine lv_if_ne (tgt := 32) hx hb dX9_crowned_25 (by decide) (fun c => ?_) (fun c => ?_)
    · have h := z_f h c
      refine lv_aload_n hx hb dX9_crowned_32 rfl (lv_at hl 1 rfl) ?_
      refine fgX9_49 hx hb hts hown hK hw 0 rfl kw1225 dX9_crowned_33 ?_
      refine lv_iload_n hx hb dX9_crowned_36 rfl (lv_at hl 2 rfl) ?_
      refine lv_iconst (v := 1) hx hb dX9_crowned_37 (by decide) ?_
      refine lv_isub hx hb dX9_crowned_38 ?_
      obtain ⟨g4, h⟩ := z_gd h
      refine faX9_49 hx hb hK hw 0 rfl rfl g4 dX9_crowned_39 ?_
      have hy := Option.some.inj h
      rw [← hQz, ← hy]
      exact xr_i (v := gA z3.2 49 (p0 - (1 : Int32)).toNatClampNeg) hx hb hr rfl hlk hK hw dX9_crowned_40
    · have h := z_t h c
      refine lv_iload_n hx hb dX9_crowned_28 rfl (lv_at hl 0 rfl) ?_
      refine lv_goto (tgt := 40) hx hb dX9_crowned_29 (by decide) ?_
      have hy := Option.some.inj h
      rw [← hQz, ← hy]
      exact xr_i (v := z3.1) hx hb hr rfl hlk hK hw dX9_crowned_40
  · have h := z_t h c
    refine lv_iconst (v := (-1)) hx hb dX9_crowned_17 (by decide) ?_
    have hy := Option.some.inj h
    rw [← hQz, ← hy]
    exact xr_i (v := (-1 : Int32)) hx hb hr rfl hlk hK hw dX9_crowned_18

def bk_X9_drawn_60   (v1 : Int32) (s0 : Int32) (o_me : Ob) : Option (Int32 × Ob) :=
  zgd (zin ((s0 - (4 : Int32)) + v1) 25) <|
  some (gA o_me 61 ((s0 - (4 : Int32)) + v1).toNatClampNeg, o_me)
def f_X9_drawn (o_me : Ob) (p0 : Int32) (p1 : Int32) : Option (Int32 × Ob) :=
  zlt (sI o_me 0 (0 : Int32)) fun o1 =>
  (f_X9_in p0.toInt64 (0 : Int64) (((gI o1 62).toInt64) - (1 : Int64))).bind fun z2 =>
  if z2 = (0 : Int32) then
  (some ((-1 : Int32), o1))
  else
  ((f_X9_in p1.toInt64 (0 : Int64) (2 : Int64)).bind fun z3 =>
  if z3 = (0 : Int32) then
  (some ((-1 : Int32), o1))
  else
  (if p1 = (0 : Int32) then
  (bk_X9_drawn_60   p0 (8 : Int32) o1)
  else
  (if p1 = (1 : Int32) then
  (bk_X9_drawn_60   p0 (15 : Int32) o1)
  else
  (bk_X9_drawn_60   p0 (22 : Int32) o1))))
set_option maxHeartbeats 4000000 in
set_option maxRecDepth 100000 in
theorem m_X9_drawn (l : Launch) (dC : Nat → ClassId) (dI : Nat → Nat → Nat) (sz : Nat) (h_me : Nat) (q_me : Nat → Nat) (k_me : Nat → ClassId) (o_me : Ob) (p0 : Int32) (p1 : Int32) (y : Int32 × Ob) (h : f_X9_drawn o_me p0 p1 = some y) : CI l yX9_drawn cX9_drawn 3 (some .int) ({ frames := 1, cells := 0, slots := 0, locals := 25 } : Room) dC dI sz [.ref h_me, .int p0, .int p1] [wX9 h_me q_me k_me o_me] [tX9 k_me] y.1 [wX9 h_me q_me k_me y.2] := by
  refine CC_of (by decide) (Nat.le_of_ble_eq_true rfl) ?_
  intro p e s m below meth c A ls hx hb hml hr hlk hnm hown hts hX hK hP hD hA hl
  have hl : lv_has ls 3 [(0, .ref h_me), (1, .int p0), (2, .int p1)] := hl
  have hown : s.vm.findClass RX9 = some m.cls := hown
  have hw : Wd dC dI A s.heap [wX9 h_me q_me k_me o_me] s.heap [] := ⟨hP, hD, va_S.rf⟩
  generalize hQz : (MQ below (QI dC dI (fun r (_ : Unit) => r = y.1) (fun _ => Jn [wX9 h_me q_me k_me y.2]) (fun _ => Jt [tX9 k_me]) A) ([.ref h_me, .int p0, .int p1] : List Value).toArray s 0 0 A) = Qz
  clear hP hD hnm
  have bk_60_0 : ∀ (v1 : Int32) (s0 : Int32) (o_me : Ob) (H : Heap) (locs : List Loc) (ls : Array Slot), bk_X9_drawn_60   v1 s0 o_me = some y → Wd dC dI A s.heap [wX9 h_me q_me k_me o_me] H locs → lv_has ls 3 [(1, .int v1)] → W p l e ({ frames := 1, cells := 0, slots := 0, locals := 25 } : Room) s m ([.ref h_me, .int p0, .int p1] : List Value).toArray below meth c H locs 0 0 Qz (F0 m 60 ls [.int s0, .ref (q_me 61)]) := by
    intro v1 s0 o_me H locs ls h hw hl
    unfold bk_X9_drawn_60 at h
    refine lv_iconst (v := 4) hx hb dX9_drawn_60 (by decide) ?_
    refine lv_isub hx hb dX9_drawn_61 ?_
    refine lv_iload_n hx hb dX9_drawn_62 rfl (lv_at hl 0 rfl) ?_
    refine lv_iadd hx hb dX9_drawn_63 ?_
    obtain ⟨g4, h⟩ := z_gd h
    refine faX9_61 hx hb hK hw 0 rfl rfl g4 dX9_drawn_64 ?_
    have hy := Option.some.inj h
    rw [← hQz, ← hy]
    exact xr_i (v := gA o_me 61 ((s0 - (4 : Int32)) + v1).toNatClampNeg) hx hb hr rfl hlk hK hw dX9_drawn_65
  unfold f_X9_drawn at h
  refine lv_aload_n hx hb dX9_drawn_0 rfl (lv_at hl 0 rfl) ?_
  refine lv_iconst (v := 0) hx hb dX9_drawn_1 (by decide) ?_
  refine fpX9_0 hx hb hts hown hK hw 0 rfl kw1176 dX9_drawn_2 (fun H locs hw => ?_)
  obtain ⟨o1, eo1, h⟩ := z_lt h
  have hw : Wd dC dI A s.heap [wX9 h_me q_me k_me o1] H locs := by rw [eo1]; exact hw
  refine lv_iload_n hx hb dX9_drawn_5 rfl (lv_at hl 1 rfl) ?_
  refine lv_i2l hx hb dX9_drawn_6 rfl ?_
  refine lv_lconst (v := 0) hx hb dX9_drawn_7 (by decide) ?_
  refine lv_aload_n hx hb dX9_drawn_8 rfl (lv_at hl 0 rfl) ?_
  refine fgX9_62 hx hb hts hown hK hw 0 rfl kw1238 dX9_drawn_9 ?_
  refine lv_i2l hx hb dX9_drawn_12 rfl ?_
  refine lv_lconst (v := 1) hx hb dX9_drawn_13 (by decide) ?_
  refine lv_lsub hx hb dX9_drawn_14 ?_
  obtain ⟨z2, ez2, h⟩ := z_bd h
  refine xj_i (xrS (As := [.long p0.toInt64, .long (0 : Int64), .long (((gI o1 62).toInt64) - (1 : Int64))]) (rest := []) ⟨hx, hb, hml, hown, hts⟩ (m_X9_in l dC dI _  p0.toInt64 (0 : Int64) (((gI o1 62).toInt64) - (1 : Int64)) z2 ez2) kw1385 kw1383 kw1384 kw120 hd_X9_in ⟨rfl, rfl⟩ rfl rfl ⟨rfl, rfl⟩ hX hK hw [] (by decide) rfl rfl hl.1 rfl rfl dX9_drawn_15) hw hA [] (by decide) rfl rfl (fun H locs hw => ?_)
  refine lv_if_eq (tgt := 33) hx hb dX9_drawn_18 (by decide) (fun c => ?_) (fun c => ?_)
  · have h := z_t h c
    refine lv_iconst (v := (-1)) hx hb dX9_drawn_33 (by decide) ?_
    have hy := Option.some.inj h
    rw [← hQz, ← hy]
    exact xr_i (v := (-1 : Int32)) hx hb hr rfl hlk hK hw dX9_drawn_34
  · have h := z_f h c
    refine lv_iload_n hx hb dX9_drawn_21 rfl (lv_at hl 2 rfl) ?_
    refine lv_i2l hx hb dX9_drawn_22 rfl ?_
    refine lv_lconst (v := 0) hx hb dX9_drawn_23 (by decide) ?_
    refine lv_ldc2 (v := 2) hx hb hown (hts _ kw1852) dX9_drawn_24 ?_
    obtain ⟨z3, ez3, h⟩ := z_bd h
    refine xj_i (xrS (As := [.long p1.toInt64, .long (0 : Int64), .long (2 : Int64)]) (rest := []) ⟨hx, hb, hml, hown, hts⟩ (m_X9_in l dC dI _  p1.toInt64 (0 : Int64) (2 : Int64) z3 ez3) kw1385 kw1383 kw1384 kw120 hd_X9_in ⟨rfl, rfl⟩ rfl rfl ⟨rfl, rfl⟩ hX hK hw [] (by decide) rfl rfl hl.1 rfl rfl dX9_drawn_27) hw hA [] (by decide) rfl rfl (fun H locs hw => ?_)
    refine lv_if_ne (tgt := 35) hx hb dX9_drawn_30 (by decide) (fun c => ?_) (fun c => ?_)
    · have h := z_f h c
      refine lv_aload_n hx hb dX9_drawn_35 rfl (lv_at hl 0 rfl) ?_
      refine fgX9_61 hx hb hts hown hK hw 0 rfl kw1237 dX9_drawn_36 ?_
      refine lv_iload_n hx hb dX9_drawn_39 rfl (lv_at hl 2 rfl) ?_
      refine lv_if_ne (tgt := 48) hx hb dX9_drawn_40 (by decide) (fun c => ?_) (fun c => ?_)
      · have h := z_f h c
        refine lv_iload_n hx hb dX9_drawn_48 rfl (lv_at hl 2 rfl) ?_
        refine lv_iconst (v := 1) hx hb dX9_drawn_49 (by decide) ?_
        refine lv_icmp_ne (tgt := 58) hx hb dX9_drawn_50 (by decide) (fun c => ?_) (fun c => ?_)
        · have h := z_f h c
          refine lv_bipush (v := 22) hx hb dX9_drawn_58 (by decide) ?_
          exact bk_60_0  p0 (22 : Int32) o1 _ _ _ h hw (lv_sub hl [1] rfl)
        · have h := z_t h c
          refine lv_bipush (v := 15) hx hb dX9_drawn_53 (by decide) ?_
          refine lv_goto (tgt := 60) hx hb dX9_drawn_55 (by decide) ?_
          exact bk_60_0  p0 (15 : Int32) o1 _ _ _ h hw (lv_sub hl [1] rfl)
      · have h := z_t h c
        refine lv_bipush (v := 8) hx hb dX9_drawn_43 (by decide) ?_
        refine lv_goto (tgt := 60) hx hb dX9_drawn_45 (by decide) ?_
        exact bk_60_0  p0 (8 : Int32) o1 _ _ _ h hw (lv_sub hl [1] rfl)
    · have h := z_t h c
      refine lv_iconst (v := (-1)) hx hb dX9_drawn_33 (by decide) ?_
      have hy := Option.some.inj h
      rw [← hQz, ← hy]
      exact xr_i (v := (-1 : Int32)) hx hb hr rfl hlk hK hw dX9_drawn_34

def bk_X9_elder_36 (o_me : Ob) (rec_4_0 : Int32 × Int32 × Int32 → Option (Int32)) (v1 : Int32) (v3 : Int32) (s0 : Int32) (s1 : Int32) : Option (Int32) :=
  zlt (s1 + s0) fun x3 =>
  zlt (v3 + (1 : Int32)) fun x4 =>
  rec_4_0 (v1, x3, x4)
def lb_X9_elder_4 (o_me : Ob)  (rec_4_0 : Int32 × Int32 × Int32 → Option (Int32)) (v1 : Int32) (v2 : Int32) (v3 : Int32) : Option (Int32) :=
  if v1 ≤ v3 then
  (some v2)
  else
  (zgd (zin ((29 : Int32) + v3) 5484) <|
  zgd (zin ((29 : Int32) + v1) 5484) <|
  if (gA o_me 3 ((29 : Int32) + v3).toNatClampNeg) = (gA o_me 3 ((29 : Int32) + v1).toNatClampNeg) then
  (bk_X9_elder_36 o_me rec_4_0 v1 v3 (1 : Int32) v2)
  else
  (bk_X9_elder_36 o_me rec_4_0 v1 v3 (0 : Int32) v2))
def lp_X9_elder_4 (o_me : Ob)  : Nat → (Int32 × Int32 × Int32) → Option (Int32) := zit (fun rec a => lb_X9_elder_4 o_me  rec a.1 a.2.1 a.2.2)
def f_X9_elder (o_me : Ob) (p0 : Int32) : Option (Int32) :=
  lp_X9_elder_4 o_me  zfu (p0, (0 : Int32), (0 : Int32))
set_option maxHeartbeats 4000000 in
set_option maxRecDepth 100000 in
theorem m_X9_elder (l : Launch) (dC : Nat → ClassId) (dI : Nat → Nat → Nat) (sz : Nat) (h_me : Nat) (q_me : Nat → Nat) (k_me : Nat → ClassId) (o_me : Ob) (p0 : Int32) (y : Int32) (h : f_X9_elder o_me p0 = some y) : CI l yX9_elder cX9_elder 4 (some .int) ({ frames := 0, cells := 0, slots := 0, locals := 0 } : Room) dC dI sz [.ref h_me, .int p0] [wX9 h_me q_me k_me o_me] [tX9 k_me] y [wX9 h_me q_me k_me o_me] := by
  refine CC_of (by decide) (Nat.le_of_ble_eq_true rfl) ?_
  intro p e s m below meth c A ls hx hb hml hr hlk hnm hown hts hX hK hP hD hA hl
  have hl : lv_has ls 4 [(0, .ref h_me), (1, .int p0)] := hl
  have hown : s.vm.findClass RX9 = some m.cls := hown
  have hw : Wd dC dI A s.heap [wX9 h_me q_me k_me o_me] s.heap [] := ⟨hP, hD, va_S.rf⟩
  generalize hQz : (MQ below (QI dC dI (fun r (_ : Unit) => r = y) (fun _ => Jn [wX9 h_me q_me k_me o_me]) (fun _ => Jt [tX9 k_me]) A) ([.ref h_me, .int p0] : List Value).toArray s 0 0 A) = Qz
  clear hP hD hnm
  have bk_36_1 : ∀ (rec_4_0 : Int32 × Int32 × Int32 → Option (Int32)) (hrec_4_0 : ∀ (v1 : Int32) (v2 : Int32) (v3 : Int32) (H : Heap) (locs : List Loc) (ls : Array Slot), rec_4_0 (v1, v2, v3) = some y → Wd dC dI A s.heap [wX9 h_me q_me k_me o_me] H locs → lv_has ls 4 [(0, .ref h_me), (1, .int v1), (2, .int v2), (3, .int v3)] → W p l e ({ frames := 0, cells := 0, slots := 0, locals := 0 } : Room) s m ([.ref h_me, .int p0] : List Value).toArray below meth c H locs 0 0 Qz (F0 m 4 ls [])), ∀ (v1 : Int32) (v3 : Int32) (s0 : Int32) (s1 : Int32) (H : Heap) (locs : List Loc) (ls : Array Slot), bk_X9_elder_36 o_me rec_4_0 v1 v3 s0 s1 = some y → Wd dC dI A s.heap [wX9 h_me q_me k_me o_me] H locs → lv_has ls 4 [(0, .ref h_me), (1, .int v1), (3, .int v3)] → W p l e ({ frames := 0, cells := 0, slots := 0, locals := 0 } : Room) s m ([.ref h_me, .int p0] : List Value).toArray below meth c H locs 0 0 Qz (F0 m 36 ls [.int s0, .int s1]) := by
    intro rec_4_0 hrec_4_0
    intro v1 v3 s0 s1 H locs ls h hw hl
    unfold bk_X9_elder_36 at h
    refine lv_iadd hx hb dX9_elder_36 ?_
    obtain ⟨x3, ex3, h⟩ := z_lt h
    refine lv_fi (v := x3) ex3.symm ?_
    refine lv_istore_n (lv' := [(2, .int x3), (0, .ref h_me), (1, .int v1), (3, .int v3)]) hx hb dX9_elder_37 rfl hl (by decide) rfl (fun ls hl => ?_)
    obtain ⟨x4, ex4, h⟩ := z_lt h
    refine lv_iinc (v := x4) (lv' := [(3, .int x4), (2, .int x3), (0, .ref h_me), (1, .int v1)]) hx hb dX9_elder_38 hl (k := 3) rfl ((congrArg (v3 + ·) (show Int32.ofInt 1 = (1 : Int32) from by decide)).trans ex4.symm) (by decide) rfl (fun ls hl => ?_)
    refine lv_goto (tgt := 4) hx hb dX9_elder_41 (by decide) ?_
    exact hrec_4_0 v1 x3 x4 _ _ _ h hw (lv_sub hl [2, 3, 1, 0] rfl)
  have lp_4_0 : ∀ (N : Nat), ∀ (v1 : Int32) (v2 : Int32) (v3 : Int32) (H : Heap) (locs : List Loc) (ls : Array Slot), lp_X9_elder_4 o_me  N (v1, v2, v3) = some y → Wd dC dI A s.heap [wX9 h_me q_me k_me o_me] H locs → lv_has ls 4 [(0, .ref h_me), (1, .int v1), (2, .int v2), (3, .int v3)] → W p l e ({ frames := 0, cells := 0, slots := 0, locals := 0 } : Room) s m ([.ref h_me, .int p0] : List Value).toArray below meth c H locs 0 0 Qz (F0 m 4 ls []) := by
    intro N
    induction N with
    | zero =>
      intro v1 v2 v3 H locs ls h hw hl
      exact absurd (show (none : Option (Int32)) = some y from h) (by simp)
    | succ N ih =>
      intro v1 v2 v3 H locs ls h hw hl
      have h : lb_X9_elder_4 o_me  (lp_X9_elder_4 o_me  N) v1 v2 v3 = some y := h
      unfold lb_X9_elder_4 at h
      refine lv_iload_n hx hb dX9_elder_4 rfl (lv_at hl 3 rfl) ?_
      refine lv_iload_n hx hb dX9_elder_5 rfl (lv_at hl 1 rfl) ?_
      refine lv_icmp_ge (tgt := 44) hx hb dX9_elder_6 (by decide) (fun c => ?_) (fun c => ?_)
      · have h := z_t h c
        refine lv_iload_n hx hb dX9_elder_44 rfl (lv_at hl 2 rfl) ?_
        have hy := Option.some.inj h
        rw [← hQz, ← hy]
        exact xr_i (v := v2) hx hb hr rfl hlk hK hw dX9_elder_45
      · have h := z_f h c
        refine lv_iload_n hx hb dX9_elder_9 rfl (lv_at hl 2 rfl) ?_
        refine lv_aload_n hx hb dX9_elder_10 rfl (lv_at hl 0 rfl) ?_
        refine fgX9_3 hx hb hts hown hK hw 0 rfl kw1179 dX9_elder_11 ?_
        refine lv_bipush (v := 29) hx hb dX9_elder_14 (by decide) ?_
        refine lv_iload_n hx hb dX9_elder_16 rfl (lv_at hl 3 rfl) ?_
        refine lv_iadd hx hb dX9_elder_17 ?_
        obtain ⟨g1, h⟩ := z_gd h
        refine faX9_3 hx hb hK hw 0 rfl rfl g1 dX9_elder_18 ?_
        refine lv_aload_n hx hb dX9_elder_19 rfl (lv_at hl 0 rfl) ?_
        refine fgX9_3 hx hb hts hown hK hw 0 rfl kw1179 dX9_elder_20 ?_
        refine lv_bipush (v := 29) hx hb dX9_elder_23 (by decide) ?_
        refine lv_iload_n hx hb dX9_elder_25 rfl (lv_at hl 1 rfl) ?_
        refine lv_iadd hx hb dX9_elder_26 ?_
        obtain ⟨g2, h⟩ := z_gd h
        refine faX9_3 hx hb hK hw 0 rfl rfl g2 dX9_elder_27 ?_
        refine lv_icmp_ne (tgt := 35) hx hb dX9_elder_28 (by decide) (fun c => ?_) (fun c => ?_)
        · have h := z_f h c
          refine lv_iconst (v := 0) hx hb dX9_elder_35 (by decide) ?_
          exact bk_36_1 (lp_X9_elder_4 o_me  N) ih v1 v3 (0 : Int32) v2 _ _ _ h hw (lv_sub hl [0, 1, 3] rfl)
        · have h := z_t h c
          refine lv_iconst (v := 1) hx hb dX9_elder_31 (by decide) ?_
          refine lv_goto (tgt := 36) hx hb dX9_elder_32 (by decide) ?_
          exact bk_36_1 (lp_X9_elder_4 o_me  N) ih v1 v3 (1 : Int32) v2 _ _ _ h hw (lv_sub hl [0, 1, 3] rfl)
  unfold f_X9_elder at h
  refine lv_iconst (v := 0) hx hb dX9_elder_0 (by decide) ?_
  refine lv_istore_n (lv' := [(2, .int (0 : Int32)), (0, .ref h_me), (1, .int p0)]) hx hb dX9_elder_1 rfl hl (by decide) rfl (fun ls hl => ?_)
  refine lv_iconst (v := 0) hx hb dX9_elder_2 (by decide) ?_
  refine lv_istore_n (lv' := [(3, .int (0 : Int32)), (2, .int (0 : Int32)), (0, .ref h_me), (1, .int p0)]) hx hb dX9_elder_3 rfl hl (by decide) rfl (fun ls hl => ?_)
  exact lp_4_0  zfu p0 (0 : Int32) (0 : Int32) _ _ _ h hw (lv_sub hl [2, 3, 1, 0] rfl)

def f_X9_end (o_me : Ob) (p0 : Int32) : Option (Int32 × Ob) :=
  zlt (sI o_me 0 (0 : Int32)) fun o1 =>
  if p0 < (0 : Int32) then
  (some ((-1 : Int32), o1))
  else
  (if p0 ≤ (gI o1 13) then
  (zlt (sI o1 13 p0) fun o2 =>
  some (p0, o2))
  else
  (some ((-1 : Int32), o1)))
set_option maxHeartbeats 4000000 in
set_option maxRecDepth 100000 in
theorem m_X9_end (l : Launch) (dC : Nat → ClassId) (dI : Nat → Nat → Nat) (sz : Nat) (h_me : Nat) (q_me : Nat → Nat) (k_me : Nat → ClassId) (o_me : Ob) (p0 : Int32) (y : Int32 × Ob) (h : f_X9_end o_me p0 = some y) : CI l yX9_end cX9_end 2 (some .int) ({ frames := 0, cells := 0, slots := 0, locals := 0 } : Room) dC dI sz [.ref h_me, .int p0] [wX9 h_me q_me k_me o_me] [tX9 k_me] y.1 [wX9 h_me q_me k_me y.2] := by
  refine CC_of (by decide) (Nat.le_of_ble_eq_true rfl) ?_
  intro p e s m below meth c A ls hx hb hml hr hlk hnm hown hts hX hK hP hD hA hl
  have hl : lv_has ls 2 [(0, .ref h_me), (1, .int p0)] := hl
  have hown : s.vm.findClass RX9 = some m.cls := hown
  have hw : Wd dC dI A s.heap [wX9 h_me q_me k_me o_me] s.heap [] := ⟨hP, hD, va_S.rf⟩
  generalize hQz : (MQ below (QI dC dI (fun r (_ : Unit) => r = y.1) (fun _ => Jn [wX9 h_me q_me k_me y.2]) (fun _ => Jt [tX9 k_me]) A) ([.ref h_me, .int p0] : List Value).toArray s 0 0 A) = Qz
  clear hP hD hnm
  unfold f_X9_end at h
  refine lv_aload_n hx hb dX9_end_0 rfl (lv_at hl 0 rfl) ?_
  refine lv_iconst (v := 0) hx hb dX9_end_1 (by decide) ?_
  refine fpX9_0 hx hb hts hown hK hw 0 rfl kw1176 dX9_end_2 (fun H locs hw => ?_)
  obtain ⟨o1, eo1, h⟩ := z_lt h
  have hw : Wd dC dI A s.heap [wX9 h_me q_me k_me o1] H locs := by rw [eo1]; exact hw
  refine lv_iload_n hx hb dX9_end_5 rfl (lv_at hl 1 rfl) ?_
  refine lv_if_lt (tgt := 17) hx hb dX9_end_6 (by decide) (fun c => ?_) (fun c => ?_)
  · have h := z_t h c
    refine lv_iconst (v := (-1)) hx hb dX9_end_17 (by decide) ?_
    have hy := Option.some.inj h
    rw [← hQz, ← hy]
    exact xr_i (v := (-1 : Int32)) hx hb hr rfl hlk hK hw dX9_end_18
  · have h := z_f h c
    refine lv_iload_n hx hb dX9_end_9 rfl (lv_at hl 1 rfl) ?_
    refine lv_aload_n hx hb dX9_end_10 rfl (lv_at hl 0 rfl) ?_
    refine fgX9_13 hx hb hts hown hK hw 0 rfl kw1189 dX9_end_11 ?_
    refine lv_icmp_le (tgt := 19) hx hb dX9_end_14 (by decide) (fun c => ?_) (fun c => ?_)
    · have h := z_t h c
      refine lv_aload_n hx hb dX9_end_19 rfl (lv_at hl 0 rfl) ?_
      refine lv_iload_n hx hb dX9_end_20 rfl (lv_at hl 1 rfl) ?_
      refine fpX9_13 hx hb hts hown hK hw 0 rfl kw1189 dX9_end_21 (fun H locs hw => ?_)
      obtain ⟨o2, eo2, h⟩ := z_lt h
      have hw : Wd dC dI A s.heap [wX9 h_me q_me k_me o2] H locs := by rw [eo2]; exact hw
      refine lv_iload_n hx hb dX9_end_24 rfl (lv_at hl 1 rfl) ?_
      have hy := Option.some.inj h
      rw [← hQz, ← hy]
      exact xr_i (v := p0) hx hb hr rfl hlk hK hw dX9_end_25
    · have h := z_f h c
      refine lv_iconst (v := (-1)) hx hb dX9_end_17 (by decide) ?_
      have hy := Option.some.inj h
      rw [← hQz, ← hy]
      exact xr_i (v := (-1 : Int32)) hx hb hr rfl hlk hK hw dX9_end_18

def bk_X9_endText_19   (o_me : Ob) : Option (Ob) :=
  zlt (sI o_me 20 (0 : Int32)) fun o1 =>
  zlt (sI o1 13 (0 : Int32)) fun o2 =>
  some o2
def f_X9_endText (o_me : Ob) : Option (Ob) :=
  if (gI o_me 19) = (0 : Int32) then
  (if (gI o_me 16) = (0 : Int32) then
  (bk_X9_endText_19   o_me)
  else
  ((f_X9_must o_me (0 : Int32)).bind fun z3 =>
  bk_X9_endText_19   z3))
  else
  (bk_X9_endText_19   o_me)
set_option maxHeartbeats 4000000 in
set_option maxRecDepth 100000 in
theorem m_X9_endText (l : Launch) (dC : Nat → ClassId) (dI : Nat → Nat → Nat) (sz : Nat) (h_me : Nat) (q_me : Nat → Nat) (k_me : Nat → ClassId) (o_me : Ob) (y : Ob) (h : f_X9_endText o_me = some y) : CV l yX9_endText cX9_endText 1 none ({ frames := 3, cells := 0, slots := 0, locals := 61 } : Room) dC dI sz [.ref h_me] [wX9 h_me q_me k_me o_me] [tX9 k_me] [wX9 h_me q_me k_me y] := by
  refine CC_of (by decide) (Nat.le_of_ble_eq_true rfl) ?_
  intro p e s m below meth c A ls hx hb hml hr hlk hnm hown hts hX hK hP hD hA hl
  have hl : lv_has ls 1 [(0, .ref h_me)] := hl
  have hown : s.vm.findClass RX9 = some m.cls := hown
  have hw : Wd dC dI A s.heap [wX9 h_me q_me k_me o_me] s.heap [] := ⟨hP, hD, va_S.rf⟩
  generalize hQz : (MQ below (QV dC dI (fun (_ : Unit) => True) (fun _ => Jn [wX9 h_me q_me k_me y]) (fun _ => Jt [tX9 k_me]) A) ([.ref h_me] : List Value).toArray s 0 0 A) = Qz
  clear hP hD hnm
  have bk_19_0 : ∀ (o_me : Ob) (H : Heap) (locs : List Loc) (ls : Array Slot), bk_X9_endText_19   o_me = some y → Wd dC dI A s.heap [wX9 h_me q_me k_me o_me] H locs → lv_has ls 1 [(0, .ref h_me)] → W p l e ({ frames := 3, cells := 0, slots := 0, locals := 61 } : Room) s m ([.ref h_me] : List Value).toArray below meth c H locs 0 0 Qz (F0 m 19 ls []) := by
    intro o_me H locs ls h hw hl
    unfold bk_X9_endText_19 at h
    refine lv_aload_n hx hb dX9_endText_19 rfl (lv_at hl 0 rfl) ?_
    refine lv_iconst (v := 0) hx hb dX9_endText_20 (by decide) ?_
    refine fpX9_20 hx hb hts hown hK hw 0 rfl kw1196 (by decide) dX9_endText_21 (fun H locs hw => ?_)
    obtain ⟨o1, eo1, h⟩ := z_lt h
    have hw : Wd dC dI A s.heap [wX9 h_me q_me k_me o1] H locs := by rw [eo1]; exact hw
    refine lv_aload_n hx hb dX9_endText_24 rfl (lv_at hl 0 rfl) ?_
    refine lv_iconst (v := 0) hx hb dX9_endText_25 (by decide) ?_
    refine fpX9_13 hx hb hts hown hK hw 0 rfl kw1189 dX9_endText_26 (fun H locs hw => ?_)
    obtain ⟨o2, eo2, h⟩ := z_lt h
    have hw : Wd dC dI A s.heap [wX9 h_me q_me k_me o2] H locs := by rw [eo2]; exact hw
    have hy := Option.some.inj h
    rw [← hQz, ← hy]
    exact xr_v hx hb hr hlk hK hw dX9_endText_29
  unfold f_X9_endText at h
  refine lv_aload_n hx hb dX9_endText_0 rfl (lv_at hl 0 rfl) ?_
  refine fgX9_19 hx hb hts hown hK hw 0 rfl kw1195 dX9_endText_1 ?_
  refine lv_if_ne (tgt := 19) hx hb dX9_endText_4 (by decide) (fun c => ?_) (fun c => ?_)
  · have h := z_f h c
    exact bk_19_0  o_me _ _ _ h hw (lv_sub hl [0] rfl)
  · have h := z_t h c
    refine lv_aload_n hx hb dX9_endText_7 rfl (lv_at hl 0 rfl) ?_
    refine fgX9_16 hx hb hts hown hK hw 0 rfl kw1192 dX9_endText_8 ?_
    refine lv_if_eq (tgt := 19) hx hb dX9_endText_11 (by decide) (fun c => ?_) (fun c => ?_)
    · have h := z_t h c
      exact bk_19_0  o_me _ _ _ h hw (lv_sub hl [0] rfl)
    · have h := z_f h c
      refine lv_aload_n hx hb dX9_endText_14 rfl (lv_at hl 0 rfl) ?_
      refine lv_iconst (v := 0) hx hb dX9_endText_15 (by decide) ?_
      obtain ⟨z3, ez3, h⟩ := z_bd h
      refine xj_v (xrV (As := [.int (0 : Int32)]) (rest := []) ⟨hx, hb, hml, hown, hts⟩ (m_X9_must l dC dI _ h_me q_me k_me o_me (0 : Int32) z3 ez3) kw1534 kw1531 kw1533 kw58 kw120 hd_X9_must ⟨rfl, rfl⟩ rfl rfl ⟨rfl, rfl⟩ hX hK hw [0] (by decide) rfl rfl rfl rfl rfl hl.1 rfl rfl dX9_endText_16) hw hA [0] (by decide) rfl rfl (fun H locs hw => ?_)
      have hw : Wd dC dI A s.heap [wX9 h_me q_me k_me z3] H locs := hw
      exact bk_19_0  z3 _ _ _ h hw (lv_sub hl [0] rfl)

def f_X9_enter (o_me : Ob) (p0 : Int32) : Option (Int32 × Ob) :=
  zlt (sI o_me 0 (0 : Int32)) fun o1 =>
  (f_X9_enterNow o1 p0).bind fun z2 =>
  (f_X9_tell z2.2 z2.1).bind fun z3 =>
  some (z3.1, z3.2)
set_option maxHeartbeats 4000000 in
set_option maxRecDepth 100000 in
theorem m_X9_enter (l : Launch) (dC : Nat → ClassId) (dI : Nat → Nat → Nat) (sz : Nat) (h_me : Nat) (q_me : Nat → Nat) (k_me : Nat → ClassId) (o_me : Ob) (p0 : Int32) (y : Int32 × Ob) (h : f_X9_enter o_me p0 = some y) : CI l yX9_enter cX9_enter 2 (some .int) ({ frames := 3, cells := 0, slots := 0, locals := 67 } : Room) dC dI sz [.ref h_me, .int p0] [wX9 h_me q_me k_me o_me] [tX9 k_me] y.1 [wX9 h_me q_me k_me y.2] := by
  refine CC_of (by decide) (Nat.le_of_ble_eq_true rfl) ?_
  intro p e s m below meth c A ls hx hb hml hr hlk hnm hown hts hX hK hP hD hA hl
  have hl : lv_has ls 2 [(0, .ref h_me), (1, .int p0)] := hl
  have hown : s.vm.findClass RX9 = some m.cls := hown
  have hw : Wd dC dI A s.heap [wX9 h_me q_me k_me o_me] s.heap [] := ⟨hP, hD, va_S.rf⟩
  generalize hQz : (MQ below (QI dC dI (fun r (_ : Unit) => r = y.1) (fun _ => Jn [wX9 h_me q_me k_me y.2]) (fun _ => Jt [tX9 k_me]) A) ([.ref h_me, .int p0] : List Value).toArray s 0 0 A) = Qz
  clear hP hD hnm
  unfold f_X9_enter at h
  refine lv_aload_n hx hb dX9_enter_0 rfl (lv_at hl 0 rfl) ?_
  refine lv_iconst (v := 0) hx hb dX9_enter_1 (by decide) ?_
  refine fpX9_0 hx hb hts hown hK hw 0 rfl kw1176 dX9_enter_2 (fun H locs hw => ?_)
  obtain ⟨o1, eo1, h⟩ := z_lt h
  have hw : Wd dC dI A s.heap [wX9 h_me q_me k_me o1] H locs := by rw [eo1]; exact hw
  refine lv_aload_n hx hb dX9_enter_5 rfl (lv_at hl 0 rfl) ?_
  refine lv_aload_n hx hb dX9_enter_6 rfl (lv_at hl 0 rfl) ?_
  refine lv_iload_n hx hb dX9_enter_7 rfl (lv_at hl 1 rfl) ?_
  obtain ⟨z2, ez2, h⟩ := z_bd h
  refine xj_i (xrV (As := [.int p0]) (rest := [.ref h_me]) ⟨hx, hb, hml, hown, hts⟩ (m_X9_enterNow l dC dI _ h_me q_me k_me o1 p0 z2 ez2) kw1660 kw1657 kw1659 kw83 kw120 hd_X9_enterNow ⟨rfl, rfl⟩ rfl rfl ⟨rfl, rfl⟩ hX hK hw [0] (by decide) rfl rfl rfl rfl rfl hl.1 rfl rfl dX9_enter_8) hw hA [0] (by decide) rfl rfl (fun H locs hw => ?_)
  have hw : Wd dC dI A s.heap [wX9 h_me q_me k_me z2.2] H locs := hw
  obtain ⟨z3, ez3, h⟩ := z_bd h
  refine xj_i (xrV (As := [.int z2.1]) (rest := []) ⟨hx, hb, hml, hown, hts⟩ (m_X9_tell l dC dI _ h_me q_me k_me z2.2 z2.1 z3 ez3) kw1374 kw1371 kw1373 kw39 kw120 hd_X9_tell ⟨rfl, rfl⟩ rfl rfl ⟨rfl, rfl⟩ hX hK hw [0] (by decide) rfl rfl rfl rfl rfl hl.1 rfl rfl dX9_enter_11) hw hA [0] (by decide) rfl rfl (fun H locs hw => ?_)
  have hw : Wd dC dI A s.heap [wX9 h_me q_me k_me z3.2] H locs := hw
  have hy := Option.some.inj h
  rw [← hQz, ← hy]
  exact xr_i (v := z3.1) hx hb hr rfl hlk hK hw dX9_enter_14

def f_X9_fault (o_me : Ob) : Option (Int32 × Ob) :=
  zlt (sI o_me 0 (0 : Int32)) fun o1 =>
  some (gI o1 18, o1)
set_option maxHeartbeats 4000000 in
set_option maxRecDepth 100000 in
theorem m_X9_fault (l : Launch) (dC : Nat → ClassId) (dI : Nat → Nat → Nat) (sz : Nat) (h_me : Nat) (q_me : Nat → Nat) (k_me : Nat → ClassId) (o_me : Ob) (y : Int32 × Ob) (h : f_X9_fault o_me = some y) : CI l yX9_fault cX9_fault 1 (some .int) ({ frames := 0, cells := 0, slots := 0, locals := 0 } : Room) dC dI sz [.ref h_me] [wX9 h_me q_me k_me o_me] [tX9 k_me] y.1 [wX9 h_me q_me k_me y.2] := by
  refine CC_of (by decide) (Nat.le_of_ble_eq_true rfl) ?_
  intro p e s m below meth c A ls hx hb hml hr hlk hnm hown hts hX hK hP hD hA hl
  have hl : lv_has ls 1 [(0, .ref h_me)] := hl
  have hown : s.vm.findClass RX9 = some m.cls := hown
  have hw : Wd dC dI A s.heap [wX9 h_me q_me k_me o_me] s.heap [] := ⟨hP, hD, va_S.rf⟩
  generalize hQz : (MQ below (QI dC dI (fun r (_ : Unit) => r = y.1) (fun _ => Jn [wX9 h_me q_me k_me y.2]) (fun _ => Jt [tX9 k_me]) A) ([.ref h_me] : List Value).toArray s 0 0 A) = Qz
  clear hP hD hnm
  unfold f_X9_fault at h
  refine lv_aload_n hx hb dX9_fault_0 rfl (lv_at hl 0 rfl) ?_
  refine lv_iconst (v := 0) hx hb dX9_fault_1 (by decide) ?_
  refine fpX9_0 hx hb hts hown hK hw 0 rfl kw1176 dX9_fault_2 (fun H locs hw => ?_)
  obtain ⟨o1, eo1, h⟩ := z_lt h
  have hw : Wd dC dI A s.heap [wX9 h_me q_me k_me o1] H locs := by rw [eo1]; exact hw
  refine lv_aload_n hx hb dX9_fault_5 rfl (lv_at hl 0 rfl) ?_
  refine fgX9_18 hx hb hts hown hK hw 0 rfl kw1194 dX9_fault_6 ?_
  have hy := Option.some.inj h
  rw [← hQz, ← hy]
  exact xr_i (v := gI o1 18) hx hb hr rfl hlk hK hw dX9_fault_9

def lb_X9_four_3   (rec_3_0 : Int32 × Int32 × Ob → Option (Ob)) (v1 : Int32) (v2 : Int32) (o_me : Ob) : Option (Ob) :=
  if v2 < (0 : Int32) then
  (some o_me)
  else
  (zgd (zin (gI o_me 13) 400) <|
  zlt (tA o_me 12 (gI o_me 13).toNatClampNeg ((v1 >>> (v2 &&& 31)) &&& (255 : Int32))) fun o2 =>
  zlt (sI o2 13 ((gI o2 13) + (1 : Int32))) fun o3 =>
  zlt (v2 + (-8 : Int32)) fun x4 =>
  rec_3_0 (v1, x4, o3))
def lp_X9_four_3   : Nat → (Int32 × Int32 × Ob) → Option (Ob) := zit (fun rec a => lb_X9_four_3   rec a.1 a.2.1 a.2.2)
def f_X9_four (o_me : Ob) (p0 : Int32) : Option (Ob) :=
  lp_X9_four_3   zfu (p0, (24 : Int32), o_me)
set_option maxHeartbeats 4000000 in
set_option maxRecDepth 100000 in
theorem m_X9_four (l : Launch) (dC : Nat → ClassId) (dI : Nat → Nat → Nat) (sz : Nat) (h_me : Nat) (q_me : Nat → Nat) (k_me : Nat → ClassId) (o_me : Ob) (p0 : Int32) (y : Ob) (h : f_X9_four o_me p0 = some y) : CV l yX9_four cX9_four 3 none ({ frames := 0, cells := 0, slots := 0, locals := 0 } : Room) dC dI sz [.ref h_me, .int p0] [wX9 h_me q_me k_me o_me] [tX9 k_me] [wX9 h_me q_me k_me y] := by
  refine CC_of (by decide) (Nat.le_of_ble_eq_true rfl) ?_
  intro p e s m below meth c A ls hx hb hml hr hlk hnm hown hts hX hK hP hD hA hl
  have hl : lv_has ls 3 [(0, .ref h_me), (1, .int p0)] := hl
  have hown : s.vm.findClass RX9 = some m.cls := hown
  have hw : Wd dC dI A s.heap [wX9 h_me q_me k_me o_me] s.heap [] := ⟨hP, hD, va_S.rf⟩
  generalize hQz : (MQ below (QV dC dI (fun (_ : Unit) => True) (fun _ => Jn [wX9 h_me q_me k_me y]) (fun _ => Jt [tX9 k_me]) A) ([.ref h_me, .int p0] : List Value).toArray s 0 0 A) = Qz
  clear hP hD hnm
  have lp_3_0 : ∀ (N : Nat), ∀ (v1 : Int32) (v2 : Int32) (o_me : Ob) (H : Heap) (locs : List Loc) (ls : Array Slot), lp_X9_four_3   N (v1, v2, o_me) = some y → Wd dC dI A s.heap [wX9 h_me q_me k_me o_me] H locs → lv_has ls 3 [(0, .ref h_me), (1, .int v1), (2, .int v2)] → W p l e ({ frames := 0, cells := 0, slots := 0, locals := 0 } : Room) s m ([.ref h_me, .int p0] : List Value).toArray below meth c H locs 0 0 Qz (F0 m 3 ls []) := by
    intro N
    induction N with
    | zero =>
      intro v1 v2 o_me H locs ls h hw hl
      exact absurd (show (none : Option (Ob)) = some y from h) (by simp)
    | succ N ih =>
      intro v1 v2 o_me H locs ls h hw hl
      have h : lb_X9_four_3   (lp_X9_four_3   N) v1 v2 o_me = some y := h
      unfold lb_X9_four_3 at h
      refine lv_iload_n hx hb dX9_four_3 rfl (lv_at hl 2 rfl) ?_
      refine lv_if_lt (tgt := 39) hx hb dX9_four_4 (by decide) (fun c => ?_) (fun c => ?_)
      · have h := z_t h c
        have hy := Option.some.inj h
        rw [← hQz, ← hy]
        exact xr_v hx hb hr hlk hK hw dX9_four_39
      · have h := z_f h c
        refine lv_aload_n hx hb dX9_four_7 rfl (lv_at hl 0 rfl) ?_
        refine fgX9_12 hx hb hts hown hK hw 0 rfl kw1188 dX9_four_8 ?_
        refine lv_aload_n hx hb dX9_four_11 rfl (lv_at hl 0 rfl) ?_
        refine fgX9_13 hx hb hts hown hK hw 0 rfl kw1189 dX9_four_12 ?_
        refine lv_iload_n hx hb dX9_four_15 rfl (lv_at hl 1 rfl) ?_
        refine lv_iload_n hx hb dX9_four_16 rfl (lv_at hl 2 rfl) ?_
        refine lv_ishr hx hb dX9_four_17 ?_
        refine lv_sipush (v := 255) hx hb dX9_four_18 (by decide) ?_
        refine lv_iand hx hb dX9_four_21 ?_
        obtain ⟨g1, h⟩ := z_gd h
        refine fbX9_12 hx hb hK hw 0 rfl rfl g1 dX9_four_22 (fun H locs hw => ?_)
        obtain ⟨o2, eo2, h⟩ := z_lt h
        have hw : Wd dC dI A s.heap [wX9 h_me q_me k_me o2] H locs := by rw [eo2]; exact hw
        refine lv_aload_n hx hb dX9_four_23 rfl (lv_at hl 0 rfl) ?_
        refine lv_dup hx hb dX9_four_24 rfl ?_
        refine fgX9_13 hx hb hts hown hK hw 0 rfl kw1189 dX9_four_25 ?_
        refine lv_iconst (v := 1) hx hb dX9_four_28 (by decide) ?_
        refine lv_iadd hx hb dX9_four_29 ?_
        refine fpX9_13 hx hb hts hown hK hw 0 rfl kw1189 dX9_four_30 (fun H locs hw => ?_)
        obtain ⟨o3, eo3, h⟩ := z_lt h
        have hw : Wd dC dI A s.heap [wX9 h_me q_me k_me o3] H locs := by rw [eo3]; exact hw
        obtain ⟨x4, ex4, h⟩ := z_lt h
        refine lv_iinc (v := x4) (lv' := [(2, .int x4), (0, .ref h_me), (1, .int v1)]) hx hb dX9_four_33 hl (k := 2) rfl ((congrArg (v2 + ·) (show Int32.ofInt (-8) = (-8 : Int32) from by decide)).trans ex4.symm) (by decide) rfl (fun ls hl => ?_)
        refine lv_goto (tgt := 3) hx hb dX9_four_36 (by decide) ?_
        exact ih v1 x4 o3 _ _ _ h hw (lv_sub hl [1, 2, 0] rfl)
  unfold f_X9_four at h
  refine lv_bipush (v := 24) hx hb dX9_four_0 (by decide) ?_
  refine lv_istore_n (lv' := [(2, .int (24 : Int32)), (0, .ref h_me), (1, .int p0)]) hx hb dX9_four_2 rfl hl (by decide) rfl (fun ls hl => ?_)
  exact lp_3_0  zfu p0 (24 : Int32) o_me _ _ _ h hw (lv_sub hl [1, 2, 0] rfl)

def f_X9_feed (o_me : Ob) (p0 : Int32) (p1 : Int32) (p2 : Int32) (p3 : Int32) (p4 : Int32) : Option (Int32 × Ob) :=
  zlt (sI o_me 0 (0 : Int32)) fun o1 =>
  if ((gI o1 13) + (20 : Int32)) ≤ (400 : Int32) then
  ((f_X9_four o1 p0).bind fun z2 =>
  (f_X9_four z2 p1).bind fun z3 =>
  (f_X9_four z3 p2).bind fun z4 =>
  (f_X9_four z4 p3).bind fun z5 =>
  (f_X9_four z5 p4).bind fun z6 =>
  some (gI z6 13, z6))
  else
  (some ((-1 : Int32), o1))
set_option maxHeartbeats 4000000 in
set_option maxRecDepth 100000 in
theorem m_X9_feed (l : Launch) (dC : Nat → ClassId) (dI : Nat → Nat → Nat) (sz : Nat) (h_me : Nat) (q_me : Nat → Nat) (k_me : Nat → ClassId) (o_me : Ob) (p0 : Int32) (p1 : Int32) (p2 : Int32) (p3 : Int32) (p4 : Int32) (y : Int32 × Ob) (h : f_X9_feed o_me p0 p1 p2 p3 p4 = some y) : CI l yX9_feed cX9_feed 6 (some .int) ({ frames := 1, cells := 0, slots := 0, locals := 22 } : Room) dC dI sz [.ref h_me, .int p0, .int p1, .int p2, .int p3, .int p4] [wX9 h_me q_me k_me o_me] [tX9 k_me] y.1 [wX9 h_me q_me k_me y.2] := by
  refine CC_of (by decide) (Nat.le_of_ble_eq_true rfl) ?_
  intro p e s m below meth c A ls hx hb hml hr hlk hnm hown hts hX hK hP hD hA hl
  have hl : lv_has ls 6 [(0, .ref h_me), (1, .int p0), (2, .int p1), (3, .int p2), (4, .int p3), (5, .int p4)] := hl
  have hown : s.vm.findClass RX9 = some m.cls := hown
  have hw : Wd dC dI A s.heap [wX9 h_me q_me k_me o_me] s.heap [] := ⟨hP, hD, va_S.rf⟩
  generalize hQz : (MQ below (QI dC dI (fun r (_ : Unit) => r = y.1) (fun _ => Jn [wX9 h_me q_me k_me y.2]) (fun _ => Jt [tX9 k_me]) A) ([.ref h_me, .int p0, .int p1, .int p2, .int p3, .int p4] : List Value).toArray s 0 0 A) = Qz
  clear hP hD hnm
  unfold f_X9_feed at h
  refine lv_aload_n hx hb dX9_feed_0 rfl (lv_at hl 0 rfl) ?_
  refine lv_iconst (v := 0) hx hb dX9_feed_1 (by decide) ?_
  refine fpX9_0 hx hb hts hown hK hw 0 rfl kw1176 dX9_feed_2 (fun H locs hw => ?_)
  obtain ⟨o1, eo1, h⟩ := z_lt h
  have hw : Wd dC dI A s.heap [wX9 h_me q_me k_me o1] H locs := by rw [eo1]; exact hw
  refine lv_aload_n hx hb dX9_feed_5 rfl (lv_at hl 0 rfl) ?_
  refine fgX9_13 hx hb hts hown hK hw 0 rfl kw1189 dX9_feed_6 ?_
  refine lv_bipush (v := 20) hx hb dX9_feed_9 (by decide) ?_
  refine lv_iadd hx hb dX9_feed_11 ?_
  refine lv_sipush (v := 400) hx hb dX9_feed_12 (by decide) ?_
  refine lv_icmp_le (tgt := 20) hx hb dX9_feed_15 (by decide) (fun c => ?_) (fun c => ?_)
  · have h := z_t h c
    refine lv_aload_n hx hb dX9_feed_20 rfl (lv_at hl 0 rfl) ?_
    refine lv_iload_n hx hb dX9_feed_21 rfl (lv_at hl 1 rfl) ?_
    obtain ⟨z2, ez2, h⟩ := z_bd h
    refine xj_v (xrV (As := [.int p0]) (rest := []) ⟨hx, hb, hml, hown, hts⟩ (m_X9_four l dC dI _ h_me q_me k_me o1 p0 z2 ez2) kw1488 kw1485 kw1487 kw52 kw120 hd_X9_four ⟨rfl, rfl⟩ rfl rfl ⟨rfl, rfl⟩ hX hK hw [0] (by decide) rfl rfl rfl rfl rfl hl.1 rfl rfl dX9_feed_22) hw hA [0] (by decide) rfl rfl (fun H locs hw => ?_)
    have hw : Wd dC dI A s.heap [wX9 h_me q_me k_me z2] H locs := hw
    refine lv_aload_n hx hb dX9_feed_25 rfl (lv_at hl 0 rfl) ?_
    refine lv_iload_n hx hb dX9_feed_26 rfl (lv_at hl 2 rfl) ?_
    obtain ⟨z3, ez3, h⟩ := z_bd h
    refine xj_v (xrV (As := [.int p1]) (rest := []) ⟨hx, hb, hml, hown, hts⟩ (m_X9_four l dC dI _ h_me q_me k_me z2 p1 z3 ez3) kw1488 kw1485 kw1487 kw52 kw120 hd_X9_four ⟨rfl, rfl⟩ rfl rfl ⟨rfl, rfl⟩ hX hK hw [0] (by decide) rfl rfl rfl rfl rfl hl.1 rfl rfl dX9_feed_27) hw hA [0] (by decide) rfl rfl (fun H locs hw => ?_)
    have hw : Wd dC dI A s.heap [wX9 h_me q_me k_me z3] H locs := hw
    refine lv_aload_n hx hb dX9_feed_30 rfl (lv_at hl 0 rfl) ?_
    refine lv_iload_n hx hb dX9_feed_31 rfl (lv_at hl 3 rfl) ?_
    obtain ⟨z4, ez4, h⟩ := z_bd h
    refine xj_v (xrV (As := [.int p2]) (rest := []) ⟨hx, hb, hml, hown, hts⟩ (m_X9_four l dC dI _ h_me q_me k_me z3 p2 z4 ez4) kw1488 kw1485 kw1487 kw52 kw120 hd_X9_four ⟨rfl, rfl⟩ rfl rfl ⟨rfl, rfl⟩ hX hK hw [0] (by decide) rfl rfl rfl rfl rfl hl.1 rfl rfl dX9_feed_32) hw hA [0] (by decide) rfl rfl (fun H locs hw => ?_)
    have hw : Wd dC dI A s.heap [wX9 h_me q_me k_me z4] H locs := hw
    refine lv_aload_n hx hb dX9_feed_35 rfl (lv_at hl 0 rfl) ?_
    refine lv_iload hx hb dX9_feed_36 (lv_at hl 4 rfl) ?_
    obtain ⟨z5, ez5, h⟩ := z_bd h
    refine xj_v (xrV (As := [.int p3]) (rest := []) ⟨hx, hb, hml, hown, hts⟩ (m_X9_four l dC dI _ h_me q_me k_me z4 p3 z5 ez5) kw1488 kw1485 kw1487 kw52 kw120 hd_X9_four ⟨rfl, rfl⟩ rfl rfl ⟨rfl, rfl⟩ hX hK hw [0] (by decide) rfl rfl rfl rfl rfl hl.1 rfl rfl dX9_feed_38) hw hA [0] (by decide) rfl rfl (fun H locs hw => ?_)
    have hw : Wd dC dI A s.heap [wX9 h_me q_me k_me z5] H locs := hw
    refine lv_aload_n hx hb dX9_feed_41 rfl (lv_at hl 0 rfl) ?_
    refine lv_iload hx hb dX9_feed_42 (lv_at hl 5 rfl) ?_
    obtain ⟨z6, ez6, h⟩ := z_bd h
    refine xj_v (xrV (As := [.int p4]) (rest := []) ⟨hx, hb, hml, hown, hts⟩ (m_X9_four l dC dI _ h_me q_me k_me z5 p4 z6 ez6) kw1488 kw1485 kw1487 kw52 kw120 hd_X9_four ⟨rfl, rfl⟩ rfl rfl ⟨rfl, rfl⟩ hX hK hw [0] (by decide) rfl rfl rfl rfl rfl hl.1 rfl rfl dX9_feed_44) hw hA [0] (by decide) rfl rfl (fun H locs hw => ?_)
    have hw : Wd dC dI A s.heap [wX9 h_me q_me k_me z6] H locs := hw
    refine lv_aload_n hx hb dX9_feed_47 rfl (lv_at hl 0 rfl) ?_
    refine fgX9_13 hx hb hts hown hK hw 0 rfl kw1189 dX9_feed_48 ?_
    have hy := Option.some.inj h
    rw [← hQz, ← hy]
    exact xr_i (v := gI z6 13) hx hb hr rfl hlk hK hw dX9_feed_51
  · have h := z_f h c
    refine lv_iconst (v := (-1)) hx hb dX9_feed_18 (by decide) ?_
    have hy := Option.some.inj h
    rw [← hQz, ← hy]
    exact xr_i (v := (-1 : Int32)) hx hb hr rfl hlk hK hw dX9_feed_19

def lb_X9_few_157   (rec_157_2 : Int32 × Int64 × Int32 × Ob → Option (Int64 × Ob)) (v1 : Int32) (v4 : Int64) (v6 : Int32) (o_me : Ob) : Option (Int64 × Ob) :=
  if v1 ≤ v6 then
  (some (v4, o_me))
  else
  (zgd (zin v6 21) <|
  zlt (v4 + (gM o_me 53 v6.toNatClampNeg)) fun x6 =>
  zlt (v6 + (1 : Int32)) fun x7 =>
  rec_157_2 (v1, x6, x7, o_me))
def lp_X9_few_157   : Nat → (Int32 × Int64 × Int32 × Ob) → Option (Int64 × Ob) := zit (fun rec a => lb_X9_few_157   rec a.1 a.2.1 a.2.2.1 a.2.2.2)
def lb_X9_few_85  (rec_74_1 : Int32 × Int32 × Int32 × Int32 × Ob → Option (Int64 × Ob)) (rec_85_3 : Int32 × Int32 × Int32 × Int32 × Int32 × Ob → Option (Int64 × Ob)) (v1 : Int32) (v2 : Int32) (v3 : Int32) (v4 : Int32) (v5 : Int32) (o_me : Ob) : Option (Int64 × Ob) :=
  if v5 < (0 : Int32) then
  (zlt (v4 + (1 : Int32)) fun x9 =>
  rec_74_1 (v1, v2, v3, x9, o_me))
  else
  (zgd (zin v5 21) <|
  zlt (gM o_me 53 v5.toNatClampNeg) fun x11 =>
  zgd (zin v5 21) <|
  zlt (tM o_me 53 v5.toNatClampNeg ((x11 * (((10 : Int32) - v3).toInt64)) / (10 : Int64))) fun o13 =>
  zlt (v5 + (1 : Int32)) fun x14 =>
  zgd (zin x14 21) <|
  zgd (zin x14 21) <|
  zlt (tM o13 53 x14.toNatClampNeg ((gM o13 53 x14.toNatClampNeg) + ((x11 * v3.toInt64) / (10 : Int64)))) fun o17 =>
  zlt (v5 + (-1 : Int32)) fun x18 =>
  rec_85_3 (v1, v2, v3, v4, x18, o17))
def lp_X9_few_85  (rec_74_1 : Int32 × Int32 × Int32 × Int32 × Ob → Option (Int64 × Ob)) : Nat → (Int32 × Int32 × Int32 × Int32 × Int32 × Ob) → Option (Int64 × Ob) := zit (fun rec a => lb_X9_few_85  rec_74_1 rec a.1 a.2.1 a.2.2.1 a.2.2.2.1 a.2.2.2.2.1 a.2.2.2.2.2)
def lb_X9_few_74   (rec_74_1 : Int32 × Int32 × Int32 × Int32 × Ob → Option (Int64 × Ob)) (v1 : Int32) (v2 : Int32) (v3 : Int32) (v4 : Int32) (o_me : Ob) : Option (Int64 × Ob) :=
  if v2 ≤ v4 then
  (lp_X9_few_157   zfu (v1, (0 : Int64), (0 : Int32), o_me))
  else
  (zlt (v1 - (1 : Int32)) fun x8 =>
  lp_X9_few_85  rec_74_1 zfu (v1, v2, v3, v4, x8, o_me))
def lp_X9_few_74   : Nat → (Int32 × Int32 × Int32 × Int32 × Ob) → Option (Int64 × Ob) := zit (fun rec a => lb_X9_few_74   rec a.1 a.2.1 a.2.2.1 a.2.2.2.1 a.2.2.2.2)
def bk_X9_few_57  (rec_35_0 : Int32 × Int32 × Int32 × Ob → Option (Int64 × Ob)) (v1 : Int32) (v2 : Int32) (v3 : Int32) (s0 : Int64) (s1 : Int32) (o_me : Ob) : Option (Int64 × Ob) :=
  zgd (zin s1 21) <|
  zlt (tM o_me 53 s1.toNatClampNeg s0) fun o20 =>
  zlt (v3 + (1 : Int32)) fun x21 =>
  rec_35_0 (v1, v2, x21, o20)
def lb_X9_few_35   (rec_35_0 : Int32 × Int32 × Int32 × Ob → Option (Int64 × Ob)) (v1 : Int32) (v2 : Int32) (v3 : Int32) (o_me : Ob) : Option (Int64 × Ob) :=
  if (21 : Int32) ≤ v3 then
  (zlt (gA o_me 3 (5 : Int32).toNatClampNeg) fun x4 =>
  lp_X9_few_74   zfu (v1, v2, x4, (0 : Int32), o_me))
  else
  (if v3 = (0 : Int32) then
  (bk_X9_few_57  rec_35_0 v1 v2 v3 (1000000000000 : Int64) v3 o_me)
  else
  (bk_X9_few_57  rec_35_0 v1 v2 v3 (0 : Int64) v3 o_me))
def lp_X9_few_35   : Nat → (Int32 × Int32 × Int32 × Ob) → Option (Int64 × Ob) := zit (fun rec a => lb_X9_few_35   rec a.1 a.2.1 a.2.2.1 a.2.2.2)
def f_X9_few (o_me : Ob) (p0 : Int32) (p1 : Int32) : Option (Int64 × Ob) :=
  zlt (sI o_me 0 (0 : Int32)) fun o1 =>
  (f_X9_in p0.toInt64 (1 : Int64) (20 : Int64)).bind fun z2 =>
  if z2 = (0 : Int32) then
  (some ((-1 : Int64), o1))
  else
  ((f_X9_in p1.toInt64 (0 : Int64) (99 : Int64)).bind fun z3 =>
  if z3 = (0 : Int32) then
  (some ((-1 : Int64), o1))
  else
  (lp_X9_few_35   zfu (p0, p1, (0 : Int32), o1)))
set_option maxHeartbeats 4000000 in
set_option maxRecDepth 100000 in
theorem m_X9_few (l : Launch) (dC : Nat → ClassId) (dI : Nat → Nat → Nat) (sz : Nat) (h_me : Nat) (q_me : Nat → Nat) (k_me : Nat → ClassId) (o_me : Ob) (p0 : Int32) (p1 : Int32) (y : Int64 × Ob) (h : f_X9_few o_me p0 p1 = some y) : CL l yX9_few cX9_few 8 (some .long) ({ frames := 1, cells := 0, slots := 0, locals := 25 } : Room) dC dI sz [.ref h_me, .int p0, .int p1] [wX9 h_me q_me k_me o_me] [tX9 k_me] y.1 [wX9 h_me q_me k_me y.2] := by
  refine CC_of (by decide) (Nat.le_of_ble_eq_true rfl) ?_
  intro p e s m below meth c A ls hx hb hml hr hlk hnm hown hts hX hK hP hD hA hl
  have hl : lv_has ls 8 [(0, .ref h_me), (1, .int p0), (2, .int p1)] := hl
  have hown : s.vm.findClass RX9 = some m.cls := hown
  have hw : Wd dC dI A s.heap [wX9 h_me q_me k_me o_me] s.heap [] := ⟨hP, hD, va_S.rf⟩
  generalize hQz : (MQ below (QL dC dI (fun r (_ : Unit) => r = y.1) (fun _ => Jn [wX9 h_me q_me k_me y.2]) (fun _ => Jt [tX9 k_me]) A) ([.ref h_me, .int p0, .int p1] : List Value).toArray s 0 0 A) = Qz
  clear hP hD hnm
  have lp_157_2 : ∀ (N : Nat), ∀ (v1 : Int32) (v4 : Int64) (v6 : Int32) (o_me : Ob) (H : Heap) (locs : List Loc) (ls : Array Slot), lp_X9_few_157   N (v1, v4, v6, o_me) = some y → Wd dC dI A s.heap [wX9 h_me q_me k_me o_me] H locs → lv_has ls 8 [(0, .ref h_me), (1, .int v1), (4, .long v4), (6, .int v6)] → W p l e ({ frames := 1, cells := 0, slots := 0, locals := 25 } : Room) s m ([.ref h_me, .int p0, .int p1] : List Value).toArray below meth c H locs 0 0 Qz (F0 m 157 ls []) := by
    intro N
    induction N with
    | zero =>
      intro v1 v4 v6 o_me H locs ls h hw hl
      exact absurd (show (none : Option (Int64 × Ob)) = some y from h) (by simp)
    | succ N ih =>
      intro v1 v4 v6 o_me H locs ls h hw hl
      have h : lb_X9_few_157   (lp_X9_few_157   N) v1 v4 v6 o_me = some y := h
      unfold lb_X9_few_157 at h
      refine lv_iload hx hb dX9_few_157 (lv_at hl 3 rfl) ?_
      refine lv_iload_n hx hb dX9_few_159 rfl (lv_at hl 1 rfl) ?_
      refine lv_icmp_ge (tgt := 181) hx hb dX9_few_160 (by decide) (fun c => ?_) (fun c => ?_)
      · have h := z_t h c
        refine lv_lload hx hb dX9_few_181 (lv_at hl 2 rfl) ?_
        have hy := Option.some.inj h
        rw [← hQz, ← hy]
        exact xr_l (v := v4) hx hb hr hlk hK hw dX9_few_183
      · have h := z_f h c
        refine lv_lload hx hb dX9_few_163 (lv_at hl 2 rfl) ?_
        refine lv_aload_n hx hb dX9_few_165 rfl (lv_at hl 0 rfl) ?_
        refine fgX9_53 hx hb hts hown hK hw 0 rfl kw1229 dX9_few_166 ?_
        refine lv_iload hx hb dX9_few_169 (lv_at hl 3 rfl) ?_
        obtain ⟨g5, h⟩ := z_gd h
        refine faX9_53 hx hb hK hw 0 rfl rfl g5 dX9_few_171 ?_
        refine lv_ladd hx hb dX9_few_172 ?_
        obtain ⟨x6, ex6, h⟩ := z_lt h
        refine lv_fl (v := x6) ex6.symm ?_
        refine lv_lstore (lv' := [(4, .long x6), (0, .ref h_me), (1, .int v1), (6, .int v6)]) hx hb dX9_few_173 hl (by decide) rfl (fun ls hl => ?_)
        obtain ⟨x7, ex7, h⟩ := z_lt h
        refine lv_iinc (v := x7) (lv' := [(6, .int x7), (4, .long x6), (0, .ref h_me), (1, .int v1)]) hx hb dX9_few_175 hl (k := 3) rfl ((congrArg (v6 + ·) (show Int32.ofInt 1 = (1 : Int32) from by decide)).trans ex7.symm) (by decide) rfl (fun ls hl => ?_)
        refine lv_goto (tgt := 157) hx hb dX9_few_178 (by decide) ?_
        exact ih v1 x6 x7 o_me _ _ _ h hw (lv_sub hl [2, 3, 1, 0] rfl)
  have lp_85_3 : ∀ (rec_74_1 : Int32 × Int32 × Int32 × Int32 × Ob → Option (Int64 × Ob)) (hrec_74_1 : ∀ (v1 : Int32) (v2 : Int32) (v3 : Int32) (v4 : Int32) (o_me : Ob) (H : Heap) (locs : List Loc) (ls : Array Slot), rec_74_1 (v1, v2, v3, v4, o_me) = some y → Wd dC dI A s.heap [wX9 h_me q_me k_me o_me] H locs → lv_has ls 8 [(0, .ref h_me), (1, .int v1), (2, .int v2), (3, .int v3), (4, .int v4)] → W p l e ({ frames := 1, cells := 0, slots := 0, locals := 25 } : Room) s m ([.ref h_me, .int p0, .int p1] : List Value).toArray below meth c H locs 0 0 Qz (F0 m 74 ls [])) (N : Nat), ∀ (v1 : Int32) (v2 : Int32) (v3 : Int32) (v4 : Int32) (v5 : Int32) (o_me : Ob) (H : Heap) (locs : List Loc) (ls : Array Slot), lp_X9_few_85  rec_74_1 N (v1, v2, v3, v4, v5, o_me) = some y → Wd dC dI A s.heap [wX9 h_me q_me k_me o_me] H locs → lv_has ls 8 [(0, .ref h_me), (1, .int v1), (2, .int v2), (3, .int v3), (4, .int v4), (5, .int v5)] → W p l e ({ frames := 1, cells := 0, slots := 0, locals := 25 } : Room) s m ([.ref h_me, .int p0, .int p1] : List Value).toArray below meth c H locs 0 0 Qz (F0 m 85 ls []) := by
    intro rec_74_1 hrec_74_1
    intro N
    induction N with
    | zero =>
      intro v1 v2 v3 v4 v5 o_me H locs ls h hw hl
      exact absurd (show (none : Option (Int64 × Ob)) = some y from h) (by simp)
    | succ N ih =>
      intro v1 v2 v3 v4 v5 o_me H locs ls h hw hl
      have h : lb_X9_few_85  rec_74_1 (lp_X9_few_85  rec_74_1 N) v1 v2 v3 v4 v5 o_me = some y := h
      unfold lb_X9_few_85 at h
      refine lv_iload hx hb dX9_few_85 (lv_at hl 5 rfl) ?_
      refine lv_if_lt (tgt := 145) hx hb dX9_few_87 (by decide) (fun c => ?_) (fun c => ?_)
      · have h := z_t h c
        obtain ⟨x9, ex9, h⟩ := z_lt h
        refine lv_iinc (v := x9) (lv' := [(4, .int x9), (0, .ref h_me), (1, .int v1), (2, .int v2), (3, .int v3), (5, .int v5)]) hx hb dX9_few_145 hl (k := 4) rfl ((congrArg (v4 + ·) (show Int32.ofInt 1 = (1 : Int32) from by decide)).trans ex9.symm) (by decide) rfl (fun ls hl => ?_)
        refine lv_goto (tgt := 74) hx hb dX9_few_148 (by decide) ?_
        exact hrec_74_1 v1 v2 v3 x9 o_me _ _ _ h hw (lv_sub hl [1, 2, 3, 4, 0] rfl)
      · have h := z_f h c
        refine lv_aload_n hx hb dX9_few_90 rfl (lv_at hl 0 rfl) ?_
        refine fgX9_53 hx hb hts hown hK hw 0 rfl kw1229 dX9_few_91 ?_
        refine lv_iload hx hb dX9_few_94 (lv_at hl 5 rfl) ?_
        obtain ⟨g10, h⟩ := z_gd h
        refine faX9_53 hx hb hK hw 0 rfl rfl g10 dX9_few_96 ?_
        obtain ⟨x11, ex11, h⟩ := z_lt h
        refine lv_fl (v := x11) ex11.symm ?_
        refine lv_lstore (lv' := [(6, .long x11), (0, .ref h_me), (1, .int v1), (2, .int v2), (3, .int v3), (4, .int v4), (5, .int v5)]) hx hb dX9_few_97 hl (by decide) rfl (fun ls hl => ?_)
        refine lv_aload_n hx hb dX9_few_99 rfl (lv_at hl 1 rfl) ?_
        refine fgX9_53 hx hb hts hown hK hw 0 rfl kw1229 dX9_few_100 ?_
        refine lv_iload hx hb dX9_few_103 (lv_at hl 6 rfl) ?_
        refine lv_lload hx hb dX9_few_105 (lv_at hl 0 rfl) ?_
        refine lv_bipush (v := 10) hx hb dX9_few_107 (by decide) ?_
        refine lv_iload_n hx hb dX9_few_109 rfl (lv_at hl 4 rfl) ?_
        refine lv_isub hx hb dX9_few_110 ?_
        refine lv_i2l hx hb dX9_few_111 rfl ?_
        refine lv_lmul hx hb dX9_few_112 ?_
        refine lv_ldc2 (v := 10) hx hb hown (hts _ kw1468) dX9_few_113 ?_
        refine lv_ldiv hx hb dX9_few_116 (by decide) ?_
        obtain ⟨g12, h⟩ := z_gd h
        refine fbX9_53 hx hb hK hw 0 rfl rfl g12 dX9_few_117 (fun H locs hw => ?_)
        obtain ⟨o13, eo13, h⟩ := z_lt h
        have hw : Wd dC dI A s.heap [wX9 h_me q_me k_me o13] H locs := by rw [eo13]; exact hw
        refine lv_aload_n hx hb dX9_few_118 rfl (lv_at hl 1 rfl) ?_
        refine fgX9_53 hx hb hts hown hK hw 0 rfl kw1229 dX9_few_119 ?_
        refine lv_iload hx hb dX9_few_122 (lv_at hl 6 rfl) ?_
        refine lv_iconst (v := 1) hx hb dX9_few_124 (by decide) ?_
        refine lv_iadd hx hb dX9_few_125 ?_
        obtain ⟨x14, ex14, h⟩ := z_lt h
        refine lv_fi (v := x14) ex14.symm ?_
        refine lv_dup2_11 hx hb dX9_few_126 rfl rfl ?_
        obtain ⟨g15, h⟩ := z_gd h
        refine faX9_53 hx hb hK hw 0 rfl rfl g15 dX9_few_127 ?_
        refine lv_lload hx hb dX9_few_128 (lv_at hl 0 rfl) ?_
        refine lv_iload_n hx hb dX9_few_130 rfl (lv_at hl 4 rfl) ?_
        refine lv_i2l hx hb dX9_few_131 rfl ?_
        refine lv_lmul hx hb dX9_few_132 ?_
        refine lv_ldc2 (v := 10) hx hb hown (hts _ kw1468) dX9_few_133 ?_
        refine lv_ldiv hx hb dX9_few_136 (by decide) ?_
        refine lv_ladd hx hb dX9_few_137 ?_
        obtain ⟨g16, h⟩ := z_gd h
        refine fbX9_53 hx hb hK hw 0 rfl rfl g16 dX9_few_138 (fun H locs hw => ?_)
        obtain ⟨o17, eo17, h⟩ := z_lt h
        have hw : Wd dC dI A s.heap [wX9 h_me q_me k_me o17] H locs := by rw [eo17]; exact hw
        obtain ⟨x18, ex18, h⟩ := z_lt h
        refine lv_iinc (v := x18) (lv' := [(5, .int x18), (6, .long x11), (0, .ref h_me), (1, .int v1), (2, .int v2), (3, .int v3), (4, .int v4)]) hx hb dX9_few_139 hl (k := 6) rfl ((congrArg (v5 + ·) (show Int32.ofInt (-1) = (-1 : Int32) from by decide)).trans ex18.symm) (by decide) rfl (fun ls hl => ?_)
        refine lv_goto (tgt := 85) hx hb dX9_few_142 (by decide) ?_
        exact ih v1 v2 v3 v4 x18 o17 _ _ _ h hw (lv_sub hl [2, 3, 4, 5, 6, 0] rfl)
  have lp_74_1 : ∀ (N : Nat), ∀ (v1 : Int32) (v2 : Int32) (v3 : Int32) (v4 : Int32) (o_me : Ob) (H : Heap) (locs : List Loc) (ls : Array Slot), lp_X9_few_74   N (v1, v2, v3, v4, o_me) = some y → Wd dC dI A s.heap [wX9 h_me q_me k_me o_me] H locs → lv_has ls 8 [(0, .ref h_me), (1, .int v1), (2, .int v2), (3, .int v3), (4, .int v4)] → W p l e ({ frames := 1, cells := 0, slots := 0, locals := 25 } : Room) s m ([.ref h_me, .int p0, .int p1] : List Value).toArray below meth c H locs 0 0 Qz (F0 m 74 ls []) := by
    intro N
    induction N with
    | zero =>
      intro v1 v2 v3 v4 o_me H locs ls h hw hl
      exact absurd (show (none : Option (Int64 × Ob)) = some y from h) (by simp)
    | succ N ih =>
      intro v1 v2 v3 v4 o_me H locs ls h hw hl
      have h : lb_X9_few_74   (lp_X9_few_74   N) v1 v2 v3 v4 o_me = some y := h
      unfold lb_X9_few_74 at h
      refine lv_iload hx hb dX9_few_74 (lv_at hl 4 rfl) ?_
      refine lv_iload_n hx hb dX9_few_76 rfl (lv_at hl 2 rfl) ?_
      refine lv_icmp_ge (tgt := 151) hx hb dX9_few_77 (by decide) (fun c => ?_) (fun c => ?_)
      · have h := z_t h c
        refine lv_lconst (v := 0) hx hb dX9_few_151 (by decide) ?_
        refine lv_lstore (lv' := [(4, .long (0 : Int64)), (0, .ref h_me), (1, .int v1), (2, .int v2), (3, .int v3)]) hx hb dX9_few_152 hl (by decide) rfl (fun ls hl => ?_)
        refine lv_iconst (v := 0) hx hb dX9_few_154 (by decide) ?_
        refine lv_istore (lv' := [(6, .int (0 : Int32)), (4, .long (0 : Int64)), (0, .ref h_me), (1, .int v1), (2, .int v2), (3, .int v3)]) hx hb dX9_few_155 hl (by decide) rfl (fun ls hl => ?_)
        exact lp_157_2  zfu v1 (0 : Int64) (0 : Int32) o_me _ _ _ h hw (lv_sub hl [2, 3, 1, 0] rfl)
      · have h := z_f h c
        refine lv_iload_n hx hb dX9_few_80 rfl (lv_at hl 1 rfl) ?_
        refine lv_iconst (v := 1) hx hb dX9_few_81 (by decide) ?_
        refine lv_isub hx hb dX9_few_82 ?_
        obtain ⟨x8, ex8, h⟩ := z_lt h
        refine lv_fi (v := x8) ex8.symm ?_
        refine lv_istore (lv' := [(5, .int x8), (0, .ref h_me), (1, .int v1), (2, .int v2), (3, .int v3), (4, .int v4)]) hx hb dX9_few_83 hl (by decide) rfl (fun ls hl => ?_)
        exact lp_85_3 (lp_X9_few_74   N) ih zfu v1 v2 v3 v4 x8 o_me _ _ _ h hw (lv_sub hl [1, 2, 3, 4, 5, 0] rfl)
  have bk_57_4 : ∀ (rec_35_0 : Int32 × Int32 × Int32 × Ob → Option (Int64 × Ob)) (hrec_35_0 : ∀ (v1 : Int32) (v2 : Int32) (v3 : Int32) (o_me : Ob) (H : Heap) (locs : List Loc) (ls : Array Slot), rec_35_0 (v1, v2, v3, o_me) = some y → Wd dC dI A s.heap [wX9 h_me q_me k_me o_me] H locs → lv_has ls 8 [(0, .ref h_me), (1, .int v1), (2, .int v2), (3, .int v3)] → W p l e ({ frames := 1, cells := 0, slots := 0, locals := 25 } : Room) s m ([.ref h_me, .int p0, .int p1] : List Value).toArray below meth c H locs 0 0 Qz (F0 m 35 ls [])), ∀ (v1 : Int32) (v2 : Int32) (v3 : Int32) (s0 : Int64) (s1 : Int32) (o_me : Ob) (H : Heap) (locs : List Loc) (ls : Array Slot), bk_X9_few_57  rec_35_0 v1 v2 v3 s0 s1 o_me = some y → Wd dC dI A s.heap [wX9 h_me q_me k_me o_me] H locs → lv_has ls 8 [(0, .ref h_me), (1, .int v1), (2, .int v2), (3, .int v3)] → W p l e ({ frames := 1, cells := 0, slots := 0, locals := 25 } : Room) s m ([.ref h_me, .int p0, .int p1] : List Value).toArray below meth c H locs 0 0 Qz (F0 m 57 ls [.long s0, .int s1, .ref (q_me 53)]) := by
    intro rec_35_0 hrec_35_0
    intro v1 v2 v3 s0 s1 o_me H locs ls h hw hl
    unfold bk_X9_few_57 at h
    obtain ⟨g19, h⟩ := z_gd h
    refine fbX9_53 hx hb hK hw 0 rfl rfl g19 dX9_few_57 (fun H locs hw => ?_)
    obtain ⟨o20, eo20, h⟩ := z_lt h
    have hw : Wd dC dI A s.heap [wX9 h_me q_me k_me o20] H locs := by rw [eo20]; exact hw
    obtain ⟨x21, ex21, h⟩ := z_lt h
    refine lv_iinc (v := x21) (lv' := [(3, .int x21), (0, .ref h_me), (1, .int v1), (2, .int v2)]) hx hb dX9_few_58 hl (k := 3) rfl ((congrArg (v3 + ·) (show Int32.ofInt 1 = (1 : Int32) from by decide)).trans ex21.symm) (by decide) rfl (fun ls hl => ?_)
    refine lv_goto (tgt := 35) hx hb dX9_few_61 (by decide) ?_
    exact hrec_35_0 v1 v2 x21 o20 _ _ _ h hw (lv_sub hl [1, 2, 3, 0] rfl)
  have lp_35_0 : ∀ (N : Nat), ∀ (v1 : Int32) (v2 : Int32) (v3 : Int32) (o_me : Ob) (H : Heap) (locs : List Loc) (ls : Array Slot), lp_X9_few_35   N (v1, v2, v3, o_me) = some y → Wd dC dI A s.heap [wX9 h_me q_me k_me o_me] H locs → lv_has ls 8 [(0, .ref h_me), (1, .int v1), (2, .int v2), (3, .int v3)] → W p l e ({ frames := 1, cells := 0, slots := 0, locals := 25 } : Room) s m ([.ref h_me, .int p0, .int p1] : List Value).toArray below meth c H locs 0 0 Qz (F0 m 35 ls []) := by
    intro N
    induction N with
    | zero =>
      intro v1 v2 v3 o_me H locs ls h hw hl
      exact absurd (show (none : Option (Int64 × Ob)) = some y from h) (by simp)
    | succ N ih =>
      intro v1 v2 v3 o_me H locs ls h hw hl
      have h : lb_X9_few_35   (lp_X9_few_35   N) v1 v2 v3 o_me = some y := h
      unfold lb_X9_few_35 at h
      refine lv_iload_n hx hb dX9_few_35 rfl (lv_at hl 3 rfl) ?_
      refine lv_bipush (v := 21) hx hb dX9_few_36 (by decide) ?_
      refine lv_icmp_ge (tgt := 64) hx hb dX9_few_38 (by decide) (fun c => ?_) (fun c => ?_)
      · have h := z_t h c
        refine lv_aload_n hx hb dX9_few_64 rfl (lv_at hl 0 rfl) ?_
        refine fgX9_3 hx hb hts hown hK hw 0 rfl kw1179 dX9_few_65 ?_
        refine lv_iconst (v := 5) hx hb dX9_few_68 (by decide) ?_
        refine faX9_3 hx hb hK hw 0 rfl rfl (by decide) dX9_few_69 ?_
        obtain ⟨x4, ex4, h⟩ := z_lt h
        refine lv_fi (v := x4) ex4.symm ?_
        refine lv_istore_n (lv' := [(3, .int x4), (0, .ref h_me), (1, .int v1), (2, .int v2)]) hx hb dX9_few_70 rfl hl (by decide) rfl (fun ls hl => ?_)
        refine lv_iconst (v := 0) hx hb dX9_few_71 (by decide) ?_
        refine lv_istore (lv' := [(4, .int (0 : Int32)), (3, .int x4), (0, .ref h_me), (1, .int v1), (2, .int v2)]) hx hb dX9_few_72 hl (by decide) rfl (fun ls hl => ?_)
        exact lp_74_1  zfu v1 v2 x4 (0 : Int32) o_me _ _ _ h hw (lv_sub hl [2, 3, 4, 1, 0] rfl)
      · have h := z_f h c
        refine lv_aload_n hx hb dX9_few_41 rfl (lv_at hl 0 rfl) ?_
        refine fgX9_53 hx hb hts hown hK hw 0 rfl kw1229 dX9_few_42 ?_
        refine lv_iload_n hx hb dX9_few_45 rfl (lv_at hl 3 rfl) ?_
        refine lv_iload_n hx hb dX9_few_46 rfl (lv_at hl 3 rfl) ?_
        refine lv_if_ne (tgt := 56) hx hb dX9_few_47 (by decide) (fun c => ?_) (fun c => ?_)
        · have h := z_f h c
          refine lv_lconst (v := 0) hx hb dX9_few_56 (by decide) ?_
          exact bk_57_4 (lp_X9_few_35   N) ih v1 v2 v3 (0 : Int64) v3 o_me _ _ _ h hw (lv_sub hl [0, 1, 2, 3] rfl)
        · have h := z_t h c
          refine lv_ldc2 (v := 1000000000000) hx hb hown (hts _ kw1791) dX9_few_50 ?_
          refine lv_goto (tgt := 57) hx hb dX9_few_53 (by decide) ?_
          exact bk_57_4 (lp_X9_few_35   N) ih v1 v2 v3 (1000000000000 : Int64) v3 o_me _ _ _ h hw (lv_sub hl [0, 1, 2, 3] rfl)
  unfold f_X9_few at h
  refine lv_aload_n hx hb dX9_few_0 rfl (lv_at hl 0 rfl) ?_
  refine lv_iconst (v := 0) hx hb dX9_few_1 (by decide) ?_
  refine fpX9_0 hx hb hts hown hK hw 0 rfl kw1176 dX9_few_2 (fun H locs hw => ?_)
  obtain ⟨o1, eo1, h⟩ := z_lt h
  have hw : Wd dC dI A s.heap [wX9 h_me q_me k_me o1] H locs := by rw [eo1]; exact hw
  refine lv_iload_n hx hb dX9_few_5 rfl (lv_at hl 1 rfl) ?_
  refine lv_i2l hx hb dX9_few_6 rfl ?_
  refine lv_lconst (v := 1) hx hb dX9_few_7 (by decide) ?_
  refine lv_ldc2 (v := 20) hx hb hown (hts _ kw1601) dX9_few_8 ?_
  obtain ⟨z2, ez2, h⟩ := z_bd h
  refine xj_i (xrS (As := [.long p0.toInt64, .long (1 : Int64), .long (20 : Int64)]) (rest := []) ⟨hx, hb, hml, hown, hts⟩ (m_X9_in l dC dI _  p0.toInt64 (1 : Int64) (20 : Int64) z2 ez2) kw1385 kw1383 kw1384 kw120 hd_X9_in ⟨rfl, rfl⟩ rfl rfl ⟨rfl, rfl⟩ hX hK hw [] (by decide) rfl rfl hl.1 rfl rfl dX9_few_11) hw hA [] (by decide) rfl rfl (fun H locs hw => ?_)
  refine lv_if_eq (tgt := 29) hx hb dX9_few_14 (by decide) (fun c => ?_) (fun c => ?_)
  · have h := z_t h c
    refine lv_ldc2 (v := (-1)) hx hb hown (hts _ kw1424) dX9_few_29 ?_
    have hy := Option.some.inj h
    rw [← hQz, ← hy]
    exact xr_l (v := (-1 : Int64)) hx hb hr hlk hK hw dX9_few_32
  · have h := z_f h c
    refine lv_iload_n hx hb dX9_few_17 rfl (lv_at hl 2 rfl) ?_
    refine lv_i2l hx hb dX9_few_18 rfl ?_
    refine lv_lconst (v := 0) hx hb dX9_few_19 (by decide) ?_
    refine lv_ldc2 (v := 99) hx hb hown (hts _ kw1790) dX9_few_20 ?_
    obtain ⟨z3, ez3, h⟩ := z_bd h
    refine xj_i (xrS (As := [.long p1.toInt64, .long (0 : Int64), .long (99 : Int64)]) (rest := []) ⟨hx, hb, hml, hown, hts⟩ (m_X9_in l dC dI _  p1.toInt64 (0 : Int64) (99 : Int64) z3 ez3) kw1385 kw1383 kw1384 kw120 hd_X9_in ⟨rfl, rfl⟩ rfl rfl ⟨rfl, rfl⟩ hX hK hw [] (by decide) rfl rfl hl.1 rfl rfl dX9_few_23) hw hA [] (by decide) rfl rfl (fun H locs hw => ?_)
    refine lv_if_ne (tgt := 33) hx hb dX9_few_26 (by decide) (fun c => ?_) (fun c => ?_)
    · have h := z_f h c
      refine lv_iconst (v := 0) hx hb dX9_few_33 (by decide) ?_
      refine lv_istore_n (lv' := [(3, .int (0 : Int32)), (0, .ref h_me), (1, .int p0), (2, .int p1)]) hx hb dX9_few_34 rfl hl (by decide) rfl (fun ls hl => ?_)
      exact lp_35_0  zfu p0 p1 (0 : Int32) o1 _ _ _ h hw (lv_sub hl [1, 2, 3, 0] rfl)
    · have h := z_t h c
      refine lv_ldc2 (v := (-1)) hx hb hown (hts _ kw1424) dX9_few_29 ?_
      have hy := Option.some.inj h
      rw [← hQz, ← hy]
      exact xr_l (v := (-1 : Int64)) hx hb hr hlk hK hw dX9_few_32

def f_X9_force (o_me : Ob) (p0 : Int32) : Option (Int32 × Ob) :=
  zlt (sI o_me 0 (0 : Int32)) fun o1 =>
  (f_X9_isLaw o1 p0).bind fun z2 =>
  if z2 = (0 : Int32) then
  ((f_X9_tell o1 (-2 : Int32)).bind fun z3 =>
  some (z3.1, z3.2))
  else
  ((f_X9_change o1 (3 : Int32) p0).bind fun z4 =>
  some (z4.1, z4.2))
set_option maxHeartbeats 4000000 in
set_option maxRecDepth 100000 in
theorem m_X9_force (l : Launch) (dC : Nat → ClassId) (dI : Nat → Nat → Nat) (sz : Nat) (h_me : Nat) (q_me : Nat → Nat) (k_me : Nat → ClassId) (o_me : Ob) (p0 : Int32) (y : Int32 × Ob) (h : f_X9_force o_me p0 = some y) : CI l yX9_force cX9_force 2 (some .int) ({ frames := 2, cells := 0, slots := 0, locals := 46 } : Room) dC dI sz [.ref h_me, .int p0] [wX9 h_me q_me k_me o_me] [tX9 k_me] y.1 [wX9 h_me q_me k_me y.2] := by
  refine CC_of (by decide) (Nat.le_of_ble_eq_true rfl) ?_
  intro p e s m below meth c A ls hx hb hml hr hlk hnm hown hts hX hK hP hD hA hl
  have hl : lv_has ls 2 [(0, .ref h_me), (1, .int p0)] := hl
  have hown : s.vm.findClass RX9 = some m.cls := hown
  have hw : Wd dC dI A s.heap [wX9 h_me q_me k_me o_me] s.heap [] := ⟨hP, hD, va_S.rf⟩
  generalize hQz : (MQ below (QI dC dI (fun r (_ : Unit) => r = y.1) (fun _ => Jn [wX9 h_me q_me k_me y.2]) (fun _ => Jt [tX9 k_me]) A) ([.ref h_me, .int p0] : List Value).toArray s 0 0 A) = Qz
  clear hP hD hnm
  unfold f_X9_force at h
  refine lv_aload_n hx hb dX9_force_0 rfl (lv_at hl 0 rfl) ?_
  refine lv_iconst (v := 0) hx hb dX9_force_1 (by decide) ?_
  refine fpX9_0 hx hb hts hown hK hw 0 rfl kw1176 dX9_force_2 (fun H locs hw => ?_)
  obtain ⟨o1, eo1, h⟩ := z_lt h
  have hw : Wd dC dI A s.heap [wX9 h_me q_me k_me o1] H locs := by rw [eo1]; exact hw
  refine lv_aload_n hx hb dX9_force_5 rfl (lv_at hl 0 rfl) ?_
  refine lv_iload_n hx hb dX9_force_6 rfl (lv_at hl 1 rfl) ?_
  obtain ⟨z2, ez2, h⟩ := z_bd h
  refine xj_i (xrV (As := [.int p0]) (rest := []) ⟨hx, hb, hml, hown, hts⟩ (m_X9_isLaw l dC dI _ h_me q_me k_me o1 p0 z2 ez2) kw1623 kw1620 kw1622 kw76 kw120 hd_X9_isLaw ⟨rfl, rfl⟩ rfl rfl ⟨rfl, rfl⟩ hX hK hw [0] (by decide) rfl rfl rfl rfl rfl hl.1 rfl rfl dX9_force_7) hw hA [0] (by decide) rfl rfl (fun H locs hw => ?_)
  have hw : Wd dC dI A s.heap [wX9 h_me q_me k_me o1] H locs := hw
  refine lv_if_eq (tgt := 22) hx hb dX9_force_10 (by decide) (fun c => ?_) (fun c => ?_)
  · have h := z_t h c
    refine lv_aload_n hx hb dX9_force_22 rfl (lv_at hl 0 rfl) ?_
    refine lv_bipush (v := (-2)) hx hb dX9_force_23 (by decide) ?_
    obtain ⟨z3, ez3, h⟩ := z_bd h
    refine xj_i (xrV (As := [.int (-2 : Int32)]) (rest := []) ⟨hx, hb, hml, hown, hts⟩ (m_X9_tell l dC dI _ h_me q_me k_me o1 (-2 : Int32) z3 ez3) kw1374 kw1371 kw1373 kw39 kw120 hd_X9_tell ⟨rfl, rfl⟩ rfl rfl ⟨rfl, rfl⟩ hX hK hw [0] (by decide) rfl rfl rfl rfl rfl hl.1 rfl rfl dX9_force_25) hw hA [0] (by decide) rfl rfl (fun H locs hw => ?_)
    have hw : Wd dC dI A s.heap [wX9 h_me q_me k_me z3.2] H locs := hw
    have hy := Option.some.inj h
    rw [← hQz, ← hy]
    exact xr_i (v := z3.1) hx hb hr rfl hlk hK hw dX9_force_28
  · have h := z_f h c
    refine lv_aload_n hx hb dX9_force_13 rfl (lv_at hl 0 rfl) ?_
    refine lv_iconst (v := 3) hx hb dX9_force_14 (by decide) ?_
    refine lv_iload_n hx hb dX9_force_15 rfl (lv_at hl 1 rfl) ?_
    obtain ⟨z4, ez4, h⟩ := z_bd h
    refine xj_i (xrV (As := [.int (3 : Int32), .int p0]) (rest := []) ⟨hx, hb, hml, hown, hts⟩ (m_X9_change l dC dI _ h_me q_me k_me o1 (3 : Int32) p0 z4 ez4) kw1449 kw1446 kw1448 kw49 kw120 hd_X9_change ⟨rfl, rfl⟩ rfl rfl ⟨rfl, rfl⟩ hX hK hw [0] (by decide) rfl rfl rfl rfl rfl hl.1 rfl rfl dX9_force_16) hw hA [0] (by decide) rfl rfl (fun H locs hw => ?_)
    have hw : Wd dC dI A s.heap [wX9 h_me q_me k_me z4.2] H locs := hw
    refine lv_goto (tgt := 28) hx hb dX9_force_19 (by decide) ?_
    have hy := Option.some.inj h
    rw [← hQz, ← hy]
    exact xr_i (v := z4.1) hx hb hr rfl hlk hK hw dX9_force_28

def f_X9_forget (o_me : Ob) : Option (Int32 × Ob) :=
  zlt (sI o_me 0 (0 : Int32)) fun o1 =>
  zlt (gA o1 3 (1 : Int32).toNatClampNeg) fun x2 =>
  zlt (tA o1 3 (1 : Int32).toNatClampNeg (0 : Int32)) fun o3 =>
  some (x2, o3)
set_option maxHeartbeats 4000000 in
set_option maxRecDepth 100000 in
theorem m_X9_forget (l : Launch) (dC : Nat → ClassId) (dI : Nat → Nat → Nat) (sz : Nat) (h_me : Nat) (q_me : Nat → Nat) (k_me : Nat → ClassId) (o_me : Ob) (y : Int32 × Ob) (h : f_X9_forget o_me = some y) : CI l yX9_forget cX9_forget 2 (some .int) ({ frames := 0, cells := 0, slots := 0, locals := 0 } : Room) dC dI sz [.ref h_me] [wX9 h_me q_me k_me o_me] [tX9 k_me] y.1 [wX9 h_me q_me k_me y.2] := by
  refine CC_of (by decide) (Nat.le_of_ble_eq_true rfl) ?_
  intro p e s m below meth c A ls hx hb hml hr hlk hnm hown hts hX hK hP hD hA hl
  have hl : lv_has ls 2 [(0, .ref h_me)] := hl
  have hown : s.vm.findClass RX9 = some m.cls := hown
  have hw : Wd dC dI A s.heap [wX9 h_me q_me k_me o_me] s.heap [] := ⟨hP, hD, va_S.rf⟩
  generalize hQz : (MQ below (QI dC dI (fun r (_ : Unit) => r = y.1) (fun _ => Jn [wX9 h_me q_me k_me y.2]) (fun _ => Jt [tX9 k_me]) A) ([.ref h_me] : List Value).toArray s 0 0 A) = Qz
  clear hP hD hnm
  unfold f_X9_forget at h
  refine lv_aload_n hx hb dX9_forget_0 rfl (lv_at hl 0 rfl) ?_
  refine lv_iconst (v := 0) hx hb dX9_forget_1 (by decide) ?_
  refine fpX9_0 hx hb hts hown hK hw 0 rfl kw1176 dX9_forget_2 (fun H locs hw => ?_)
  obtain ⟨o1, eo1, h⟩ := z_lt h
  have hw : Wd dC dI A s.heap [wX9 h_me q_me k_me o1] H locs := by rw [eo1]; exact hw
  refine lv_aload_n hx hb dX9_forget_5 rfl (lv_at hl 0 rfl) ?_
  refine fgX9_3 hx hb hts hown hK hw 0 rfl kw1179 dX9_forget_6 ?_
  refine lv_iconst (v := 1) hx hb dX9_forget_9 (by decide) ?_
  refine faX9_3 hx hb hK hw 0 rfl rfl (by decide) dX9_forget_10 ?_
  obtain ⟨x2, ex2, h⟩ := z_lt h
  refine lv_fi (v := x2) ex2.symm ?_
  refine lv_istore_n (lv' := [(1, .int x2), (0, .ref h_me)]) hx hb dX9_forget_11 rfl hl (by decide) rfl (fun ls hl => ?_)
  refine lv_aload_n hx hb dX9_forget_12 rfl (lv_at hl 1 rfl) ?_
  refine fgX9_3 hx hb hts hown hK hw 0 rfl kw1179 dX9_forget_13 ?_
  refine lv_iconst (v := 1) hx hb dX9_forget_16 (by decide) ?_
  refine lv_iconst (v := 0) hx hb dX9_forget_17 (by decide) ?_
  refine fbX9_3 hx hb hK hw 0 rfl rfl (by decide) dX9_forget_18 (fun H locs hw => ?_)
  obtain ⟨o3, eo3, h⟩ := z_lt h
  have hw : Wd dC dI A s.heap [wX9 h_me q_me k_me o3] H locs := by rw [eo3]; exact hw
  refine lv_iload_n hx hb dX9_forget_19 rfl (lv_at hl 0 rfl) ?_
  have hy := Option.some.inj h
  rw [← hQz, ← hy]
  exact xr_i (v := x2) hx hb hr rfl hlk hK hw dX9_forget_20

def lb_X9_giveBack_35   (rec_35_1 : Int32 × Int32 × Ob → Option (Ob)) (v1 : Int32) (v2 : Int32) (o_me : Ob) : Option (Ob) :=
  if (16 : Int32) ≤ v2 then
  (zlt (sI o_me 8 v1) fun o2 =>
  some o2)
  else
  (zgd (zin v2 16) <|
  zgd (zin v2 16) <|
  zlt (tA o_me 7 v2.toNatClampNeg (gA o_me 10 v2.toNatClampNeg)) fun o5 =>
  zlt (v2 + (1 : Int32)) fun x6 =>
  rec_35_1 (v1, x6, o5))
def lp_X9_giveBack_35   : Nat → (Int32 × Int32 × Ob) → Option (Ob) := zit (fun rec a => lb_X9_giveBack_35   rec a.1 a.2.1 a.2.2)
def lb_X9_giveBack_8   (rec_8_0 : Int32 × Int32 × Ob → Option (Ob)) (v1 : Int32) (v2 : Int32) (o_me : Ob) : Option (Ob) :=
  if (400 : Int32) ≤ v2 then
  (lp_X9_giveBack_35   zfu (v1, (0 : Int32), o_me))
  else
  (zgd (zin v2 400) <|
  zgd (zin v2 450) <|
  zlt (tA o_me 6 v2.toNatClampNeg (gA o_me 9 v2.toNatClampNeg)) fun o9 =>
  zlt (v2 + (1 : Int32)) fun x10 =>
  rec_8_0 (v1, x10, o9))
def lp_X9_giveBack_8   : Nat → (Int32 × Int32 × Ob) → Option (Ob) := zit (fun rec a => lb_X9_giveBack_8   rec a.1 a.2.1 a.2.2)
def f_X9_giveBack (o_me : Ob) (p0 : Int32) : Option (Ob) :=
  (f_X9_putBack o_me (17 : Int32)).bind fun z1 =>
  lp_X9_giveBack_8   zfu (p0, (0 : Int32), z1)
set_option maxHeartbeats 4000000 in
set_option maxRecDepth 100000 in
theorem m_X9_giveBack (l : Launch) (dC : Nat → ClassId) (dI : Nat → Nat → Nat) (sz : Nat) (h_me : Nat) (q_me : Nat → Nat) (k_me : Nat → ClassId) (o_me : Ob) (p0 : Int32) (y : Ob) (h : f_X9_giveBack o_me p0 = some y) : CV l yX9_giveBack cX9_giveBack 3 none ({ frames := 1, cells := 0, slots := 0, locals := 22 } : Room) dC dI sz [.ref h_me, .int p0] [wX9 h_me q_me k_me o_me] [tX9 k_me] [wX9 h_me q_me k_me y] := by
  refine CC_of (by decide) (Nat.le_of_ble_eq_true rfl) ?_
  intro p e s m below meth c A ls hx hb hml hr hlk hnm hown hts hX hK hP hD hA hl
  have hl : lv_has ls 3 [(0, .ref h_me), (1, .int p0)] := hl
  have hown : s.vm.findClass RX9 = some m.cls := hown
  have hw : Wd dC dI A s.heap [wX9 h_me q_me k_me o_me] s.heap [] := ⟨hP, hD, va_S.rf⟩
  generalize hQz : (MQ below (QV dC dI (fun (_ : Unit) => True) (fun _ => Jn [wX9 h_me q_me k_me y]) (fun _ => Jt [tX9 k_me]) A) ([.ref h_me, .int p0] : List Value).toArray s 0 0 A) = Qz
  clear hP hD hnm
  have lp_35_1 : ∀ (N : Nat), ∀ (v1 : Int32) (v2 : Int32) (o_me : Ob) (H : Heap) (locs : List Loc) (ls : Array Slot), lp_X9_giveBack_35   N (v1, v2, o_me) = some y → Wd dC dI A s.heap [wX9 h_me q_me k_me o_me] H locs → lv_has ls 3 [(0, .ref h_me), (1, .int v1), (2, .int v2)] → W p l e ({ frames := 1, cells := 0, slots := 0, locals := 22 } : Room) s m ([.ref h_me, .int p0] : List Value).toArray below meth c H locs 0 0 Qz (F0 m 35 ls []) := by
    intro N
    induction N with
    | zero =>
      intro v1 v2 o_me H locs ls h hw hl
      exact absurd (show (none : Option (Ob)) = some y from h) (by simp)
    | succ N ih =>
      intro v1 v2 o_me H locs ls h hw hl
      have h : lb_X9_giveBack_35   (lp_X9_giveBack_35   N) v1 v2 o_me = some y := h
      unfold lb_X9_giveBack_35 at h
      refine lv_iload_n hx hb dX9_giveBack_35 rfl (lv_at hl 2 rfl) ?_
      refine lv_bipush (v := 16) hx hb dX9_giveBack_36 (by decide) ?_
      refine lv_icmp_ge (tgt := 59) hx hb dX9_giveBack_38 (by decide) (fun c => ?_) (fun c => ?_)
      · have h := z_t h c
        refine lv_aload_n hx hb dX9_giveBack_59 rfl (lv_at hl 0 rfl) ?_
        refine lv_iload_n hx hb dX9_giveBack_60 rfl (lv_at hl 1 rfl) ?_
        refine fpX9_8 hx hb hts hown hK hw 0 rfl kw1184 dX9_giveBack_61 (fun H locs hw => ?_)
        obtain ⟨o2, eo2, h⟩ := z_lt h
        have hw : Wd dC dI A s.heap [wX9 h_me q_me k_me o2] H locs := by rw [eo2]; exact hw
        have hy := Option.some.inj h
        rw [← hQz, ← hy]
        exact xr_v hx hb hr hlk hK hw dX9_giveBack_64
      · have h := z_f h c
        refine lv_aload_n hx hb dX9_giveBack_41 rfl (lv_at hl 0 rfl) ?_
        refine fgX9_7 hx hb hts hown hK hw 0 rfl kw1183 dX9_giveBack_42 ?_
        refine lv_iload_n hx hb dX9_giveBack_45 rfl (lv_at hl 2 rfl) ?_
        refine lv_aload_n hx hb dX9_giveBack_46 rfl (lv_at hl 0 rfl) ?_
        refine fgX9_10 hx hb hts hown hK hw 0 rfl kw1186 dX9_giveBack_47 ?_
        refine lv_iload_n hx hb dX9_giveBack_50 rfl (lv_at hl 2 rfl) ?_
        obtain ⟨g3, h⟩ := z_gd h
        refine faX9_10 hx hb hK hw 0 rfl rfl g3 dX9_giveBack_51 ?_
        obtain ⟨g4, h⟩ := z_gd h
        refine fbX9_7 hx hb hK hw 0 rfl rfl g4 dX9_giveBack_52 (fun H locs hw => ?_)
        obtain ⟨o5, eo5, h⟩ := z_lt h
        have hw : Wd dC dI A s.heap [wX9 h_me q_me k_me o5] H locs := by rw [eo5]; exact hw
        obtain ⟨x6, ex6, h⟩ := z_lt h
        refine lv_iinc (v := x6) (lv' := [(2, .int x6), (0, .ref h_me), (1, .int v1)]) hx hb dX9_giveBack_53 hl (k := 2) rfl ((congrArg (v2 + ·) (show Int32.ofInt 1 = (1 : Int32) from by decide)).trans ex6.symm) (by decide) rfl (fun ls hl => ?_)
        refine lv_goto (tgt := 35) hx hb dX9_giveBack_56 (by decide) ?_
        exact ih v1 x6 o5 _ _ _ h hw (lv_sub hl [1, 2, 0] rfl)
  have lp_8_0 : ∀ (N : Nat), ∀ (v1 : Int32) (v2 : Int32) (o_me : Ob) (H : Heap) (locs : List Loc) (ls : Array Slot), lp_X9_giveBack_8   N (v1, v2, o_me) = some y → Wd dC dI A s.heap [wX9 h_me q_me k_me o_me] H locs → lv_has ls 3 [(0, .ref h_me), (1, .int v1), (2, .int v2)] → W p l e ({ frames := 1, cells := 0, slots := 0, locals := 22 } : Room) s m ([.ref h_me, .int p0] : List Value).toArray below meth c H locs 0 0 Qz (F0 m 8 ls []) := by
    intro N
    induction N with
    | zero =>
      intro v1 v2 o_me H locs ls h hw hl
      exact absurd (show (none : Option (Ob)) = some y from h) (by simp)
    | succ N ih =>
      intro v1 v2 o_me H locs ls h hw hl
      have h : lb_X9_giveBack_8   (lp_X9_giveBack_8   N) v1 v2 o_me = some y := h
      unfold lb_X9_giveBack_8 at h
      refine lv_iload_n hx hb dX9_giveBack_8 rfl (lv_at hl 2 rfl) ?_
      refine lv_sipush (v := 400) hx hb dX9_giveBack_9 (by decide) ?_
      refine lv_icmp_ge (tgt := 33) hx hb dX9_giveBack_12 (by decide) (fun c => ?_) (fun c => ?_)
      · have h := z_t h c
        refine lv_iconst (v := 0) hx hb dX9_giveBack_33 (by decide) ?_
        refine lv_istore_n (lv' := [(2, .int (0 : Int32)), (0, .ref h_me), (1, .int v1)]) hx hb dX9_giveBack_34 rfl hl (by decide) rfl (fun ls hl => ?_)
        exact lp_35_1  zfu v1 (0 : Int32) o_me _ _ _ h hw (lv_sub hl [1, 2, 0] rfl)
      · have h := z_f h c
        refine lv_aload_n hx hb dX9_giveBack_15 rfl (lv_at hl 0 rfl) ?_
        refine fgX9_6 hx hb hts hown hK hw 0 rfl kw1182 dX9_giveBack_16 ?_
        refine lv_iload_n hx hb dX9_giveBack_19 rfl (lv_at hl 2 rfl) ?_
        refine lv_aload_n hx hb dX9_giveBack_20 rfl (lv_at hl 0 rfl) ?_
        refine fgX9_9 hx hb hts hown hK hw 0 rfl kw1185 dX9_giveBack_21 ?_
        refine lv_iload_n hx hb dX9_giveBack_24 rfl (lv_at hl 2 rfl) ?_
        obtain ⟨g7, h⟩ := z_gd h
        refine faX9_9 hx hb hK hw 0 rfl rfl g7 dX9_giveBack_25 ?_
        obtain ⟨g8, h⟩ := z_gd h
        refine fbX9_6 hx hb hK hw 0 rfl rfl g8 dX9_giveBack_26 (fun H locs hw => ?_)
        obtain ⟨o9, eo9, h⟩ := z_lt h
        have hw : Wd dC dI A s.heap [wX9 h_me q_me k_me o9] H locs := by rw [eo9]; exact hw
        obtain ⟨x10, ex10, h⟩ := z_lt h
        refine lv_iinc (v := x10) (lv' := [(2, .int x10), (0, .ref h_me), (1, .int v1)]) hx hb dX9_giveBack_27 hl (k := 2) rfl ((congrArg (v2 + ·) (show Int32.ofInt 1 = (1 : Int32) from by decide)).trans ex10.symm) (by decide) rfl (fun ls hl => ?_)
        refine lv_goto (tgt := 8) hx hb dX9_giveBack_30 (by decide) ?_
        exact ih v1 x10 o9 _ _ _ h hw (lv_sub hl [1, 2, 0] rfl)
  unfold f_X9_giveBack at h
  refine lv_aload_n hx hb dX9_giveBack_0 rfl (lv_at hl 0 rfl) ?_
  refine lv_bipush (v := 17) hx hb dX9_giveBack_1 (by decide) ?_
  obtain ⟨z1, ez1, h⟩ := z_bd h
  refine xj_v (xrV (As := [.int (17 : Int32)]) (rest := []) ⟨hx, hb, hml, hown, hts⟩ (m_X9_putBack l dC dI _ h_me q_me k_me o_me (17 : Int32) z1 ez1) kw1378 kw1375 kw1377 kw40 kw120 hd_X9_putBack ⟨rfl, rfl⟩ rfl rfl ⟨rfl, rfl⟩ hX hK hw [0] (by decide) rfl rfl rfl rfl rfl hl.1 rfl rfl dX9_giveBack_3) hw hA [0] (by decide) rfl rfl (fun H locs hw => ?_)
  have hw : Wd dC dI A s.heap [wX9 h_me q_me k_me z1] H locs := hw
  refine lv_iconst (v := 0) hx hb dX9_giveBack_6 (by decide) ?_
  refine lv_istore_n (lv' := [(2, .int (0 : Int32)), (0, .ref h_me), (1, .int p0)]) hx hb dX9_giveBack_7 rfl hl (by decide) rfl (fun ls hl => ?_)
  exact lp_8_0  zfu p0 (0 : Int32) z1 _ _ _ h hw (lv_sub hl [1, 2, 0] rfl)

def bk_X9_layLine_120  (rec_46_1 : Int32 × Int32 × Ob → Option (Int32 × Ob)) (rec_89_3 : Int32 × Int32 × Int32 × Int32 × Ob → Option (Int32 × Ob)) (v1 : Int32) (v2 : Int32) (v3 : Int32) (v4 : Int32) (o_me : Ob) : Option (Int32 × Ob) :=
  zlt (v4 + (-1 : Int32)) fun x8 =>
  rec_89_3 (v1, v2, v3, x8, o_me)
def lb_X9_layLine_89  (rec_46_1 : Int32 × Int32 × Ob → Option (Int32 × Ob)) (rec_89_3 : Int32 × Int32 × Int32 × Int32 × Ob → Option (Int32 × Ob)) (v1 : Int32) (v2 : Int32) (v3 : Int32) (v4 : Int32) (o_me : Ob) : Option (Int32 × Ob) :=
  if v4 ≤ v3 then
  (rec_46_1 (v1, v2, o_me))
  else
  (zgd (zin ((29 : Int32) + v4) 5484) <|
  if (gA o_me 3 ((29 : Int32) + v4).toNatClampNeg) = v3 then
  (zgd (zin v2 14) <|
  zlt (tA o_me 50 v2.toNatClampNeg v4) fun o10 =>
  zlt (v2 + (1 : Int32)) fun x11 =>
  bk_X9_layLine_120  rec_46_1 rec_89_3 v1 x11 v3 v4 o10)
  else
  (bk_X9_layLine_120  rec_46_1 rec_89_3 v1 v2 v3 v4 o_me))
def lp_X9_layLine_89  (rec_46_1 : Int32 × Int32 × Ob → Option (Int32 × Ob)) : Nat → (Int32 × Int32 × Int32 × Int32 × Ob) → Option (Int32 × Ob) := zit (fun rec a => lb_X9_layLine_89  rec_46_1 rec a.1 a.2.1 a.2.2.1 a.2.2.2.1 a.2.2.2.2)
def bk_X9_layLine_79  (rec_46_1 : Int32 × Int32 × Ob → Option (Int32 × Ob)) (v1 : Int32) (v2 : Int32) (v3 : Int32) (o_me : Ob) : Option (Int32 × Ob) :=
  zlt ((gA o_me 3 (0 : Int32).toNatClampNeg) - (1 : Int32)) fun x6 =>
  lp_X9_layLine_89  rec_46_1 zfu (v1, v2, v3, x6, o_me)
def lb_X9_layLine_46   (rec_46_1 : Int32 × Int32 × Ob → Option (Int32 × Ob)) (v1 : Int32) (v2 : Int32) (o_me : Ob) : Option (Int32 × Ob) :=
  if v2 ≤ (0 : Int32) then
  (some (v1, o_me))
  else
  (zlt (v2 + (-1 : Int32)) fun x2 =>
  zgd (zin x2 14) <|
  zlt (gA o_me 50 x2.toNatClampNeg) fun x4 =>
  (f_X9_elder o_me x4).bind fun z5 =>
  if z5 = (1 : Int32) then
  (bk_X9_layLine_79  rec_46_1 v1 x2 x4 o_me)
  else
  (zgd (zin v1 7) <|
  zlt (tA o_me 51 v1.toNatClampNeg x4) fun o13 =>
  zlt (v1 + (1 : Int32)) fun x14 =>
  bk_X9_layLine_79  rec_46_1 x14 x2 x4 o13))
def lp_X9_layLine_46   : Nat → (Int32 × Int32 × Ob) → Option (Int32 × Ob) := zit (fun rec a => lb_X9_layLine_46   rec a.1 a.2.1 a.2.2)
def bk_X9_layLine_40  (rec_13_0 : Int32 × Int32 × Int32 × Ob → Option (Int32 × Ob)) (v1 : Int32) (v2 : Int32) (v3 : Int32) (o_me : Ob) : Option (Int32 × Ob) :=
  zlt (v3 + (-1 : Int32)) fun x16 =>
  rec_13_0 (v1, v2, x16, o_me)
def lb_X9_layLine_13   (rec_13_0 : Int32 × Int32 × Int32 × Ob → Option (Int32 × Ob)) (v1 : Int32) (v2 : Int32) (v3 : Int32) (o_me : Ob) : Option (Int32 × Ob) :=
  if v3 < (0 : Int32) then
  (lp_X9_layLine_46   zfu (v1, v2, o_me))
  else
  (zgd (zin ((29 : Int32) + v3) 5484) <|
  if (gA o_me 3 ((29 : Int32) + v3).toNatClampNeg) = (-1 : Int32) then
  (zgd (zin v2 14) <|
  zlt (tA o_me 50 v2.toNatClampNeg v3) fun o18 =>
  zlt (v2 + (1 : Int32)) fun x19 =>
  bk_X9_layLine_40  rec_13_0 v1 x19 v3 o18)
  else
  (bk_X9_layLine_40  rec_13_0 v1 v2 v3 o_me))
def lp_X9_layLine_13   : Nat → (Int32 × Int32 × Int32 × Ob) → Option (Int32 × Ob) := zit (fun rec a => lb_X9_layLine_13   rec a.1 a.2.1 a.2.2.1 a.2.2.2)
def f_X9_layLine (o_me : Ob) : Option (Int32 × Ob) :=
  zlt ((gA o_me 3 (0 : Int32).toNatClampNeg) - (1 : Int32)) fun x1 =>
  lp_X9_layLine_13   zfu ((0 : Int32), (0 : Int32), x1, o_me)
set_option maxHeartbeats 4000000 in
set_option maxRecDepth 100000 in
theorem m_X9_layLine (l : Launch) (dC : Nat → ClassId) (dI : Nat → Nat → Nat) (sz : Nat) (h_me : Nat) (q_me : Nat → Nat) (k_me : Nat → ClassId) (o_me : Ob) (y : Int32 × Ob) (h : f_X9_layLine o_me = some y) : CI l yX9_layLine cX9_layLine 5 (some .int) ({ frames := 1, cells := 0, slots := 0, locals := 23 } : Room) dC dI sz [.ref h_me] [wX9 h_me q_me k_me o_me] [tX9 k_me] y.1 [wX9 h_me q_me k_me y.2] := by
  refine CC_of (by decide) (Nat.le_of_ble_eq_true rfl) ?_
  intro p e s m below meth c A ls hx hb hml hr hlk hnm hown hts hX hK hP hD hA hl
  have hl : lv_has ls 5 [(0, .ref h_me)] := hl
  have hown : s.vm.findClass RX9 = some m.cls := hown
  have hw : Wd dC dI A s.heap [wX9 h_me q_me k_me o_me] s.heap [] := ⟨hP, hD, va_S.rf⟩
  generalize hQz : (MQ below (QI dC dI (fun r (_ : Unit) => r = y.1) (fun _ => Jn [wX9 h_me q_me k_me y.2]) (fun _ => Jt [tX9 k_me]) A) ([.ref h_me] : List Value).toArray s 0 0 A) = Qz
  clear hP hD hnm
  have bk_120_4 : ∀ (rec_46_1 : Int32 × Int32 × Ob → Option (Int32 × Ob)) (hrec_46_1 : ∀ (v1 : Int32) (v2 : Int32) (o_me : Ob) (H : Heap) (locs : List Loc) (ls : Array Slot), rec_46_1 (v1, v2, o_me) = some y → Wd dC dI A s.heap [wX9 h_me q_me k_me o_me] H locs → lv_has ls 5 [(0, .ref h_me), (1, .int v1), (2, .int v2)] → W p l e ({ frames := 1, cells := 0, slots := 0, locals := 23 } : Room) s m ([.ref h_me] : List Value).toArray below meth c H locs 0 0 Qz (F0 m 46 ls [])) (rec_89_3 : Int32 × Int32 × Int32 × Int32 × Ob → Option (Int32 × Ob)) (hrec_89_3 : ∀ (v1 : Int32) (v2 : Int32) (v3 : Int32) (v4 : Int32) (o_me : Ob) (H : Heap) (locs : List Loc) (ls : Array Slot), rec_89_3 (v1, v2, v3, v4, o_me) = some y → Wd dC dI A s.heap [wX9 h_me q_me k_me o_me] H locs → lv_has ls 5 [(0, .ref h_me), (1, .int v1), (2, .int v2), (3, .int v3), (4, .int v4)] → W p l e ({ frames := 1, cells := 0, slots := 0, locals := 23 } : Room) s m ([.ref h_me] : List Value).toArray below meth c H locs 0 0 Qz (F0 m 89 ls [])), ∀ (v1 : Int32) (v2 : Int32) (v3 : Int32) (v4 : Int32) (o_me : Ob) (H : Heap) (locs : List Loc) (ls : Array Slot), bk_X9_layLine_120  rec_46_1 rec_89_3 v1 v2 v3 v4 o_me = some y → Wd dC dI A s.heap [wX9 h_me q_me k_me o_me] H locs → lv_has ls 5 [(0, .ref h_me), (1, .int v1), (2, .int v2), (3, .int v3), (4, .int v4)] → W p l e ({ frames := 1, cells := 0, slots := 0, locals := 23 } : Room) s m ([.ref h_me] : List Value).toArray below meth c H locs 0 0 Qz (F0 m 120 ls []) := by
    intro rec_46_1 hrec_46_1 rec_89_3 hrec_89_3
    intro v1 v2 v3 v4 o_me H locs ls h hw hl
    unfold bk_X9_layLine_120 at h
    obtain ⟨x8, ex8, h⟩ := z_lt h
    refine lv_iinc (v := x8) (lv' := [(4, .int x8), (0, .ref h_me), (1, .int v1), (2, .int v2), (3, .int v3)]) hx hb dX9_layLine_120 hl (k := 4) rfl ((congrArg (v4 + ·) (show Int32.ofInt (-1) = (-1 : Int32) from by decide)).trans ex8.symm) (by decide) rfl (fun ls hl => ?_)
    refine lv_goto (tgt := 89) hx hb dX9_layLine_123 (by decide) ?_
    exact hrec_89_3 v1 v2 v3 x8 o_me _ _ _ h hw (lv_sub hl [1, 2, 3, 4, 0] rfl)
  have lp_89_3 : ∀ (rec_46_1 : Int32 × Int32 × Ob → Option (Int32 × Ob)) (hrec_46_1 : ∀ (v1 : Int32) (v2 : Int32) (o_me : Ob) (H : Heap) (locs : List Loc) (ls : Array Slot), rec_46_1 (v1, v2, o_me) = some y → Wd dC dI A s.heap [wX9 h_me q_me k_me o_me] H locs → lv_has ls 5 [(0, .ref h_me), (1, .int v1), (2, .int v2)] → W p l e ({ frames := 1, cells := 0, slots := 0, locals := 23 } : Room) s m ([.ref h_me] : List Value).toArray below meth c H locs 0 0 Qz (F0 m 46 ls [])) (N : Nat), ∀ (v1 : Int32) (v2 : Int32) (v3 : Int32) (v4 : Int32) (o_me : Ob) (H : Heap) (locs : List Loc) (ls : Array Slot), lp_X9_layLine_89  rec_46_1 N (v1, v2, v3, v4, o_me) = some y → Wd dC dI A s.heap [wX9 h_me q_me k_me o_me] H locs → lv_has ls 5 [(0, .ref h_me), (1, .int v1), (2, .int v2), (3, .int v3), (4, .int v4)] → W p l e ({ frames := 1, cells := 0, slots := 0, locals := 23 } : Room) s m ([.ref h_me] : List Value).toArray below meth c H locs 0 0 Qz (F0 m 89 ls []) := by
    intro rec_46_1 hrec_46_1
    intro N
    induction N with
    | zero =>
      intro v1 v2 v3 v4 o_me H locs ls h hw hl
      exact absurd (show (none : Option (Int32 × Ob)) = some y from h) (by simp)
    | succ N ih =>
      intro v1 v2 v3 v4 o_me H locs ls h hw hl
      have h : lb_X9_layLine_89  rec_46_1 (lp_X9_layLine_89  rec_46_1 N) v1 v2 v3 v4 o_me = some y := h
      unfold lb_X9_layLine_89 at h
      refine lv_iload hx hb dX9_layLine_89 (lv_at hl 4 rfl) ?_
      refine lv_iload_n hx hb dX9_layLine_91 rfl (lv_at hl 3 rfl) ?_
      refine lv_icmp_le (tgt := 126) hx hb dX9_layLine_92 (by decide) (fun c => ?_) (fun c => ?_)
      · have h := z_t h c
        refine lv_goto (tgt := 46) hx hb dX9_layLine_126 (by decide) ?_
        exact hrec_46_1 v1 v2 o_me _ _ _ h hw (lv_sub hl [0, 1, 2] rfl)
      · have h := z_f h c
        refine lv_aload_n hx hb dX9_layLine_95 rfl (lv_at hl 0 rfl) ?_
        refine fgX9_3 hx hb hts hown hK hw 0 rfl kw1179 dX9_layLine_96 ?_
        refine lv_bipush (v := 29) hx hb dX9_layLine_99 (by decide) ?_
        refine lv_iload hx hb dX9_layLine_101 (lv_at hl 4 rfl) ?_
        refine lv_iadd hx hb dX9_layLine_103 ?_
        obtain ⟨g7, h⟩ := z_gd h
        refine faX9_3 hx hb hK hw 0 rfl rfl g7 dX9_layLine_104 ?_
        refine lv_iload_n hx hb dX9_layLine_105 rfl (lv_at hl 3 rfl) ?_
        refine lv_icmp_ne (tgt := 120) hx hb dX9_layLine_106 (by decide) (fun c => ?_) (fun c => ?_)
        · have h := z_f h c
          exact bk_120_4 rec_46_1 hrec_46_1 (lp_X9_layLine_89  rec_46_1 N) ih v1 v2 v3 v4 o_me _ _ _ h hw (lv_sub hl [0, 1, 2, 3, 4] rfl)
        · have h := z_t h c
          refine lv_aload_n hx hb dX9_layLine_109 rfl (lv_at hl 0 rfl) ?_
          refine fgX9_50 hx hb hts hown hK hw 0 rfl kw1226 dX9_layLine_110 ?_
          refine lv_iload_n hx hb dX9_layLine_113 rfl (lv_at hl 2 rfl) ?_
          refine lv_iload hx hb dX9_layLine_114 (lv_at hl 4 rfl) ?_
          obtain ⟨g9, h⟩ := z_gd h
          refine fbX9_50 hx hb hK hw 0 rfl rfl g9 dX9_layLine_116 (fun H locs hw => ?_)
          obtain ⟨o10, eo10, h⟩ := z_lt h
          have hw : Wd dC dI A s.heap [wX9 h_me q_me k_me o10] H locs := by rw [eo10]; exact hw
          obtain ⟨x11, ex11, h⟩ := z_lt h
          refine lv_iinc (v := x11) (lv' := [(2, .int x11), (0, .ref h_me), (1, .int v1), (3, .int v3), (4, .int v4)]) hx hb dX9_layLine_117 hl (k := 2) rfl ((congrArg (v2 + ·) (show Int32.ofInt 1 = (1 : Int32) from by decide)).trans ex11.symm) (by decide) rfl (fun ls hl => ?_)
          exact bk_120_4 rec_46_1 hrec_46_1 (lp_X9_layLine_89  rec_46_1 N) ih v1 x11 v3 v4 o10 _ _ _ h hw (lv_sub hl [1, 2, 0, 3, 4] rfl)
  have bk_79_2 : ∀ (rec_46_1 : Int32 × Int32 × Ob → Option (Int32 × Ob)) (hrec_46_1 : ∀ (v1 : Int32) (v2 : Int32) (o_me : Ob) (H : Heap) (locs : List Loc) (ls : Array Slot), rec_46_1 (v1, v2, o_me) = some y → Wd dC dI A s.heap [wX9 h_me q_me k_me o_me] H locs → lv_has ls 5 [(0, .ref h_me), (1, .int v1), (2, .int v2)] → W p l e ({ frames := 1, cells := 0, slots := 0, locals := 23 } : Room) s m ([.ref h_me] : List Value).toArray below meth c H locs 0 0 Qz (F0 m 46 ls [])), ∀ (v1 : Int32) (v2 : Int32) (v3 : Int32) (o_me : Ob) (H : Heap) (locs : List Loc) (ls : Array Slot), bk_X9_layLine_79  rec_46_1 v1 v2 v3 o_me = some y → Wd dC dI A s.heap [wX9 h_me q_me k_me o_me] H locs → lv_has ls 5 [(0, .ref h_me), (1, .int v1), (2, .int v2), (3, .int v3)] → W p l e ({ frames := 1, cells := 0, slots := 0, locals := 23 } : Room) s m ([.ref h_me] : List Value).toArray below meth c H locs 0 0 Qz (F0 m 79 ls []) := by
    intro rec_46_1 hrec_46_1
    intro v1 v2 v3 o_me H locs ls h hw hl
    unfold bk_X9_layLine_79 at h
    refine lv_aload_n hx hb dX9_layLine_79 rfl (lv_at hl 0 rfl) ?_
    refine fgX9_3 hx hb hts hown hK hw 0 rfl kw1179 dX9_layLine_80 ?_
    refine lv_iconst (v := 0) hx hb dX9_layLine_83 (by decide) ?_
    refine faX9_3 hx hb hK hw 0 rfl rfl (by decide) dX9_layLine_84 ?_
    refine lv_iconst (v := 1) hx hb dX9_layLine_85 (by decide) ?_
    refine lv_isub hx hb dX9_layLine_86 ?_
    obtain ⟨x6, ex6, h⟩ := z_lt h
    refine lv_fi (v := x6) ex6.symm ?_
    refine lv_istore (lv' := [(4, .int x6), (0, .ref h_me), (1, .int v1), (2, .int v2), (3, .int v3)]) hx hb dX9_layLine_87 hl (by decide) rfl (fun ls hl => ?_)
    exact lp_89_3 rec_46_1 hrec_46_1 zfu v1 v2 v3 x6 o_me _ _ _ h hw (lv_sub hl [1, 2, 3, 4, 0] rfl)
  have lp_46_1 : ∀ (N : Nat), ∀ (v1 : Int32) (v2 : Int32) (o_me : Ob) (H : Heap) (locs : List Loc) (ls : Array Slot), lp_X9_layLine_46   N (v1, v2, o_me) = some y → Wd dC dI A s.heap [wX9 h_me q_me k_me o_me] H locs → lv_has ls 5 [(0, .ref h_me), (1, .int v1), (2, .int v2)] → W p l e ({ frames := 1, cells := 0, slots := 0, locals := 23 } : Room) s m ([.ref h_me] : List Value).toArray below meth c H locs 0 0 Qz (F0 m 46 ls []) := by
    intro N
    induction N with
    | zero =>
      intro v1 v2 o_me H locs ls h hw hl
      exact absurd (show (none : Option (Int32 × Ob)) = some y from h) (by simp)
    | succ N ih =>
      intro v1 v2 o_me H locs ls h hw hl
      have h : lb_X9_layLine_46   (lp_X9_layLine_46   N) v1 v2 o_me = some y := h
      unfold lb_X9_layLine_46 at h
      refine lv_iload_n hx hb dX9_layLine_46 rfl (lv_at hl 2 rfl) ?_
      refine lv_if_le (tgt := 129) hx hb dX9_layLine_47 (by decide) (fun c => ?_) (fun c => ?_)
      · have h := z_t h c
        refine lv_iload_n hx hb dX9_layLine_129 rfl (lv_at hl 1 rfl) ?_
        have hy := Option.some.inj h
        rw [← hQz, ← hy]
        exact xr_i (v := v1) hx hb hr rfl hlk hK hw dX9_layLine_130
      · have h := z_f h c
        obtain ⟨x2, ex2, h⟩ := z_lt h
        refine lv_iinc (v := x2) (lv' := [(2, .int x2), (0, .ref h_me), (1, .int v1)]) hx hb dX9_layLine_50 hl (k := 2) rfl ((congrArg (v2 + ·) (show Int32.ofInt (-1) = (-1 : Int32) from by decide)).trans ex2.symm) (by decide) rfl (fun ls hl => ?_)
        refine lv_aload_n hx hb dX9_layLine_53 rfl (lv_at hl 1 rfl) ?_
        refine fgX9_50 hx hb hts hown hK hw 0 rfl kw1226 dX9_layLine_54 ?_
        refine lv_iload_n hx hb dX9_layLine_57 rfl (lv_at hl 0 rfl) ?_
        obtain ⟨g3, h⟩ := z_gd h
        refine faX9_50 hx hb hK hw 0 rfl rfl g3 dX9_layLine_58 ?_
        obtain ⟨x4, ex4, h⟩ := z_lt h
        refine lv_fi (v := x4) ex4.symm ?_
        refine lv_istore_n (lv' := [(3, .int x4), (2, .int x2), (0, .ref h_me), (1, .int v1)]) hx hb dX9_layLine_59 rfl hl (by decide) rfl (fun ls hl => ?_)
        refine lv_aload_n hx hb dX9_layLine_60 rfl (lv_at hl 2 rfl) ?_
        refine lv_iload_n hx hb dX9_layLine_61 rfl (lv_at hl 0 rfl) ?_
        obtain ⟨z5, ez5, h⟩ := z_bd h
        refine xj_i (xrV (As := [.int x4]) (rest := []) ⟨hx, hb, hml, hown, hts⟩ (m_X9_elder l dC dI _ h_me q_me k_me o_me x4 z5 ez5) kw1775 kw1772 kw1774 kw99 kw120 hd_X9_elder ⟨rfl, rfl⟩ rfl rfl ⟨rfl, rfl⟩ hX hK hw [0] (by decide) rfl rfl rfl rfl rfl hl.1 rfl rfl dX9_layLine_62) hw hA [0] (by decide) rfl rfl (fun H locs hw => ?_)
        have hw : Wd dC dI A s.heap [wX9 h_me q_me k_me o_me] H locs := hw
        refine lv_iconst (v := 1) hx hb dX9_layLine_65 (by decide) ?_
        refine lv_icmp_eq (tgt := 79) hx hb dX9_layLine_66 (by decide) (fun c => ?_) (fun c => ?_)
        · have h := z_t h c
          exact bk_79_2 (lp_X9_layLine_46   N) ih v1 x2 x4 o_me _ _ _ h hw (lv_sub hl [2, 3, 1, 0] rfl)
        · have h := z_f h c
          refine lv_aload_n hx hb dX9_layLine_69 rfl (lv_at hl 2 rfl) ?_
          refine fgX9_51 hx hb hts hown hK hw 0 rfl kw1227 dX9_layLine_70 ?_
          refine lv_iload_n hx hb dX9_layLine_73 rfl (lv_at hl 3 rfl) ?_
          refine lv_iload_n hx hb dX9_layLine_74 rfl (lv_at hl 0 rfl) ?_
          obtain ⟨g12, h⟩ := z_gd h
          refine fbX9_51 hx hb hK hw 0 rfl rfl g12 dX9_layLine_75 (fun H locs hw => ?_)
          obtain ⟨o13, eo13, h⟩ := z_lt h
          have hw : Wd dC dI A s.heap [wX9 h_me q_me k_me o13] H locs := by rw [eo13]; exact hw
          obtain ⟨x14, ex14, h⟩ := z_lt h
          refine lv_iinc (v := x14) (lv' := [(1, .int x14), (3, .int x4), (2, .int x2), (0, .ref h_me)]) hx hb dX9_layLine_76 hl (k := 3) rfl ((congrArg (v1 + ·) (show Int32.ofInt 1 = (1 : Int32) from by decide)).trans ex14.symm) (by decide) rfl (fun ls hl => ?_)
          exact bk_79_2 (lp_X9_layLine_46   N) ih x14 x2 x4 o13 _ _ _ h hw (lv_sub hl [3, 0, 2, 1] rfl)
  have bk_40_5 : ∀ (rec_13_0 : Int32 × Int32 × Int32 × Ob → Option (Int32 × Ob)) (hrec_13_0 : ∀ (v1 : Int32) (v2 : Int32) (v3 : Int32) (o_me : Ob) (H : Heap) (locs : List Loc) (ls : Array Slot), rec_13_0 (v1, v2, v3, o_me) = some y → Wd dC dI A s.heap [wX9 h_me q_me k_me o_me] H locs → lv_has ls 5 [(0, .ref h_me), (1, .int v1), (2, .int v2), (3, .int v3)] → W p l e ({ frames := 1, cells := 0, slots := 0, locals := 23 } : Room) s m ([.ref h_me] : List Value).toArray below meth c H locs 0 0 Qz (F0 m 13 ls [])), ∀ (v1 : Int32) (v2 : Int32) (v3 : Int32) (o_me : Ob) (H : Heap) (locs : List Loc) (ls : Array Slot), bk_X9_layLine_40  rec_13_0 v1 v2 v3 o_me = some y → Wd dC dI A s.heap [wX9 h_me q_me k_me o_me] H locs → lv_has ls 5 [(0, .ref h_me), (1, .int v1), (2, .int v2), (3, .int v3)] → W p l e ({ frames := 1, cells := 0, slots := 0, locals := 23 } : Room) s m ([.ref h_me] : List Value).toArray below meth c H locs 0 0 Qz (F0 m 40 ls []) := by
    intro rec_13_0 hrec_13_0
    intro v1 v2 v3 o_me H locs ls h hw hl
    unfold bk_X9_layLine_40 at h
    obtain ⟨x16, ex16, h⟩ := z_lt h
    refine lv_iinc (v := x16) (lv' := [(3, .int x16), (0, .ref h_me), (1, .int v1), (2, .int v2)]) hx hb dX9_layLine_40 hl (k := 3) rfl ((congrArg (v3 + ·) (show Int32.ofInt (-1) = (-1 : Int32) from by decide)).trans ex16.symm) (by decide) rfl (fun ls hl => ?_)
    refine lv_goto (tgt := 13) hx hb dX9_layLine_43 (by decide) ?_
    exact hrec_13_0 v1 v2 x16 o_me _ _ _ h hw (lv_sub hl [1, 2, 3, 0] rfl)
  have lp_13_0 : ∀ (N : Nat), ∀ (v1 : Int32) (v2 : Int32) (v3 : Int32) (o_me : Ob) (H : Heap) (locs : List Loc) (ls : Array Slot), lp_X9_layLine_13   N (v1, v2, v3, o_me) = some y → Wd dC dI A s.heap [wX9 h_me q_me k_me o_me] H locs → lv_has ls 5 [(0, .ref h_me), (1, .int v1), (2, .int v2), (3, .int v3)] → W p l e ({ frames := 1, cells := 0, slots := 0, locals := 23 } : Room) s m ([.ref h_me] : List Value).toArray below meth c H locs 0 0 Qz (F0 m 13 ls []) := by
    intro N
    induction N with
    | zero =>
      intro v1 v2 v3 o_me H locs ls h hw hl
      exact absurd (show (none : Option (Int32 × Ob)) = some y from h) (by simp)
    | succ N ih =>
      intro v1 v2 v3 o_me H locs ls h hw hl
      have h : lb_X9_layLine_13   (lp_X9_layLine_13   N) v1 v2 v3 o_me = some y := h
      unfold lb_X9_layLine_13 at h
      refine lv_iload_n hx hb dX9_layLine_13 rfl (lv_at hl 3 rfl) ?_
      refine lv_if_lt (tgt := 46) hx hb dX9_layLine_14 (by decide) (fun c => ?_) (fun c => ?_)
      · have h := z_t h c
        exact lp_46_1  zfu v1 v2 o_me _ _ _ h hw (lv_sub hl [0, 1, 2] rfl)
      · have h := z_f h c
        refine lv_aload_n hx hb dX9_layLine_17 rfl (lv_at hl 0 rfl) ?_
        refine fgX9_3 hx hb hts hown hK hw 0 rfl kw1179 dX9_layLine_18 ?_
        refine lv_bipush (v := 29) hx hb dX9_layLine_21 (by decide) ?_
        refine lv_iload_n hx hb dX9_layLine_23 rfl (lv_at hl 3 rfl) ?_
        refine lv_iadd hx hb dX9_layLine_24 ?_
        obtain ⟨g15, h⟩ := z_gd h
        refine faX9_3 hx hb hK hw 0 rfl rfl g15 dX9_layLine_25 ?_
        refine lv_iconst (v := (-1)) hx hb dX9_layLine_26 (by decide) ?_
        refine lv_icmp_ne (tgt := 40) hx hb dX9_layLine_27 (by decide) (fun c => ?_) (fun c => ?_)
        · have h := z_f h c
          exact bk_40_5 (lp_X9_layLine_13   N) ih v1 v2 v3 o_me _ _ _ h hw (lv_sub hl [0, 1, 2, 3] rfl)
        · have h := z_t h c
          refine lv_aload_n hx hb dX9_layLine_30 rfl (lv_at hl 0 rfl) ?_
          refine fgX9_50 hx hb hts hown hK hw 0 rfl kw1226 dX9_layLine_31 ?_
          refine lv_iload_n hx hb dX9_layLine_34 rfl (lv_at hl 2 rfl) ?_
          refine lv_iload_n hx hb dX9_layLine_35 rfl (lv_at hl 3 rfl) ?_
          obtain ⟨g17, h⟩ := z_gd h
          refine fbX9_50 hx hb hK hw 0 rfl rfl g17 dX9_layLine_36 (fun H locs hw => ?_)
          obtain ⟨o18, eo18, h⟩ := z_lt h
          have hw : Wd dC dI A s.heap [wX9 h_me q_me k_me o18] H locs := by rw [eo18]; exact hw
          obtain ⟨x19, ex19, h⟩ := z_lt h
          refine lv_iinc (v := x19) (lv' := [(2, .int x19), (0, .ref h_me), (1, .int v1), (3, .int v3)]) hx hb dX9_layLine_37 hl (k := 2) rfl ((congrArg (v2 + ·) (show Int32.ofInt 1 = (1 : Int32) from by decide)).trans ex19.symm) (by decide) rfl (fun ls hl => ?_)
          exact bk_40_5 (lp_X9_layLine_13   N) ih v1 x19 v3 o18 _ _ _ h hw (lv_sub hl [1, 2, 0, 3] rfl)
  unfold f_X9_layLine at h
  refine lv_iconst (v := 0) hx hb dX9_layLine_0 (by decide) ?_
  refine lv_istore_n (lv' := [(1, .int (0 : Int32)), (0, .ref h_me)]) hx hb dX9_layLine_1 rfl hl (by decide) rfl (fun ls hl => ?_)
  refine lv_iconst (v := 0) hx hb dX9_layLine_2 (by decide) ?_
  refine lv_istore_n (lv' := [(2, .int (0 : Int32)), (1, .int (0 : Int32)), (0, .ref h_me)]) hx hb dX9_layLine_3 rfl hl (by decide) rfl (fun ls hl => ?_)
  refine lv_aload_n hx hb dX9_layLine_4 rfl (lv_at hl 2 rfl) ?_
  refine fgX9_3 hx hb hts hown hK hw 0 rfl kw1179 dX9_layLine_5 ?_
  refine lv_iconst (v := 0) hx hb dX9_layLine_8 (by decide) ?_
  refine faX9_3 hx hb hK hw 0 rfl rfl (by decide) dX9_layLine_9 ?_
  refine lv_iconst (v := 1) hx hb dX9_layLine_10 (by decide) ?_
  refine lv_isub hx hb dX9_layLine_11 ?_
  obtain ⟨x1, ex1, h⟩ := z_lt h
  refine lv_fi (v := x1) ex1.symm ?_
  refine lv_istore_n (lv' := [(3, .int x1), (2, .int (0 : Int32)), (1, .int (0 : Int32)), (0, .ref h_me)]) hx hb dX9_layLine_12 rfl hl (by decide) rfl (fun ls hl => ?_)
  exact lp_13_0  zfu (0 : Int32) (0 : Int32) x1 o_me _ _ _ h hw (lv_sub hl [3, 2, 1, 0] rfl)

def f_X9_heir (o_me : Ob) (p0 : Int32) : Option (Int32 × Ob) :=
  zlt (sI o_me 0 (0 : Int32)) fun o1 =>
  (f_X9_layLine o1).bind fun z2 =>
  if p0 = (-1 : Int32) then
  (some (z2.1, z2.2))
  else
  ((f_X9_in p0.toInt64 (0 : Int64) (z2.1.toInt64 - (1 : Int64))).bind fun z3 =>
  if z3 = (0 : Int32) then
  (some ((-1 : Int32), z2.2))
  else
  (zgd (zin p0 7) <|
  some (gA z2.2 51 p0.toNatClampNeg, z2.2)))
set_option maxHeartbeats 4000000 in
set_option maxRecDepth 100000 in
theorem m_X9_heir (l : Launch) (dC : Nat → ClassId) (dI : Nat → Nat → Nat) (sz : Nat) (h_me : Nat) (q_me : Nat → Nat) (k_me : Nat → ClassId) (o_me : Ob) (p0 : Int32) (y : Int32 × Ob) (h : f_X9_heir o_me p0 = some y) : CI l yX9_heir cX9_heir 3 (some .int) ({ frames := 2, cells := 0, slots := 0, locals := 47 } : Room) dC dI sz [.ref h_me, .int p0] [wX9 h_me q_me k_me o_me] [tX9 k_me] y.1 [wX9 h_me q_me k_me y.2] := by
  refine CC_of (by decide) (Nat.le_of_ble_eq_true rfl) ?_
  intro p e s m below meth c A ls hx hb hml hr hlk hnm hown hts hX hK hP hD hA hl
  have hl : lv_has ls 3 [(0, .ref h_me), (1, .int p0)] := hl
  have hown : s.vm.findClass RX9 = some m.cls := hown
  have hw : Wd dC dI A s.heap [wX9 h_me q_me k_me o_me] s.heap [] := ⟨hP, hD, va_S.rf⟩
  generalize hQz : (MQ below (QI dC dI (fun r (_ : Unit) => r = y.1) (fun _ => Jn [wX9 h_me q_me k_me y.2]) (fun _ => Jt [tX9 k_me]) A) ([.ref h_me, .int p0] : List Value).toArray s 0 0 A) = Qz
  clear hP hD hnm
  unfold f_X9_heir at h
  refine lv_aload_n hx hb dX9_heir_0 rfl (lv_at hl 0 rfl) ?_
  refine lv_iconst (v := 0) hx hb dX9_heir_1 (by decide) ?_
  refine fpX9_0 hx hb hts hown hK hw 0 rfl kw1176 dX9_heir_2 (fun H locs hw => ?_)
  obtain ⟨o1, eo1, h⟩ := z_lt h
  have hw : Wd dC dI A s.heap [wX9 h_me q_me k_me o1] H locs := by rw [eo1]; exact hw
  refine lv_aload_n hx hb dX9_heir_5 rfl (lv_at hl 0 rfl) ?_
  obtain ⟨z2, ez2, h⟩ := z_bd h
  refine xj_i (xrV (As := []) (rest := []) ⟨hx, hb, hml, hown, hts⟩ (m_X9_layLine l dC dI _ h_me q_me k_me o1 z2 ez2) kw1771 kw1768 kw1770 kw98 kw120 hd_X9_layLine ⟨rfl, rfl⟩ rfl rfl ⟨rfl, rfl⟩ hX hK hw [0] (by decide) rfl rfl rfl rfl rfl hl.1 rfl rfl dX9_heir_6) hw hA [0] (by decide) rfl rfl (fun H locs hw => ?_)
  have hw : Wd dC dI A s.heap [wX9 h_me q_me k_me z2.2] H locs := hw
  refine lv_istore_n (lv' := [(2, .int z2.1), (0, .ref h_me), (1, .int p0)]) hx hb dX9_heir_9 rfl hl (by decide) rfl (fun ls hl => ?_)
  refine lv_iload_n hx hb dX9_heir_10 rfl (lv_at hl 2 rfl) ?_
  refine lv_iconst (v := (-1)) hx hb dX9_heir_11 (by decide) ?_
  refine lv_icmp_ne (tgt := 19) hx hb dX9_heir_12 (by decide) (fun c => ?_) (fun c => ?_)
  · have h := z_f h c
    refine lv_iload_n hx hb dX9_heir_19 rfl (lv_at hl 2 rfl) ?_
    refine lv_i2l hx hb dX9_heir_20 rfl ?_
    refine lv_lconst (v := 0) hx hb dX9_heir_21 (by decide) ?_
    refine lv_iload_n hx hb dX9_heir_22 rfl (lv_at hl 0 rfl) ?_
    refine lv_i2l hx hb dX9_heir_23 rfl ?_
    refine lv_lconst (v := 1) hx hb dX9_heir_24 (by decide) ?_
    refine lv_lsub hx hb dX9_heir_25 ?_
    obtain ⟨z3, ez3, h⟩ := z_bd h
    refine xj_i (xrS (As := [.long p0.toInt64, .long (0 : Int64), .long (z2.1.toInt64 - (1 : Int64))]) (rest := []) ⟨hx, hb, hml, hown, hts⟩ (m_X9_in l dC dI _  p0.toInt64 (0 : Int64) (z2.1.toInt64 - (1 : Int64)) z3 ez3) kw1385 kw1383 kw1384 kw120 hd_X9_in ⟨rfl, rfl⟩ rfl rfl ⟨rfl, rfl⟩ hX hK hw [] (by decide) rfl rfl hl.1 rfl rfl dX9_heir_26) hw hA [] (by decide) rfl rfl (fun H locs hw => ?_)
    refine lv_if_eq (tgt := 41) hx hb dX9_heir_29 (by decide) (fun c => ?_) (fun c => ?_)
    · have h := z_t h c
      refine lv_iconst (v := (-1)) hx hb dX9_heir_41 (by decide) ?_
      have hy := Option.some.inj h
      rw [← hQz, ← hy]
      exact xr_i (v := (-1 : Int32)) hx hb hr rfl hlk hK hw dX9_heir_42
    · have h := z_f h c
      refine lv_aload_n hx hb dX9_heir_32 rfl (lv_at hl 1 rfl) ?_
      refine fgX9_51 hx hb hts hown hK hw 0 rfl kw1227 dX9_heir_33 ?_
      refine lv_iload_n hx hb dX9_heir_36 rfl (lv_at hl 2 rfl) ?_
      obtain ⟨g4, h⟩ := z_gd h
      refine faX9_51 hx hb hK hw 0 rfl rfl g4 dX9_heir_37 ?_
      refine lv_goto (tgt := 42) hx hb dX9_heir_38 (by decide) ?_
      have hy := Option.some.inj h
      rw [← hQz, ← hy]
      exact xr_i (v := gA z2.2 51 p0.toNatClampNeg) hx hb hr rfl hlk hK hw dX9_heir_42
  · have h := z_t h c
    refine lv_iload_n hx hb dX9_heir_15 rfl (lv_at hl 0 rfl) ?_
    refine lv_goto (tgt := 42) hx hb dX9_heir_16 (by decide) ?_
    have hy := Option.some.inj h
    rw [← hQz, ← hy]
    exact xr_i (v := z2.1) hx hb hr rfl hlk hK hw dX9_heir_42

def lb_X9_image_23   (rec_23_0 : Int32 × Int32 × Ob → Option (Int32 × Ob)) (v1 : Int32) (v2 : Int32) (o_me : Ob) : Option (Int32 × Ob) :=
  if (5484 : Int32) ≤ v2 then
  (zgd (zin v1 2) <|
  zlt (tA o_me 5 v1.toNatClampNeg (vp_nar .boolean (1 : Int32))) fun o4 =>
  (f_X9_tell o4 (0 : Int32)).bind fun z5 =>
  some (z5.1, z5.2))
  else
  (zgd (zin v2 5484) <|
  zgd (zin (((5484 : Int32) * v1) + v2) 10968) <|
  zlt (tA o_me 4 (((5484 : Int32) * v1) + v2).toNatClampNeg (gA o_me 3 v2.toNatClampNeg)) fun o8 =>
  zlt (v2 + (1 : Int32)) fun x9 =>
  rec_23_0 (v1, x9, o8))
def lp_X9_image_23   : Nat → (Int32 × Int32 × Ob) → Option (Int32 × Ob) := zit (fun rec a => lb_X9_image_23   rec a.1 a.2.1 a.2.2)
def f_X9_image (o_me : Ob) (p0 : Int32) : Option (Int32 × Ob) :=
  zlt (sI o_me 0 (0 : Int32)) fun o1 =>
  (f_X9_in p0.toInt64 (0 : Int64) (1 : Int64)).bind fun z2 =>
  if z2 = (0 : Int32) then
  ((f_X9_tell o1 (-1 : Int32)).bind fun z10 =>
  some (z10.1, z10.2))
  else
  (lp_X9_image_23   zfu (p0, (0 : Int32), o1))
set_option maxHeartbeats 4000000 in
set_option maxRecDepth 100000 in
theorem m_X9_image (l : Launch) (dC : Nat → ClassId) (dI : Nat → Nat → Nat) (sz : Nat) (h_me : Nat) (q_me : Nat → Nat) (k_me : Nat → ClassId) (o_me : Ob) (p0 : Int32) (y : Int32 × Ob) (h : f_X9_image o_me p0 = some y) : CI l yX9_image cX9_image 3 (some .int) ({ frames := 1, cells := 0, slots := 0, locals := 25 } : Room) dC dI sz [.ref h_me, .int p0] [wX9 h_me q_me k_me o_me] [tX9 k_me] y.1 [wX9 h_me q_me k_me y.2] := by
  refine CC_of (by decide) (Nat.le_of_ble_eq_true rfl) ?_
  intro p e s m below meth c A ls hx hb hml hr hlk hnm hown hts hX hK hP hD hA hl
  have hl : lv_has ls 3 [(0, .ref h_me), (1, .int p0)] := hl
  have hown : s.vm.findClass RX9 = some m.cls := hown
  have hw : Wd dC dI A s.heap [wX9 h_me q_me k_me o_me] s.heap [] := ⟨hP, hD, va_S.rf⟩
  generalize hQz : (MQ below (QI dC dI (fun r (_ : Unit) => r = y.1) (fun _ => Jn [wX9 h_me q_me k_me y.2]) (fun _ => Jt [tX9 k_me]) A) ([.ref h_me, .int p0] : List Value).toArray s 0 0 A) = Qz
  clear hP hD hnm
  have lp_23_0 : ∀ (N : Nat), ∀ (v1 : Int32) (v2 : Int32) (o_me : Ob) (H : Heap) (locs : List Loc) (ls : Array Slot), lp_X9_image_23   N (v1, v2, o_me) = some y → Wd dC dI A s.heap [wX9 h_me q_me k_me o_me] H locs → lv_has ls 3 [(0, .ref h_me), (1, .int v1), (2, .int v2)] → W p l e ({ frames := 1, cells := 0, slots := 0, locals := 25 } : Room) s m ([.ref h_me, .int p0] : List Value).toArray below meth c H locs 0 0 Qz (F0 m 23 ls []) := by
    intro N
    induction N with
    | zero =>
      intro v1 v2 o_me H locs ls h hw hl
      exact absurd (show (none : Option (Int32 × Ob)) = some y from h) (by simp)
    | succ N ih =>
      intro v1 v2 o_me H locs ls h hw hl
      have h : lb_X9_image_23   (lp_X9_image_23   N) v1 v2 o_me = some y := h
      unfold lb_X9_image_23 at h
      refine lv_iload_n hx hb dX9_image_23 rfl (lv_at hl 2 rfl) ?_
      refine lv_sipush (v := 5484) hx hb dX9_image_24 (by decide) ?_
      refine lv_icmp_ge (tgt := 54) hx hb dX9_image_27 (by decide) (fun c => ?_) (fun c => ?_)
      · have h := z_t h c
        refine lv_aload_n hx hb dX9_image_54 rfl (lv_at hl 0 rfl) ?_
        refine fgX9_5 hx hb hts hown hK hw 0 rfl kw1181 dX9_image_55 ?_
        refine lv_iload_n hx hb dX9_image_58 rfl (lv_at hl 1 rfl) ?_
        refine lv_iconst (v := 1) hx hb dX9_image_59 (by decide) ?_
        obtain ⟨g3, h⟩ := z_gd h
        refine fbX9_5 hx hb hK hw 0 rfl rfl g3 dX9_image_60 (fun H locs hw => ?_)
        obtain ⟨o4, eo4, h⟩ := z_lt h
        have hw : Wd dC dI A s.heap [wX9 h_me q_me k_me o4] H locs := by rw [eo4]; exact hw
        refine lv_aload_n hx hb dX9_image_61 rfl (lv_at hl 0 rfl) ?_
        refine lv_iconst (v := 0) hx hb dX9_image_62 (by decide) ?_
        obtain ⟨z5, ez5, h⟩ := z_bd h
        refine xj_i (xrV (As := [.int (0 : Int32)]) (rest := []) ⟨hx, hb, hml, hown, hts⟩ (m_X9_tell l dC dI _ h_me q_me k_me o4 (0 : Int32) z5 ez5) kw1374 kw1371 kw1373 kw39 kw120 hd_X9_tell ⟨rfl, rfl⟩ rfl rfl ⟨rfl, rfl⟩ hX hK hw [0] (by decide) rfl rfl rfl rfl rfl hl.1 rfl rfl dX9_image_63) hw hA [0] (by decide) rfl rfl (fun H locs hw => ?_)
        have hw : Wd dC dI A s.heap [wX9 h_me q_me k_me z5.2] H locs := hw
        have hy := Option.some.inj h
        rw [← hQz, ← hy]
        exact xr_i (v := z5.1) hx hb hr rfl hlk hK hw dX9_image_66
      · have h := z_f h c
        refine lv_aload_n hx hb dX9_image_30 rfl (lv_at hl 0 rfl) ?_
        refine fgX9_4 hx hb hts hown hK hw 0 rfl kw1180 dX9_image_31 ?_
        refine lv_sipush (v := 5484) hx hb dX9_image_34 (by decide) ?_
        refine lv_iload_n hx hb dX9_image_37 rfl (lv_at hl 1 rfl) ?_
        refine lv_imul hx hb dX9_image_38 ?_
        refine lv_iload_n hx hb dX9_image_39 rfl (lv_at hl 2 rfl) ?_
        refine lv_iadd hx hb dX9_image_40 ?_
        refine lv_aload_n hx hb dX9_image_41 rfl (lv_at hl 0 rfl) ?_
        refine fgX9_3 hx hb hts hown hK hw 0 rfl kw1179 dX9_image_42 ?_
        refine lv_iload_n hx hb dX9_image_45 rfl (lv_at hl 2 rfl) ?_
        obtain ⟨g6, h⟩ := z_gd h
        refine faX9_3 hx hb hK hw 0 rfl rfl g6 dX9_image_46 ?_
        obtain ⟨g7, h⟩ := z_gd h
        refine fbX9_4 hx hb hK hw 0 rfl rfl g7 dX9_image_47 (fun H locs hw => ?_)
        obtain ⟨o8, eo8, h⟩ := z_lt h
        have hw : Wd dC dI A s.heap [wX9 h_me q_me k_me o8] H locs := by rw [eo8]; exact hw
        obtain ⟨x9, ex9, h⟩ := z_lt h
        refine lv_iinc (v := x9) (lv' := [(2, .int x9), (0, .ref h_me), (1, .int v1)]) hx hb dX9_image_48 hl (k := 2) rfl ((congrArg (v2 + ·) (show Int32.ofInt 1 = (1 : Int32) from by decide)).trans ex9.symm) (by decide) rfl (fun ls hl => ?_)
        refine lv_goto (tgt := 23) hx hb dX9_image_51 (by decide) ?_
        exact ih v1 x9 o8 _ _ _ h hw (lv_sub hl [1, 2, 0] rfl)
  unfold f_X9_image at h
  refine lv_aload_n hx hb dX9_image_0 rfl (lv_at hl 0 rfl) ?_
  refine lv_iconst (v := 0) hx hb dX9_image_1 (by decide) ?_
  refine fpX9_0 hx hb hts hown hK hw 0 rfl kw1176 dX9_image_2 (fun H locs hw => ?_)
  obtain ⟨o1, eo1, h⟩ := z_lt h
  have hw : Wd dC dI A s.heap [wX9 h_me q_me k_me o1] H locs := by rw [eo1]; exact hw
  refine lv_iload_n hx hb dX9_image_5 rfl (lv_at hl 1 rfl) ?_
  refine lv_i2l hx hb dX9_image_6 rfl ?_
  refine lv_lconst (v := 0) hx hb dX9_image_7 (by decide) ?_
  refine lv_lconst (v := 1) hx hb dX9_image_8 (by decide) ?_
  obtain ⟨z2, ez2, h⟩ := z_bd h
  refine xj_i (xrS (As := [.long p0.toInt64, .long (0 : Int64), .long (1 : Int64)]) (rest := []) ⟨hx, hb, hml, hown, hts⟩ (m_X9_in l dC dI _  p0.toInt64 (0 : Int64) (1 : Int64) z2 ez2) kw1385 kw1383 kw1384 kw120 hd_X9_in ⟨rfl, rfl⟩ rfl rfl ⟨rfl, rfl⟩ hX hK hw [] (by decide) rfl rfl hl.1 rfl rfl dX9_image_9) hw hA [] (by decide) rfl rfl (fun H locs hw => ?_)
  refine lv_if_ne (tgt := 21) hx hb dX9_image_12 (by decide) (fun c => ?_) (fun c => ?_)
  · have h := z_f h c
    refine lv_iconst (v := 0) hx hb dX9_image_21 (by decide) ?_
    refine lv_istore_n (lv' := [(2, .int (0 : Int32)), (0, .ref h_me), (1, .int p0)]) hx hb dX9_image_22 rfl hl (by decide) rfl (fun ls hl => ?_)
    exact lp_23_0  zfu p0 (0 : Int32) o1 _ _ _ h hw (lv_sub hl [1, 2, 0] rfl)
  · have h := z_t h c
    refine lv_aload_n hx hb dX9_image_15 rfl (lv_at hl 0 rfl) ?_
    refine lv_iconst (v := (-1)) hx hb dX9_image_16 (by decide) ?_
    obtain ⟨z10, ez10, h⟩ := z_bd h
    refine xj_i (xrV (As := [.int (-1 : Int32)]) (rest := []) ⟨hx, hb, hml, hown, hts⟩ (m_X9_tell l dC dI _ h_me q_me k_me o1 (-1 : Int32) z10 ez10) kw1374 kw1371 kw1373 kw39 kw120 hd_X9_tell ⟨rfl, rfl⟩ rfl rfl ⟨rfl, rfl⟩ hX hK hw [0] (by decide) rfl rfl rfl rfl rfl hl.1 rfl rfl dX9_image_17) hw hA [0] (by decide) rfl rfl (fun H locs hw => ?_)
    have hw : Wd dC dI A s.heap [wX9 h_me q_me k_me z10.2] H locs := hw
    have hy := Option.some.inj h
    rw [← hQz, ← hy]
    exact xr_i (v := z10.1) hx hb hr rfl hlk hK hw dX9_image_20

