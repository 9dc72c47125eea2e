def bk_X9_must_24   (o_me : Ob) : Option (Ob) :=
  if (gI o_me 19) = (0 : Int32) then
  ((f_X9_next o_me).bind fun z1 =>
  some z1)
  else
  (some o_me)
def f_X9_must (o_me : Ob) (p0 : Int32) : Option (Ob) :=
  if (gI o_me 19) = (0 : Int32) then
  (if p0 = (0 : Int32) then
  (zlt (sI o_me 19 (1 : Int32)) fun o2 =>
  zlt (sI o2 18 (gI o2 14)) fun o3 =>
  bk_X9_must_24   o3)
  else
  (bk_X9_must_24   o_me))
  else
  (bk_X9_must_24   o_me)
set_option maxHeartbeats 4000000 in
set_option maxRecDepth 100000 in
theorem m_X9_must (l : Launch) (dC : Nat → ClassId) (dI : Nat → Nat → Nat) (sz : Nat) (h_me : Nat) (q_me : Nat → Nat) (k_me : Nat → ClassId) (o_me : Ob) (p0 : Int32) (y : Ob) (h : f_X9_must o_me p0 = some y) : CV l yX9_must cX9_must 2 none ({ frames := 2, cells := 0, slots := 0, locals := 40 } : Room) dC dI sz [.ref h_me, .int p0] [wX9 h_me q_me k_me o_me] [tX9 k_me] [wX9 h_me q_me k_me y] := by
  refine CC_of (by decide) (Nat.le_of_ble_eq_true rfl) ?_
  intro p e s m below meth c A ls hx hb hml hr hlk hnm hown hts hX hK hP hD hA hl
  have hl : lv_has ls 2 [(0, .ref h_me), (1, .int p0)] := hl
  have hown : s.vm.findClass RX9 = some m.cls := hown
  have hw : Wd dC dI A s.heap [wX9 h_me q_me k_me o_me] s.heap [] := ⟨hP, hD, va_S.rf⟩
  generalize hQz : (MQ below (QV dC dI (fun (_ : Unit) => True) (fun _ => Jn [wX9 h_me q_me k_me y]) (fun _ => Jt [tX9 k_me]) A) ([.ref h_me, .int p0] : List Value).toArray s 0 0 A) = Qz
  clear hP hD hnm
  have bk_24_0 : ∀ (o_me : Ob) (H : Heap) (locs : List Loc) (ls : Array Slot), bk_X9_must_24   o_me = some y → Wd dC dI A s.heap [wX9 h_me q_me k_me o_me] H locs → lv_has ls 2 [(0, .ref h_me)] → W p l e ({ frames := 2, cells := 0, slots := 0, locals := 40 } : Room) s m ([.ref h_me, .int p0] : List Value).toArray below meth c H locs 0 0 Qz (F0 m 24 ls []) := by
    intro o_me H locs ls h hw hl
    unfold bk_X9_must_24 at h
    refine lv_aload_n hx hb dX9_must_24 rfl (lv_at hl 0 rfl) ?_
    refine fgX9_19 hx hb hts hown hK hw 0 rfl kw1195 dX9_must_25 ?_
    refine lv_if_ne (tgt := 35) hx hb dX9_must_28 (by decide) (fun c => ?_) (fun c => ?_)
    · have h := z_f h c
      have hy := Option.some.inj h
      rw [← hQz, ← hy]
      exact xr_v hx hb hr hlk hK hw dX9_must_35
    · have h := z_t h c
      refine lv_aload_n hx hb dX9_must_31 rfl (lv_at hl 0 rfl) ?_
      obtain ⟨z1, ez1, h⟩ := z_bd h
      refine xj_v (xrV (As := []) (rest := []) ⟨hx, hb, hml, hown, hts⟩ (m_X9_next l dC dI _ h_me q_me k_me o_me z1 ez1) kw1512 kw1509 kw1511 kw55 kw120 hd_X9_next ⟨rfl, rfl⟩ rfl rfl ⟨rfl, rfl⟩ hX hK hw [0] (by decide) rfl rfl rfl rfl rfl hl.1 rfl rfl dX9_must_32) hw hA [0] (by decide) rfl rfl (fun H locs hw => ?_)
      have hw : Wd dC dI A s.heap [wX9 h_me q_me k_me z1] H locs := hw
      have hy := Option.some.inj h
      rw [← hQz, ← hy]
      exact xr_v hx hb hr hlk hK hw dX9_must_35
  unfold f_X9_must at h
  refine lv_aload_n hx hb dX9_must_0 rfl (lv_at hl 0 rfl) ?_
  refine fgX9_19 hx hb hts hown hK hw 0 rfl kw1195 dX9_must_1 ?_
  refine lv_if_ne (tgt := 24) hx hb dX9_must_4 (by decide) (fun c => ?_) (fun c => ?_)
  · have h := z_f h c
    exact bk_24_0  o_me _ _ _ h hw (lv_sub hl [0] rfl)
  · have h := z_t h c
    refine lv_iload_n hx hb dX9_must_7 rfl (lv_at hl 1 rfl) ?_
    refine lv_if_ne (tgt := 24) hx hb dX9_must_8 (by decide) (fun c => ?_) (fun c => ?_)
    · have h := z_f h c
      exact bk_24_0  o_me _ _ _ h hw (lv_sub hl [0] rfl)
    · have h := z_t h c
      refine lv_aload_n hx hb dX9_must_11 rfl (lv_at hl 0 rfl) ?_
      refine lv_iconst (v := 1) hx hb dX9_must_12 (by decide) ?_
      refine fpX9_19 hx hb hts hown hK hw 0 rfl kw1195 (by decide) dX9_must_13 (fun H locs hw => ?_)
      obtain ⟨o2, eo2, h⟩ := z_lt h
      have hw : Wd dC dI A s.heap [wX9 h_me q_me k_me o2] H locs := by rw [eo2]; exact hw
      refine lv_aload_n hx hb dX9_must_16 rfl (lv_at hl 0 rfl) ?_
      refine lv_aload_n hx hb dX9_must_17 rfl (lv_at hl 0 rfl) ?_
      refine fgX9_14 hx hb hts hown hK hw 0 rfl kw1190 dX9_must_18 ?_
      refine fpX9_18 hx hb hts hown hK hw 0 rfl kw1194 dX9_must_21 (fun H locs hw => ?_)
      obtain ⟨o3, eo3, h⟩ := z_lt h
      have hw : Wd dC dI A s.heap [wX9 h_me q_me k_me o3] H locs := by rw [eo3]; exact hw
      exact bk_24_0  o3 _ _ _ h hw (lv_sub hl [0] rfl)

def f_X9_binds (p0 : Int32) : Option (Int32) :=
  if p0 < (31 : Int32) then
  (if p0 = (30 : Int32) then
  (some (1 : Int32))
  else
  (if p0 = (29 : Int32) then
  (some (2 : Int32))
  else
  (if p0 = (28 : Int32) then
  (some (3 : Int32))
  else
  (if p0 < (25 : Int32) then
  (if p0 < (22 : Int32) then
  (some (5 : Int32))
  else
  (some (6 : Int32)))
  else
  (some (4 : Int32))))))
  else
  (some (0 : Int32))
set_option maxHeartbeats 4000000 in
set_option maxRecDepth 100000 in
theorem m_X9_binds (l : Launch) (dC : Nat → ClassId) (dI : Nat → Nat → Nat) (sz : Nat)  (p0 : Int32) (y : Int32) (h : f_X9_binds p0 = some y) : CI l yX9_binds cX9_binds 1 (some .int) ({ frames := 0, cells := 0, slots := 0, locals := 0 } : Room) dC dI sz [.int p0] [] [] y [] := by
  refine CC_of (by decide) (Nat.le_of_ble_eq_true rfl) ?_
  intro p e s m below meth c A ls hx hb hml hr hlk hnm hown hts hX hK hP hD hA hl
  have hl : lv_has ls 1 [(0, .int p0)] := hl
  have hown : s.vm.findClass RX9 = some m.cls := hown
  have hw : Wd dC dI A s.heap [] s.heap [] := ⟨hP, hD, va_S.rf⟩
  generalize hQz : (MQ below (QI dC dI (fun r (_ : Unit) => r = y) (fun _ => Jn []) (fun _ => Jt []) A) ([.int p0] : List Value).toArray s 0 0 A) = Qz
  clear hP hD hnm
  unfold f_X9_binds at h
  refine lv_iload_n hx hb dX9_binds_0 rfl (lv_at hl 0 rfl) ?_
  refine lv_bipush (v := 31) hx hb dX9_binds_1 (by decide) ?_
  refine lv_icmp_lt (tgt := 10) hx hb dX9_binds_3 (by decide) (fun c => ?_) (fun c => ?_)
  · have h := z_t h c
    refine lv_iload_n hx hb dX9_binds_10 rfl (lv_at hl 0 rfl) ?_
    refine lv_bipush (v := 30) hx hb dX9_binds_11 (by decide) ?_
    refine lv_icmp_ne (tgt := 20) hx hb dX9_binds_13 (by decide) (fun c => ?_) (fun c => ?_)
    · have h := z_f h c
      refine lv_iload_n hx hb dX9_binds_20 rfl (lv_at hl 0 rfl) ?_
      refine lv_bipush (v := 29) hx hb dX9_binds_21 (by decide) ?_
      refine lv_icmp_ne (tgt := 30) hx hb dX9_binds_23 (by decide) (fun c => ?_) (fun c => ?_)
      · have h := z_f h c
        refine lv_iload_n hx hb dX9_binds_30 rfl (lv_at hl 0 rfl) ?_
        refine lv_bipush (v := 28) hx hb dX9_binds_31 (by decide) ?_
        refine lv_icmp_ne (tgt := 40) hx hb dX9_binds_33 (by decide) (fun c => ?_) (fun c => ?_)
        · have h := z_f h c
          refine lv_iload_n hx hb dX9_binds_40 rfl (lv_at hl 0 rfl) ?_
          refine lv_bipush (v := 25) hx hb dX9_binds_41 (by decide) ?_
          refine lv_icmp_lt (tgt := 50) hx hb dX9_binds_43 (by decide) (fun c => ?_) (fun c => ?_)
          · have h := z_t h c
            refine lv_iload_n hx hb dX9_binds_50 rfl (lv_at hl 0 rfl) ?_
            refine lv_bipush (v := 22) hx hb dX9_binds_51 (by decide) ?_
            refine lv_icmp_lt (tgt := 61) hx hb dX9_binds_53 (by decide) (fun c => ?_) (fun c => ?_)
            · have h := z_t h c
              refine lv_iconst (v := 5) hx hb dX9_binds_61 (by decide) ?_
              have hy := Option.some.inj h
              rw [← hQz, ← hy]
              exact xr_i (v := (5 : Int32)) hx hb hr rfl hlk hK hw dX9_binds_62
            · have h := z_f h c
              refine lv_bipush (v := 6) hx hb dX9_binds_56 (by decide) ?_
              refine lv_goto (tgt := 62) hx hb dX9_binds_58 (by decide) ?_
              have hy := Option.some.inj h
              rw [← hQz, ← hy]
              exact xr_i (v := (6 : Int32)) hx hb hr rfl hlk hK hw dX9_binds_62
          · have h := z_f h c
            refine lv_iconst (v := 4) hx hb dX9_binds_46 (by decide) ?_
            refine lv_goto (tgt := 62) hx hb dX9_binds_47 (by decide) ?_
            have hy := Option.some.inj h
            rw [← hQz, ← hy]
            exact xr_i (v := (4 : Int32)) hx hb hr rfl hlk hK hw dX9_binds_62
        · have h := z_t h c
          refine lv_iconst (v := 3) hx hb dX9_binds_36 (by decide) ?_
          refine lv_goto (tgt := 62) hx hb dX9_binds_37 (by decide) ?_
          have hy := Option.some.inj h
          rw [← hQz, ← hy]
          exact xr_i (v := (3 : Int32)) hx hb hr rfl hlk hK hw dX9_binds_62
      · have h := z_t h c
        refine lv_iconst (v := 2) hx hb dX9_binds_26 (by decide) ?_
        refine lv_goto (tgt := 62) hx hb dX9_binds_27 (by decide) ?_
        have hy := Option.some.inj h
        rw [← hQz, ← hy]
        exact xr_i (v := (2 : Int32)) hx hb hr rfl hlk hK hw dX9_binds_62
    · have h := z_t h c
      refine lv_iconst (v := 1) hx hb dX9_binds_16 (by decide) ?_
      refine lv_goto (tgt := 62) hx hb dX9_binds_17 (by decide) ?_
      have hy := Option.some.inj h
      rw [← hQz, ← hy]
      exact xr_i (v := (1 : Int32)) hx hb hr rfl hlk hK hw dX9_binds_62
  · have h := z_f h c
    refine lv_iconst (v := 0) hx hb dX9_binds_6 (by decide) ?_
    refine lv_goto (tgt := 62) hx hb dX9_binds_7 (by decide) ?_
    have hy := Option.some.inj h
    rw [← hQz, ← hy]
    exact xr_i (v := (0 : Int32)) hx hb hr rfl hlk hK hw dX9_binds_62

def f_X9_emit (o_me : Ob) (p0 : Int32) (p1 : Int32) : Option (Ob) :=
  zgd (zin (gI o_me 23) 400) <|
  zlt (tA o_me 24 (gI o_me 23).toNatClampNeg p0) fun o2 =>
  zgd (zin (gI o2 23) 400) <|
  zlt (tA o2 25 (gI o2 23).toNatClampNeg p1) fun o4 =>
  zlt (sI o4 23 ((gI o4 23) + (1 : Int32))) fun o5 =>
  some o5
set_option maxHeartbeats 4000000 in
set_option maxRecDepth 100000 in
theorem m_X9_emit (l : Launch) (dC : Nat → ClassId) (dI : Nat → Nat → Nat) (sz : Nat) (h_me : Nat) (q_me : Nat → Nat) (k_me : Nat → ClassId) (o_me : Ob) (p0 : Int32) (p1 : Int32) (y : Ob) (h : f_X9_emit o_me p0 p1 = some y) : CV l yX9_emit cX9_emit 3 none ({ frames := 0, cells := 0, slots := 0, locals := 0 } : Room) dC dI sz [.ref h_me, .int p0, .int p1] [wX9 h_me q_me k_me o_me] [tX9 k_me] [wX9 h_me q_me k_me y] := by
  refine CC_of (by decide) (Nat.le_of_ble_eq_true rfl) ?_
  intro p e s m below meth c A ls hx hb hml hr hlk hnm hown hts hX hK hP hD hA hl
  have hl : lv_has ls 3 [(0, .ref h_me), (1, .int p0), (2, .int p1)] := hl
  have hown : s.vm.findClass RX9 = some m.cls := hown
  have hw : Wd dC dI A s.heap [wX9 h_me q_me k_me o_me] s.heap [] := ⟨hP, hD, va_S.rf⟩
  generalize hQz : (MQ below (QV dC dI (fun (_ : Unit) => True) (fun _ => Jn [wX9 h_me q_me k_me y]) (fun _ => Jt [tX9 k_me]) A) ([.ref h_me, .int p0, .int p1] : List Value).toArray s 0 0 A) = Qz
  clear hP hD hnm
  unfold f_X9_emit at h
  refine lv_aload_n hx hb dX9_emit_0 rfl (lv_at hl 0 rfl) ?_
  refine fgX9_24 hx hb hts hown hK hw 0 rfl kw1200 dX9_emit_1 ?_
  refine lv_aload_n hx hb dX9_emit_4 rfl (lv_at hl 0 rfl) ?_
  refine fgX9_23 hx hb hts hown hK hw 0 rfl kw1199 dX9_emit_5 ?_
  refine lv_iload_n hx hb dX9_emit_8 rfl (lv_at hl 1 rfl) ?_
  obtain ⟨g1, h⟩ := z_gd h
  refine fbX9_24 hx hb hK hw 0 rfl rfl g1 dX9_emit_9 (fun H locs hw => ?_)
  obtain ⟨o2, eo2, h⟩ := z_lt h
  have hw : Wd dC dI A s.heap [wX9 h_me q_me k_me o2] H locs := by rw [eo2]; exact hw
  refine lv_aload_n hx hb dX9_emit_10 rfl (lv_at hl 0 rfl) ?_
  refine fgX9_25 hx hb hts hown hK hw 0 rfl kw1201 dX9_emit_11 ?_
  refine lv_aload_n hx hb dX9_emit_14 rfl (lv_at hl 0 rfl) ?_
  refine fgX9_23 hx hb hts hown hK hw 0 rfl kw1199 dX9_emit_15 ?_
  refine lv_iload_n hx hb dX9_emit_18 rfl (lv_at hl 2 rfl) ?_
  obtain ⟨g3, h⟩ := z_gd h
  refine fbX9_25 hx hb hK hw 0 rfl rfl g3 dX9_emit_19 (fun H locs hw => ?_)
  obtain ⟨o4, eo4, h⟩ := z_lt h
  have hw : Wd dC dI A s.heap [wX9 h_me q_me k_me o4] H locs := by rw [eo4]; exact hw
  refine lv_aload_n hx hb dX9_emit_20 rfl (lv_at hl 0 rfl) ?_
  refine lv_dup hx hb dX9_emit_21 rfl ?_
  refine fgX9_23 hx hb hts hown hK hw 0 rfl kw1199 dX9_emit_22 ?_
  refine lv_iconst (v := 1) hx hb dX9_emit_25 (by decide) ?_
  refine lv_iadd hx hb dX9_emit_26 ?_
  refine fpX9_23 hx hb hts hown hK hw 0 rfl kw1199 dX9_emit_27 (fun H locs hw => ?_)
  obtain ⟨o5, eo5, h⟩ := z_lt h
  have hw : Wd dC dI A s.heap [wX9 h_me q_me k_me o5] H locs := by rw [eo5]; exact hw
  have hy := Option.some.inj h
  rw [← hQz, ← hy]
  exact xr_v hx hb hr hlk hK hw dX9_emit_30

def bk_X9_settle_63  (rec_0_0 : Int32 × Ob → Option (Ob)) (v1 : Int32) (o_me : Ob) : Option (Ob) :=
  zgd (zin (gI o_me 29) 400) <|
  zgd (zin (gA o_me 28 (gI o_me 29).toNatClampNeg) 400) <|
  zlt (tA o_me 25 (gA o_me 28 (gI o_me 29).toNatClampNeg).toNatClampNeg (gI o_me 23)) fun o7 =>
  rec_0_0 (v1, o7)
def lb_X9_settle_0   (rec_0_0 : Int32 × Ob → Option (Ob)) (v1 : Int32) (o_me : Ob) : Option (Ob) :=
  if (gI o_me 29) ≤ (0 : Int32) then
  (some o_me)
  else
  (zgd (zin ((gI o_me 29) - (1 : Int32)) 400) <|
  (f_X9_binds (gA o_me 27 ((gI o_me 29) - (1 : Int32)).toNatClampNeg)).bind fun z2 =>
  if z2 < v1 then
  (some o_me)
  else
  (zlt (sI o_me 29 ((gI o_me 29) - (1 : Int32))) fun o3 =>
  zgd (zin (gI o3 29) 400) <|
  if (gA o3 27 (gI o3 29).toNatClampNeg) = (29 : Int32) then
  (bk_X9_settle_63  rec_0_0 v1 o3)
  else
  (zgd (zin (gI o3 29) 400) <|
  if (gA o3 27 (gI o3 29).toNatClampNeg) = (30 : Int32) then
  (bk_X9_settle_63  rec_0_0 v1 o3)
  else
  (zgd (zin (gI o3 29) 400) <|
  (f_X9_emit o3 (gA o3 27 (gI o3 29).toNatClampNeg) (0 : Int32)).bind fun z10 =>
  rec_0_0 (v1, z10)))))
def lp_X9_settle_0   : Nat → (Int32 × Ob) → Option (Ob) := zit (fun rec a => lb_X9_settle_0   rec a.1 a.2)
def f_X9_settle (o_me : Ob) (p0 : Int32) : Option (Ob) :=
  lp_X9_settle_0   zfu (p0, o_me)
set_option maxHeartbeats 4000000 in
set_option maxRecDepth 100000 in
theorem m_X9_settle (l : Launch) (dC : Nat → ClassId) (dI : Nat → Nat → Nat) (sz : Nat) (h_me : Nat) (q_me : Nat → Nat) (k_me : Nat → ClassId) (o_me : Ob) (p0 : Int32) (y : Ob) (h : f_X9_settle o_me p0 = some y) : CV l yX9_settle cX9_settle 2 none ({ frames := 1, cells := 0, slots := 0, locals := 22 } : Room) dC dI sz [.ref h_me, .int p0] [wX9 h_me q_me k_me o_me] [tX9 k_me] [wX9 h_me q_me k_me y] := by
  refine CC_of (by decide) (Nat.le_of_ble_eq_true rfl) ?_
  intro p e s m below meth c A ls hx hb hml hr hlk hnm hown hts hX hK hP hD hA hl
  have hl : lv_has ls 2 [(0, .ref h_me), (1, .int p0)] := hl
  have hown : s.vm.findClass RX9 = some m.cls := hown
  have hw : Wd dC dI A s.heap [wX9 h_me q_me k_me o_me] s.heap [] := ⟨hP, hD, va_S.rf⟩
  generalize hQz : (MQ below (QV dC dI (fun (_ : Unit) => True) (fun _ => Jn [wX9 h_me q_me k_me y]) (fun _ => Jt [tX9 k_me]) A) ([.ref h_me, .int p0] : List Value).toArray s 0 0 A) = Qz
  clear hP hD hnm
  have bk_63_1 : ∀ (rec_0_0 : Int32 × Ob → Option (Ob)) (hrec_0_0 : ∀ (v1 : Int32) (o_me : Ob) (H : Heap) (locs : List Loc) (ls : Array Slot), rec_0_0 (v1, o_me) = some y → Wd dC dI A s.heap [wX9 h_me q_me k_me o_me] H locs → lv_has ls 2 [(0, .ref h_me), (1, .int v1)] → W p l e ({ frames := 1, cells := 0, slots := 0, locals := 22 } : Room) s m ([.ref h_me, .int p0] : List Value).toArray below meth c H locs 0 0 Qz (F0 m 0 ls [])), ∀ (v1 : Int32) (o_me : Ob) (H : Heap) (locs : List Loc) (ls : Array Slot), bk_X9_settle_63  rec_0_0 v1 o_me = some y → Wd dC dI A s.heap [wX9 h_me q_me k_me o_me] H locs → lv_has ls 2 [(0, .ref h_me), (1, .int v1)] → W p l e ({ frames := 1, cells := 0, slots := 0, locals := 22 } : Room) s m ([.ref h_me, .int p0] : List Value).toArray below meth c H locs 0 0 Qz (F0 m 63 ls []) := by
    intro rec_0_0 hrec_0_0
    intro v1 o_me H locs ls h hw hl
    unfold bk_X9_settle_63 at h
    refine lv_aload_n hx hb dX9_settle_63 rfl (lv_at hl 0 rfl) ?_
    refine fgX9_25 hx hb hts hown hK hw 0 rfl kw1201 dX9_settle_64 ?_
    refine lv_aload_n hx hb dX9_settle_67 rfl (lv_at hl 0 rfl) ?_
    refine fgX9_28 hx hb hts hown hK hw 0 rfl kw1204 dX9_settle_68 ?_
    refine lv_aload_n hx hb dX9_settle_71 rfl (lv_at hl 0 rfl) ?_
    refine fgX9_29 hx hb hts hown hK hw 0 rfl kw1205 dX9_settle_72 ?_
    obtain ⟨g5, h⟩ := z_gd h
    refine faX9_28 hx hb hK hw 0 rfl rfl g5 dX9_settle_75 ?_
    refine lv_aload_n hx hb dX9_settle_76 rfl (lv_at hl 0 rfl) ?_
    refine fgX9_23 hx hb hts hown hK hw 0 rfl kw1199 dX9_settle_77 ?_
    obtain ⟨g6, h⟩ := z_gd h
    refine fbX9_25 hx hb hK hw 0 rfl rfl g6 dX9_settle_80 (fun H locs hw => ?_)
    obtain ⟨o7, eo7, h⟩ := z_lt h
    have hw : Wd dC dI A s.heap [wX9 h_me q_me k_me o7] H locs := by rw [eo7]; exact hw
    refine lv_goto (tgt := 0) hx hb dX9_settle_81 (by decide) ?_
    exact hrec_0_0 v1 o7 _ _ _ h hw (lv_sub hl [0, 1] rfl)
  have lp_0_0 : ∀ (N : Nat), ∀ (v1 : Int32) (o_me : Ob) (H : Heap) (locs : List Loc) (ls : Array Slot), lp_X9_settle_0   N (v1, o_me) = some y → Wd dC dI A s.heap [wX9 h_me q_me k_me o_me] H locs → lv_has ls 2 [(0, .ref h_me), (1, .int v1)] → W p l e ({ frames := 1, cells := 0, slots := 0, locals := 22 } : Room) s m ([.ref h_me, .int p0] : List Value).toArray below meth c H locs 0 0 Qz (F0 m 0 ls []) := by
    intro N
    induction N with
    | zero =>
      intro v1 o_me H locs ls h hw hl
      exact absurd (show (none : Option (Ob)) = some y from h) (by simp)
    | succ N ih =>
      intro v1 o_me H locs ls h hw hl
      have h : lb_X9_settle_0   (lp_X9_settle_0   N) v1 o_me = some y := h
      unfold lb_X9_settle_0 at h
      refine lv_aload_n hx hb dX9_settle_0 rfl (lv_at hl 0 rfl) ?_
      refine fgX9_29 hx hb hts hown hK hw 0 rfl kw1205 dX9_settle_1 ?_
      refine lv_if_le (tgt := 101) hx hb dX9_settle_4 (by decide) (fun c => ?_) (fun c => ?_)
      · have h := z_t h c
        have hy := Option.some.inj h
        rw [← hQz, ← hy]
        exact xr_v hx hb hr hlk hK hw dX9_settle_101
      · have h := z_f h c
        refine lv_aload_n hx hb dX9_settle_7 rfl (lv_at hl 0 rfl) ?_
        refine fgX9_27 hx hb hts hown hK hw 0 rfl kw1203 dX9_settle_8 ?_
        refine lv_aload_n hx hb dX9_settle_11 rfl (lv_at hl 0 rfl) ?_
        refine fgX9_29 hx hb hts hown hK hw 0 rfl kw1205 dX9_settle_12 ?_
        refine lv_iconst (v := 1) hx hb dX9_settle_15 (by decide) ?_
        refine lv_isub hx hb dX9_settle_16 ?_
        obtain ⟨g1, h⟩ := z_gd h
        refine faX9_27 hx hb hK hw 0 rfl rfl g1 dX9_settle_17 ?_
        obtain ⟨z2, ez2, h⟩ := z_bd h
        refine xj_i (xrS (As := [.int (gA o_me 27 ((gI o_me 29) - (1 : Int32)).toNatClampNeg)]) (rest := []) ⟨hx, hb, hml, hown, hts⟩ (m_X9_binds l dC dI _  (gA o_me 27 ((gI o_me 29) - (1 : Int32)).toNatClampNeg) z2 ez2) kw1588 kw1586 kw1587 kw120 hd_X9_binds ⟨rfl, rfl⟩ rfl rfl ⟨rfl, rfl⟩ hX hK hw [] (by decide) rfl rfl hl.1 rfl rfl dX9_settle_18) hw hA [] (by decide) rfl rfl (fun H locs hw => ?_)
        refine lv_iload_n hx hb dX9_settle_21 rfl (lv_at hl 1 rfl) ?_
        refine lv_icmp_lt (tgt := 101) hx hb dX9_settle_22 (by decide) (fun c => ?_) (fun c => ?_)
        · have h := z_t h c
          have hy := Option.some.inj h
          rw [← hQz, ← hy]
          exact xr_v hx hb hr hlk hK hw dX9_settle_101
        · have h := z_f h c
          refine lv_aload_n hx hb dX9_settle_25 rfl (lv_at hl 0 rfl) ?_
          refine lv_dup hx hb dX9_settle_26 rfl ?_
          refine fgX9_29 hx hb hts hown hK hw 0 rfl kw1205 dX9_settle_27 ?_
          refine lv_iconst (v := 1) hx hb dX9_settle_30 (by decide) ?_
          refine lv_isub hx hb dX9_settle_31 ?_
          refine fpX9_29 hx hb hts hown hK hw 0 rfl kw1205 dX9_settle_32 (fun H locs hw => ?_)
          obtain ⟨o3, eo3, h⟩ := z_lt h
          have hw : Wd dC dI A s.heap [wX9 h_me q_me k_me o3] H locs := by rw [eo3]; exact hw
          refine lv_aload_n hx hb dX9_settle_35 rfl (lv_at hl 0 rfl) ?_
          refine fgX9_27 hx hb hts hown hK hw 0 rfl kw1203 dX9_settle_36 ?_
          refine lv_aload_n hx hb dX9_settle_39 rfl (lv_at hl 0 rfl) ?_
          refine fgX9_29 hx hb hts hown hK hw 0 rfl kw1205 dX9_settle_40 ?_
          obtain ⟨g4, h⟩ := z_gd h
          refine faX9_27 hx hb hK hw 0 rfl rfl g4 dX9_settle_43 ?_
          refine lv_bipush (v := 29) hx hb dX9_settle_44 (by decide) ?_
          refine lv_icmp_eq (tgt := 63) hx hb dX9_settle_46 (by decide) (fun c => ?_) (fun c => ?_)
          · have h := z_t h c
            exact bk_63_1 (lp_X9_settle_0   N) ih v1 o3 _ _ _ h hw (lv_sub hl [0, 1] rfl)
          · have h := z_f h c
            refine lv_aload_n hx hb dX9_settle_49 rfl (lv_at hl 0 rfl) ?_
            refine fgX9_27 hx hb hts hown hK hw 0 rfl kw1203 dX9_settle_50 ?_
            refine lv_aload_n hx hb dX9_settle_53 rfl (lv_at hl 0 rfl) ?_
            refine fgX9_29 hx hb hts hown hK hw 0 rfl kw1205 dX9_settle_54 ?_
            obtain ⟨g8, h⟩ := z_gd h
            refine faX9_27 hx hb hK hw 0 rfl rfl g8 dX9_settle_57 ?_
            refine lv_bipush (v := 30) hx hb dX9_settle_58 (by decide) ?_
            refine lv_icmp_ne (tgt := 84) hx hb dX9_settle_60 (by decide) (fun c => ?_) (fun c => ?_)
            · have h := z_f h c
              refine lv_aload_n hx hb dX9_settle_84 rfl (lv_at hl 0 rfl) ?_
              refine lv_aload_n hx hb dX9_settle_85 rfl (lv_at hl 0 rfl) ?_
              refine fgX9_27 hx hb hts hown hK hw 0 rfl kw1203 dX9_settle_86 ?_
              refine lv_aload_n hx hb dX9_settle_89 rfl (lv_at hl 0 rfl) ?_
              refine fgX9_29 hx hb hts hown hK hw 0 rfl kw1205 dX9_settle_90 ?_
              obtain ⟨g9, h⟩ := z_gd h
              refine faX9_27 hx hb hK hw 0 rfl rfl g9 dX9_settle_93 ?_
              refine lv_iconst (v := 0) hx hb dX9_settle_94 (by decide) ?_
              obtain ⟨z10, ez10, h⟩ := z_bd h
              refine xj_v (xrV (As := [.int (gA o3 27 (gI o3 29).toNatClampNeg), .int (0 : Int32)]) (rest := []) ⟨hx, hb, hml, hown, hts⟩ (m_X9_emit l dC dI _ h_me q_me k_me o3 (gA o3 27 (gI o3 29).toNatClampNeg) (0 : Int32) z10 ez10) kw1576 kw1573 kw1575 kw68 kw120 hd_X9_emit ⟨rfl, rfl⟩ rfl rfl ⟨rfl, rfl⟩ hX hK hw [0] (by decide) rfl rfl rfl rfl rfl hl.1 rfl rfl dX9_settle_95) hw hA [0] (by decide) rfl rfl (fun H locs hw => ?_)
              have hw : Wd dC dI A s.heap [wX9 h_me q_me k_me z10] H locs := hw
              refine lv_goto (tgt := 0) hx hb dX9_settle_98 (by decide) ?_
              exact ih v1 z10 _ _ _ h hw (lv_sub hl [0, 1] rfl)
            · have h := z_t h c
              exact bk_63_1 (lp_X9_settle_0   N) ih v1 o3 _ _ _ h hw (lv_sub hl [0, 1] rfl)
  unfold f_X9_settle at h
  exact lp_0_0  zfu p0 o_me _ _ _ h hw (lv_sub hl [0, 1] rfl)

def f_X9_push (o_me : Ob) (p0 : Int32) (p1 : Int32) : Option (Ob) :=
  zgd (zin (gI o_me 29) 400) <|
  zlt (tA o_me 27 (gI o_me 29).toNatClampNeg p0) fun o2 =>
  zgd (zin (gI o2 29) 400) <|
  zlt (tA o2 28 (gI o2 29).toNatClampNeg p1) fun o4 =>
  zlt (sI o4 29 ((gI o4 29) + (1 : Int32))) fun o5 =>
  some o5
set_option maxHeartbeats 4000000 in
set_option maxRecDepth 100000 in
theorem m_X9_push (l : Launch) (dC : Nat → ClassId) (dI : Nat → Nat → Nat) (sz : Nat) (h_me : Nat) (q_me : Nat → Nat) (k_me : Nat → ClassId) (o_me : Ob) (p0 : Int32) (p1 : Int32) (y : Ob) (h : f_X9_push o_me p0 p1 = some y) : CV l yX9_push cX9_push 3 none ({ frames := 0, cells := 0, slots := 0, locals := 0 } : Room) dC dI sz [.ref h_me, .int p0, .int p1] [wX9 h_me q_me k_me o_me] [tX9 k_me] [wX9 h_me q_me k_me y] := by
  refine CC_of (by decide) (Nat.le_of_ble_eq_true rfl) ?_
  intro p e s m below meth c A ls hx hb hml hr hlk hnm hown hts hX hK hP hD hA hl
  have hl : lv_has ls 3 [(0, .ref h_me), (1, .int p0), (2, .int p1)] := hl
  have hown : s.vm.findClass RX9 = some m.cls := hown
  have hw : Wd dC dI A s.heap [wX9 h_me q_me k_me o_me] s.heap [] := ⟨hP, hD, va_S.rf⟩
  generalize hQz : (MQ below (QV dC dI (fun (_ : Unit) => True) (fun _ => Jn [wX9 h_me q_me k_me y]) (fun _ => Jt [tX9 k_me]) A) ([.ref h_me, .int p0, .int p1] : List Value).toArray s 0 0 A) = Qz
  clear hP hD hnm
  unfold f_X9_push at h
  refine lv_aload_n hx hb dX9_push_0 rfl (lv_at hl 0 rfl) ?_
  refine fgX9_27 hx hb hts hown hK hw 0 rfl kw1203 dX9_push_1 ?_
  refine lv_aload_n hx hb dX9_push_4 rfl (lv_at hl 0 rfl) ?_
  refine fgX9_29 hx hb hts hown hK hw 0 rfl kw1205 dX9_push_5 ?_
  refine lv_iload_n hx hb dX9_push_8 rfl (lv_at hl 1 rfl) ?_
  obtain ⟨g1, h⟩ := z_gd h
  refine fbX9_27 hx hb hK hw 0 rfl rfl g1 dX9_push_9 (fun H locs hw => ?_)
  obtain ⟨o2, eo2, h⟩ := z_lt h
  have hw : Wd dC dI A s.heap [wX9 h_me q_me k_me o2] H locs := by rw [eo2]; exact hw
  refine lv_aload_n hx hb dX9_push_10 rfl (lv_at hl 0 rfl) ?_
  refine fgX9_28 hx hb hts hown hK hw 0 rfl kw1204 dX9_push_11 ?_
  refine lv_aload_n hx hb dX9_push_14 rfl (lv_at hl 0 rfl) ?_
  refine fgX9_29 hx hb hts hown hK hw 0 rfl kw1205 dX9_push_15 ?_
  refine lv_iload_n hx hb dX9_push_18 rfl (lv_at hl 2 rfl) ?_
  obtain ⟨g3, h⟩ := z_gd h
  refine fbX9_28 hx hb hK hw 0 rfl rfl g3 dX9_push_19 (fun H locs hw => ?_)
  obtain ⟨o4, eo4, h⟩ := z_lt h
  have hw : Wd dC dI A s.heap [wX9 h_me q_me k_me o4] H locs := by rw [eo4]; exact hw
  refine lv_aload_n hx hb dX9_push_20 rfl (lv_at hl 0 rfl) ?_
  refine lv_dup hx hb dX9_push_21 rfl ?_
  refine fgX9_29 hx hb hts hown hK hw 0 rfl kw1205 dX9_push_22 ?_
  refine lv_iconst (v := 1) hx hb dX9_push_25 (by decide) ?_
  refine lv_iadd hx hb dX9_push_26 ?_
  refine fpX9_29 hx hb hts hown hK hw 0 rfl kw1205 dX9_push_27 (fun H locs hw => ?_)
  obtain ⟨o5, eo5, h⟩ := z_lt h
  have hw : Wd dC dI A s.heap [wX9 h_me q_me k_me o5] H locs := by rw [eo5]; exact hw
  have hy := Option.some.inj h
  rw [← hQz, ← hy]
  exact xr_v hx hb hr hlk hK hw dX9_push_30

def bk_X9_behindSum_224   (v2 : Int32) (s0 : Int32) (o_me : Ob) : Option (Int32 × Ob) :=
  (f_X9_must o_me s0).bind fun z10 =>
  if (gI z10 19) = (0 : Int32) then
  ((f_X9_settle z10 (5 : Int32)).bind fun z11 =>
  (f_X9_push z11 v2 (0 : Int32)).bind fun z12 =>
  some ((1 : Int32), z12))
  else
  (some ((1 : Int32), z10))
def bk_X9_behindSum_219   (v2 : Int32) (o_me : Ob) : Option (Int32 × Ob) :=
  bk_X9_behindSum_224   v2 (1 : Int32) o_me
def bk_X9_behindSum_202   (s0 : Int32) (o_me : Ob) : Option (Int32 × Ob) :=
  if s0 = (27 : Int32) then
  ((f_X9_isSign o_me (61 : Int32)).bind fun z13 =>
  if z13 = (0 : Int32) then
  (bk_X9_behindSum_224   s0 (0 : Int32) o_me)
  else
  (bk_X9_behindSum_219   s0 o_me))
  else
  (bk_X9_behindSum_219   s0 o_me)
def bk_X9_behindSum_163   (o_me : Ob) : Option (Int32 × Ob) :=
  (f_X9_isCompared o_me).bind fun z7 =>
  if z7 = (0 : Int32) then
  ((f_X9_isSign o_me (60 : Int32)).bind fun z8 =>
  if z8 = (0 : Int32) then
  ((f_X9_isSign o_me (62 : Int32)).bind fun z9 =>
  if z9 = (0 : Int32) then
  (bk_X9_behindSum_202   (27 : Int32) o_me)
  else
  (bk_X9_behindSum_202   (26 : Int32) o_me))
  else
  (bk_X9_behindSum_202   (25 : Int32) o_me))
  else
  (some ((2 : Int32), o_me))
def bk_X9_behindSum_71   (v1 : Int32) (s0 : Int32) (o_me : Ob) : Option (Int32 × Ob) :=
  if s0 = (-1 : Int32) then
  ((f_X9_inner o_me).bind fun z6 =>
  if z6 = (32 : Int32) then
  ((f_X9_isSign o_me (93 : Int32)).bind fun z14 =>
  (f_X9_must o_me z14).bind fun z15 =>
  if (gI z15 19) = (0 : Int32) then
  ((f_X9_settle z15 (5 : Int32)).bind fun z16 =>
  zlt (sI z16 29 ((gI z16 29) - (1 : Int32))) fun o17 =>
  zlt (sI o17 30 ((gI o17 30) - (1 : Int32))) fun o18 =>
  some ((3 : Int32), o18))
  else
  (some ((3 : Int32), z15)))
  else
  (if z6 = (-1 : Int32) then
  (if v1 = (0 : Int32) then
  (some ((4 : Int32), o_me))
  else
  (bk_X9_behindSum_163   o_me))
  else
  (bk_X9_behindSum_163   o_me)))
  else
  ((f_X9_binds s0).bind fun z19 =>
  (f_X9_settle o_me z19).bind fun z20 =>
  (f_X9_push z20 s0 (0 : Int32)).bind fun z21 =>
  (f_X9_next z21).bind fun z22 =>
  some ((1 : Int32), z22))
def f_X9_behindSum (o_me : Ob) (p0 : Int32) : Option (Int32 × Ob) :=
  (f_X9_isSign o_me (43 : Int32)).bind fun z1 =>
  if z1 = (0 : Int32) then
  ((f_X9_isSign o_me (45 : Int32)).bind fun z2 =>
  if z2 = (0 : Int32) then
  ((f_X9_isSign o_me (42 : Int32)).bind fun z3 =>
  if z3 = (0 : Int32) then
  ((f_X9_isSign o_me (47 : Int32)).bind fun z4 =>
  if z4 = (0 : Int32) then
  ((f_X9_isSign o_me (37 : Int32)).bind fun z5 =>
  if z5 = (0 : Int32) then
  (bk_X9_behindSum_71   p0 (-1 : Int32) o_me)
  else
  (bk_X9_behindSum_71   p0 (24 : Int32) o_me))
  else
  (bk_X9_behindSum_71   p0 (23 : Int32) o_me))
  else
  (bk_X9_behindSum_71   p0 (22 : Int32) o_me))
  else
  (bk_X9_behindSum_71   p0 (21 : Int32) o_me))
  else
  (bk_X9_behindSum_71   p0 (20 : Int32) o_me)
set_option maxHeartbeats 4000000 in
set_option maxRecDepth 100000 in
theorem m_X9_behindSum (l : Launch) (dC : Nat → ClassId) (dI : Nat → Nat → Nat) (sz : Nat) (h_me : Nat) (q_me : Nat → Nat) (k_me : Nat → ClassId) (o_me : Ob) (p0 : Int32) (y : Int32 × Ob) (h : f_X9_behindSum o_me p0 = some y) : CI l yX9_behindSum cX9_behindSum 4 (some .int) ({ frames := 3, cells := 0, slots := 0, locals := 61 } : Room) dC dI sz [.ref h_me, .int p0] [wX9 h_me q_me k_me o_me] [tX9 k_me] y.1 [wX9 h_me q_me k_me y.2] := by
  refine CC_of (by decide) (Nat.le_of_ble_eq_true rfl) ?_
  intro p e s m below meth c A ls hx hb hml hr hlk hnm hown hts hX hK hP hD hA hl
  have hl : lv_has ls 4 [(0, .ref h_me), (1, .int p0)] := hl
  have hown : s.vm.findClass RX9 = some m.cls := hown
  have hw : Wd dC dI A s.heap [wX9 h_me q_me k_me o_me] s.heap [] := ⟨hP, hD, va_S.rf⟩
  generalize hQz : (MQ below (QI dC dI (fun r (_ : Unit) => r = y.1) (fun _ => Jn [wX9 h_me q_me k_me y.2]) (fun _ => Jt [tX9 k_me]) A) ([.ref h_me, .int p0] : List Value).toArray s 0 0 A) = Qz
  clear hP hD hnm
  have bk_224_4 : ∀ (v2 : Int32) (s0 : Int32) (o_me : Ob) (H : Heap) (locs : List Loc) (ls : Array Slot), bk_X9_behindSum_224   v2 s0 o_me = some y → Wd dC dI A s.heap [wX9 h_me q_me k_me o_me] H locs → lv_has ls 4 [(0, .ref h_me), (2, .int v2)] → W p l e ({ frames := 3, cells := 0, slots := 0, locals := 61 } : Room) s m ([.ref h_me, .int p0] : List Value).toArray below meth c H locs 0 0 Qz (F0 m 224 ls [.int s0, .ref h_me]) := by
    intro v2 s0 o_me H locs ls h hw hl
    unfold bk_X9_behindSum_224 at h
    obtain ⟨z10, ez10, h⟩ := z_bd h
    refine xj_v (xrV (As := [.int s0]) (rest := []) ⟨hx, hb, hml, hown, hts⟩ (m_X9_must l dC dI _ h_me q_me k_me o_me s0 z10 ez10) kw1534 kw1531 kw1533 kw58 kw120 hd_X9_must ⟨rfl, rfl⟩ rfl rfl ⟨rfl, rfl⟩ hX hK hw [0] (by decide) rfl rfl rfl rfl rfl hl.1 rfl rfl dX9_behindSum_224) hw hA [0] (by decide) rfl rfl (fun H locs hw => ?_)
    have hw : Wd dC dI A s.heap [wX9 h_me q_me k_me z10] H locs := hw
    refine lv_aload_n hx hb dX9_behindSum_227 rfl (lv_at hl 0 rfl) ?_
    refine fgX9_19 hx hb hts hown hK hw 0 rfl kw1195 dX9_behindSum_228 ?_
    refine lv_if_ne (tgt := 245) hx hb dX9_behindSum_231 (by decide) (fun c => ?_) (fun c => ?_)
    · have h := z_f h c
      refine lv_iconst (v := 1) hx hb dX9_behindSum_245 (by decide) ?_
      have hy := Option.some.inj h
      rw [← hQz, ← hy]
      exact xr_i (v := (1 : Int32)) hx hb hr rfl hlk hK hw dX9_behindSum_246
    · have h := z_t h c
      refine lv_aload_n hx hb dX9_behindSum_234 rfl (lv_at hl 0 rfl) ?_
      refine lv_iconst (v := 5) hx hb dX9_behindSum_235 (by decide) ?_
      obtain ⟨z11, ez11, h⟩ := z_bd h
      refine xj_v (xrV (As := [.int (5 : Int32)]) (rest := []) ⟨hx, hb, hml, hown, hts⟩ (m_X9_settle l dC dI _ h_me q_me k_me z10 (5 : Int32) z11 ez11) kw1592 kw1589 kw1591 kw71 kw120 hd_X9_settle ⟨rfl, rfl⟩ rfl rfl ⟨rfl, rfl⟩ hX hK hw [0] (by decide) rfl rfl rfl rfl rfl hl.1 rfl rfl dX9_behindSum_236) hw hA [0] (by decide) rfl rfl (fun H locs hw => ?_)
      have hw : Wd dC dI A s.heap [wX9 h_me q_me k_me z11] H locs := hw
      refine lv_aload_n hx hb dX9_behindSum_239 rfl (lv_at hl 0 rfl) ?_
      refine lv_iload_n hx hb dX9_behindSum_240 rfl (lv_at hl 1 rfl) ?_
      refine lv_iconst (v := 0) hx hb dX9_behindSum_241 (by decide) ?_
      obtain ⟨z12, ez12, h⟩ := z_bd h
      refine xj_v (xrV (As := [.int v2, .int (0 : Int32)]) (rest := []) ⟨hx, hb, hml, hown, hts⟩ (m_X9_push l dC dI _ h_me q_me k_me z11 v2 (0 : Int32) z12 ez12) kw1547 kw1544 kw1546 kw61 kw120 hd_X9_push ⟨rfl, rfl⟩ rfl rfl ⟨rfl, rfl⟩ hX hK hw [0] (by decide) rfl rfl rfl rfl rfl hl.1 rfl rfl dX9_behindSum_242) hw hA [0] (by decide) rfl rfl (fun H locs hw => ?_)
      have hw : Wd dC dI A s.heap [wX9 h_me q_me k_me z12] H locs := hw
      refine lv_iconst (v := 1) hx hb dX9_behindSum_245 (by decide) ?_
      have hy := Option.some.inj h
      rw [← hQz, ← hy]
      exact xr_i (v := (1 : Int32)) hx hb hr rfl hlk hK hw dX9_behindSum_246
  have bk_219_3 : ∀ (v2 : Int32) (o_me : Ob) (H : Heap) (locs : List Loc) (ls : Array Slot), bk_X9_behindSum_219   v2 o_me = some y → Wd dC dI A s.heap [wX9 h_me q_me k_me o_me] H locs → lv_has ls 4 [(0, .ref h_me), (2, .int v2)] → W p l e ({ frames := 3, cells := 0, slots := 0, locals := 61 } : Room) s m ([.ref h_me, .int p0] : List Value).toArray below meth c H locs 0 0 Qz (F0 m 219 ls [.ref h_me]) := by
    intro v2 o_me H locs ls h hw hl
    unfold bk_X9_behindSum_219 at h
    refine lv_iconst (v := 1) hx hb dX9_behindSum_219 (by decide) ?_
    refine lv_goto (tgt := 224) hx hb dX9_behindSum_220 (by decide) ?_
    exact bk_224_4  v2 (1 : Int32) o_me _ _ _ h hw (lv_sub hl [0, 1] rfl)
  have bk_202_2 : ∀ (s0 : Int32) (o_me : Ob) (H : Heap) (locs : List Loc) (ls : Array Slot), bk_X9_behindSum_202   s0 o_me = some y → Wd dC dI A s.heap [wX9 h_me q_me k_me o_me] H locs → lv_has ls 4 [(0, .ref h_me)] → W p l e ({ frames := 3, cells := 0, slots := 0, locals := 61 } : Room) s m ([.ref h_me, .int p0] : List Value).toArray below meth c H locs 0 0 Qz (F0 m 202 ls [.int s0]) := by
    intro s0 o_me H locs ls h hw hl
    unfold bk_X9_behindSum_202 at h
    refine lv_istore_n (lv' := [(2, .int s0), (0, .ref h_me)]) hx hb dX9_behindSum_202 rfl hl (by decide) rfl (fun ls hl => ?_)
    refine lv_aload_n hx hb dX9_behindSum_203 rfl (lv_at hl 1 rfl) ?_
    refine lv_iload_n hx hb dX9_behindSum_204 rfl (lv_at hl 0 rfl) ?_
    refine lv_bipush (v := 27) hx hb dX9_behindSum_205 (by decide) ?_
    refine lv_icmp_ne (tgt := 219) hx hb dX9_behindSum_207 (by decide) (fun c => ?_) (fun c => ?_)
    · have h := z_f h c
      exact bk_219_3  s0 o_me _ _ _ h hw (lv_sub hl [1, 0] rfl)
    · have h := z_t h c
      refine lv_aload_n hx hb dX9_behindSum_210 rfl (lv_at hl 1 rfl) ?_
      refine lv_bipush (v := 61) hx hb dX9_behindSum_211 (by decide) ?_
      obtain ⟨z13, ez13, h⟩ := z_bd h
      refine xj_i (xrV (As := [.int (61 : Int32)]) (rest := [.ref h_me]) ⟨hx, hb, hml, hown, hts⟩ (m_X9_isSign l dC dI _ h_me q_me k_me o_me (61 : Int32) z13 ez13) kw1551 kw1548 kw1550 kw62 kw120 hd_X9_isSign ⟨rfl, rfl⟩ rfl rfl ⟨rfl, rfl⟩ hX hK hw [0] (by decide) rfl rfl rfl rfl rfl hl.1 rfl rfl dX9_behindSum_213) hw hA [0] (by decide) rfl rfl (fun H locs hw => ?_)
      have hw : Wd dC dI A s.heap [wX9 h_me q_me k_me o_me] H locs := hw
      refine lv_if_eq (tgt := 223) hx hb dX9_behindSum_216 (by decide) (fun c => ?_) (fun c => ?_)
      · have h := z_t h c
        refine lv_iconst (v := 0) hx hb dX9_behindSum_223 (by decide) ?_
        exact bk_224_4  s0 (0 : Int32) o_me _ _ _ h hw (lv_sub hl [1, 0] rfl)
      · have h := z_f h c
        exact bk_219_3  s0 o_me _ _ _ h hw (lv_sub hl [1, 0] rfl)
  have bk_163_1 : ∀ (o_me : Ob) (H : Heap) (locs : List Loc) (ls : Array Slot), bk_X9_behindSum_163   o_me = some y → Wd dC dI A s.heap [wX9 h_me q_me k_me o_me] H locs → lv_has ls 4 [(0, .ref h_me)] → W p l e ({ frames := 3, cells := 0, slots := 0, locals := 61 } : Room) s m ([.ref h_me, .int p0] : List Value).toArray below meth c H locs 0 0 Qz (F0 m 163 ls []) := by
    intro o_me H locs ls h hw hl
    unfold bk_X9_behindSum_163 at h
    refine lv_aload_n hx hb dX9_behindSum_163 rfl (lv_at hl 0 rfl) ?_
    obtain ⟨z7, ez7, h⟩ := z_bd h
    refine xj_i (xrV (As := []) (rest := []) ⟨hx, hb, hml, hown, hts⟩ (m_X9_isCompared l dC dI _ h_me q_me k_me o_me z7 ez7) kw1600 kw1597 kw1599 kw73 kw120 hd_X9_isCompared ⟨rfl, rfl⟩ rfl rfl ⟨rfl, rfl⟩ hX hK hw [0] (by decide) rfl rfl rfl rfl rfl hl.1 rfl rfl dX9_behindSum_164) hw hA [0] (by decide) rfl rfl (fun H locs hw => ?_)
    have hw : Wd dC dI A s.heap [wX9 h_me q_me k_me o_me] H locs := hw
    refine lv_if_eq (tgt := 172) hx hb dX9_behindSum_167 (by decide) (fun c => ?_) (fun c => ?_)
    · have h := z_t h c
      refine lv_aload_n hx hb dX9_behindSum_172 rfl (lv_at hl 0 rfl) ?_
      refine lv_bipush (v := 60) hx hb dX9_behindSum_173 (by decide) ?_
      obtain ⟨z8, ez8, h⟩ := z_bd h
      refine xj_i (xrV (As := [.int (60 : Int32)]) (rest := []) ⟨hx, hb, hml, hown, hts⟩ (m_X9_isSign l dC dI _ h_me q_me k_me o_me (60 : Int32) z8 ez8) kw1551 kw1548 kw1550 kw62 kw120 hd_X9_isSign ⟨rfl, rfl⟩ rfl rfl ⟨rfl, rfl⟩ hX hK hw [0] (by decide) rfl rfl rfl rfl rfl hl.1 rfl rfl dX9_behindSum_175) hw hA [0] (by decide) rfl rfl (fun H locs hw => ?_)
      have hw : Wd dC dI A s.heap [wX9 h_me q_me k_me o_me] H locs := hw
      refine lv_if_eq (tgt := 186) hx hb dX9_behindSum_178 (by decide) (fun c => ?_) (fun c => ?_)
      · have h := z_t h c
        refine lv_aload_n hx hb dX9_behindSum_186 rfl (lv_at hl 0 rfl) ?_
        refine lv_bipush (v := 62) hx hb dX9_behindSum_187 (by decide) ?_
        obtain ⟨z9, ez9, h⟩ := z_bd h
        refine xj_i (xrV (As := [.int (62 : Int32)]) (rest := []) ⟨hx, hb, hml, hown, hts⟩ (m_X9_isSign l dC dI _ h_me q_me k_me o_me (62 : Int32) z9 ez9) kw1551 kw1548 kw1550 kw62 kw120 hd_X9_isSign ⟨rfl, rfl⟩ rfl rfl ⟨rfl, rfl⟩ hX hK hw [0] (by decide) rfl rfl rfl rfl rfl hl.1 rfl rfl dX9_behindSum_189) hw hA [0] (by decide) rfl rfl (fun H locs hw => ?_)
        have hw : Wd dC dI A s.heap [wX9 h_me q_me k_me o_me] H locs := hw
        refine lv_if_eq (tgt := 200) hx hb dX9_behindSum_192 (by decide) (fun c => ?_) (fun c => ?_)
        · have h := z_t h c
          refine lv_bipush (v := 27) hx hb dX9_behindSum_200 (by decide) ?_
          exact bk_202_2  (27 : Int32) o_me _ _ _ h hw (lv_sub hl [0] rfl)
        · have h := z_f h c
          refine lv_bipush (v := 26) hx hb dX9_behindSum_195 (by decide) ?_
          refine lv_goto (tgt := 202) hx hb dX9_behindSum_197 (by decide) ?_
          exact bk_202_2  (26 : Int32) o_me _ _ _ h hw (lv_sub hl [0] rfl)
      · have h := z_f h c
        refine lv_bipush (v := 25) hx hb dX9_behindSum_181 (by decide) ?_
        refine lv_goto (tgt := 202) hx hb dX9_behindSum_183 (by decide) ?_
        exact bk_202_2  (25 : Int32) o_me _ _ _ h hw (lv_sub hl [0] rfl)
    · have h := z_f h c
      refine lv_iconst (v := 2) hx hb dX9_behindSum_170 (by decide) ?_
      have hy := Option.some.inj h
      rw [← hQz, ← hy]
      exact xr_i (v := (2 : Int32)) hx hb hr rfl hlk hK hw dX9_behindSum_171
  have bk_71_0 : ∀ (v1 : Int32) (s0 : Int32) (o_me : Ob) (H : Heap) (locs : List Loc) (ls : Array Slot), bk_X9_behindSum_71   v1 s0 o_me = some y → Wd dC dI A s.heap [wX9 h_me q_me k_me o_me] H locs → lv_has ls 4 [(0, .ref h_me), (1, .int v1)] → W p l e ({ frames := 3, cells := 0, slots := 0, locals := 61 } : Room) s m ([.ref h_me, .int p0] : List Value).toArray below meth c H locs 0 0 Qz (F0 m 71 ls [.int s0]) := by
    intro v1 s0 o_me H locs ls h hw hl
    unfold bk_X9_behindSum_71 at h
    refine lv_istore_n (lv' := [(2, .int s0), (0, .ref h_me), (1, .int v1)]) hx hb dX9_behindSum_71 rfl hl (by decide) rfl (fun ls hl => ?_)
    refine lv_iload_n hx hb dX9_behindSum_72 rfl (lv_at hl 0 rfl) ?_
    refine lv_iconst (v := (-1)) hx hb dX9_behindSum_73 (by decide) ?_
    refine lv_icmp_eq (tgt := 97) hx hb dX9_behindSum_74 (by decide) (fun c => ?_) (fun c => ?_)
    · have h := z_t h c
      refine lv_aload_n hx hb dX9_behindSum_97 rfl (lv_at hl 1 rfl) ?_
      obtain ⟨z6, ez6, h⟩ := z_bd h
      refine xj_i (xrV (As := []) (rest := []) ⟨hx, hb, hml, hown, hts⟩ (m_X9_inner l dC dI _ h_me q_me k_me o_me z6 ez6) kw1596 kw1593 kw1595 kw72 kw120 hd_X9_inner ⟨rfl, rfl⟩ rfl rfl ⟨rfl, rfl⟩ hX hK hw [0] (by decide) rfl rfl rfl rfl rfl hl.1 rfl rfl dX9_behindSum_98) hw hA [0] (by decide) rfl rfl (fun H locs hw => ?_)
      have hw : Wd dC dI A s.heap [wX9 h_me q_me k_me o_me] H locs := hw
      refine lv_istore_n (lv' := [(3, .int z6), (2, .int s0), (0, .ref h_me), (1, .int v1)]) hx hb dX9_behindSum_101 rfl hl (by decide) rfl (fun ls hl => ?_)
      refine lv_iload_n hx hb dX9_behindSum_102 rfl (lv_at hl 0 rfl) ?_
      refine lv_bipush (v := 32) hx hb dX9_behindSum_103 (by decide) ?_
      refine lv_icmp_ne (tgt := 152) hx hb dX9_behindSum_105 (by decide) (fun c => ?_) (fun c => ?_)
      · have h := z_f h c
        refine lv_iload_n hx hb dX9_behindSum_152 rfl (lv_at hl 0 rfl) ?_
        refine lv_iconst (v := (-1)) hx hb dX9_behindSum_153 (by decide) ?_
        refine lv_icmp_ne (tgt := 163) hx hb dX9_behindSum_154 (by decide) (fun c => ?_) (fun c => ?_)
        · have h := z_f h c
          exact bk_163_1  o_me _ _ _ h hw (lv_sub hl [2] rfl)
        · have h := z_t h c
          refine lv_iload_n hx hb dX9_behindSum_157 rfl (lv_at hl 3 rfl) ?_
          refine lv_if_ne (tgt := 163) hx hb dX9_behindSum_158 (by decide) (fun c => ?_) (fun c => ?_)
          · have h := z_f h c
            exact bk_163_1  o_me _ _ _ h hw (lv_sub hl [2] rfl)
          · have h := z_t h c
            refine lv_iconst (v := 4) hx hb dX9_behindSum_161 (by decide) ?_
            have hy := Option.some.inj h
            rw [← hQz, ← hy]
            exact xr_i (v := (4 : Int32)) hx hb hr rfl hlk hK hw dX9_behindSum_162
      · have h := z_t h c
        refine lv_aload_n hx hb dX9_behindSum_108 rfl (lv_at hl 2 rfl) ?_
        refine lv_aload_n hx hb dX9_behindSum_109 rfl (lv_at hl 2 rfl) ?_
        refine lv_bipush (v := 93) hx hb dX9_behindSum_110 (by decide) ?_
        obtain ⟨z14, ez14, h⟩ := z_bd h
        refine xj_i (xrV (As := [.int (93 : Int32)]) (rest := [.ref h_me]) ⟨hx, hb, hml, hown, hts⟩ (m_X9_isSign l dC dI _ h_me q_me k_me o_me (93 : Int32) z14 ez14) kw1551 kw1548 kw1550 kw62 kw120 hd_X9_isSign ⟨rfl, rfl⟩ rfl rfl ⟨rfl, rfl⟩ hX hK hw [0] (by decide) rfl rfl rfl rfl rfl hl.1 rfl rfl dX9_behindSum_112) hw hA [0] (by decide) rfl rfl (fun H locs hw => ?_)
        have hw : Wd dC dI A s.heap [wX9 h_me q_me k_me o_me] H locs := hw
        obtain ⟨z15, ez15, h⟩ := z_bd h
        refine xj_v (xrV (As := [.int z14]) (rest := []) ⟨hx, hb, hml, hown, hts⟩ (m_X9_must l dC dI _ h_me q_me k_me o_me z14 z15 ez15) kw1534 kw1531 kw1533 kw58 kw120 hd_X9_must ⟨rfl, rfl⟩ rfl rfl ⟨rfl, rfl⟩ hX hK hw [0] (by decide) rfl rfl rfl rfl rfl hl.1 rfl rfl dX9_behindSum_115) hw hA [0] (by decide) rfl rfl (fun H locs hw => ?_)
        have hw : Wd dC dI A s.heap [wX9 h_me q_me k_me z15] H locs := hw
        refine lv_aload_n hx hb dX9_behindSum_118 rfl (lv_at hl 2 rfl) ?_
        refine fgX9_19 hx hb hts hown hK hw 0 rfl kw1195 dX9_behindSum_119 ?_
        refine lv_if_ne (tgt := 150) hx hb dX9_behindSum_122 (by decide) (fun c => ?_) (fun c => ?_)
        · have h := z_f h c
          refine lv_iconst (v := 3) hx hb dX9_behindSum_150 (by decide) ?_
          have hy := Option.some.inj h
          rw [← hQz, ← hy]
          exact xr_i (v := (3 : Int32)) hx hb hr rfl hlk hK hw dX9_behindSum_151
        · have h := z_t h c
          refine lv_aload_n hx hb dX9_behindSum_125 rfl (lv_at hl 2 rfl) ?_
          refine lv_iconst (v := 5) hx hb dX9_behindSum_126 (by decide) ?_
          obtain ⟨z16, ez16, h⟩ := z_bd h
          refine xj_v (xrV (As := [.int (5 : Int32)]) (rest := []) ⟨hx, hb, hml, hown, hts⟩ (m_X9_settle l dC dI _ h_me q_me k_me z15 (5 : Int32) z16 ez16) kw1592 kw1589 kw1591 kw71 kw120 hd_X9_settle ⟨rfl, rfl⟩ rfl rfl ⟨rfl, rfl⟩ hX hK hw [0] (by decide) rfl rfl rfl rfl rfl hl.1 rfl rfl dX9_behindSum_127) hw hA [0] (by decide) rfl rfl (fun H locs hw => ?_)
          have hw : Wd dC dI A s.heap [wX9 h_me q_me k_me z16] H locs := hw
          refine lv_aload_n hx hb dX9_behindSum_130 rfl (lv_at hl 2 rfl) ?_
          refine lv_dup hx hb dX9_behindSum_131 rfl ?_
          refine fgX9_29 hx hb hts hown hK hw 0 rfl kw1205 dX9_behindSum_132 ?_
          refine lv_iconst (v := 1) hx hb dX9_behindSum_135 (by decide) ?_
          refine lv_isub hx hb dX9_behindSum_136 ?_
          refine fpX9_29 hx hb hts hown hK hw 0 rfl kw1205 dX9_behindSum_137 (fun H locs hw => ?_)
          obtain ⟨o17, eo17, h⟩ := z_lt h
          have hw : Wd dC dI A s.heap [wX9 h_me q_me k_me o17] H locs := by rw [eo17]; exact hw
          refine lv_aload_n hx hb dX9_behindSum_140 rfl (lv_at hl 2 rfl) ?_
          refine lv_dup hx hb dX9_behindSum_141 rfl ?_
          refine fgX9_30 hx hb hts hown hK hw 0 rfl kw1206 dX9_behindSum_142 ?_
          refine lv_iconst (v := 1) hx hb dX9_behindSum_145 (by decide) ?_
          refine lv_isub hx hb dX9_behindSum_146 ?_
          refine fpX9_30 hx hb hts hown hK hw 0 rfl kw1206 dX9_behindSum_147 (fun H locs hw => ?_)
          obtain ⟨o18, eo18, h⟩ := z_lt h
          have hw : Wd dC dI A s.heap [wX9 h_me q_me k_me o18] H locs := by rw [eo18]; exact hw
          refine lv_iconst (v := 3) hx hb dX9_behindSum_150 (by decide) ?_
          have hy := Option.some.inj h
          rw [← hQz, ← hy]
          exact xr_i (v := (3 : Int32)) hx hb hr rfl hlk hK hw dX9_behindSum_151
    · have h := z_f h c
      refine lv_aload_n hx hb dX9_behindSum_77 rfl (lv_at hl 1 rfl) ?_
      refine lv_iload_n hx hb dX9_behindSum_78 rfl (lv_at hl 0 rfl) ?_
      obtain ⟨z19, ez19, h⟩ := z_bd h
      refine xj_i (xrS (As := [.int s0]) (rest := [.ref h_me]) ⟨hx, hb, hml, hown, hts⟩ (m_X9_binds l dC dI _  s0 z19 ez19) kw1588 kw1586 kw1587 kw120 hd_X9_binds ⟨rfl, rfl⟩ rfl rfl ⟨rfl, rfl⟩ hX hK hw [] (by decide) rfl rfl hl.1 rfl rfl dX9_behindSum_79) hw hA [] (by decide) rfl rfl (fun H locs hw => ?_)
      obtain ⟨z20, ez20, h⟩ := z_bd h
      refine xj_v (xrV (As := [.int z19]) (rest := []) ⟨hx, hb, hml, hown, hts⟩ (m_X9_settle l dC dI _ h_me q_me k_me o_me z19 z20 ez20) kw1592 kw1589 kw1591 kw71 kw120 hd_X9_settle ⟨rfl, rfl⟩ rfl rfl ⟨rfl, rfl⟩ hX hK hw [0] (by decide) rfl rfl rfl rfl rfl hl.1 rfl rfl dX9_behindSum_82) hw hA [0] (by decide) rfl rfl (fun H locs hw => ?_)
      have hw : Wd dC dI A s.heap [wX9 h_me q_me k_me z20] H locs := hw
      refine lv_aload_n hx hb dX9_behindSum_85 rfl (lv_at hl 1 rfl) ?_
      refine lv_iload_n hx hb dX9_behindSum_86 rfl (lv_at hl 0 rfl) ?_
      refine lv_iconst (v := 0) hx hb dX9_behindSum_87 (by decide) ?_
      obtain ⟨z21, ez21, h⟩ := z_bd h
      refine xj_v (xrV (As := [.int s0, .int (0 : Int32)]) (rest := []) ⟨hx, hb, hml, hown, hts⟩ (m_X9_push l dC dI _ h_me q_me k_me z20 s0 (0 : Int32) z21 ez21) kw1547 kw1544 kw1546 kw61 kw120 hd_X9_push ⟨rfl, rfl⟩ rfl rfl ⟨rfl, rfl⟩ hX hK hw [0] (by decide) rfl rfl rfl rfl rfl hl.1 rfl rfl dX9_behindSum_88) hw hA [0] (by decide) rfl rfl (fun H locs hw => ?_)
      have hw : Wd dC dI A s.heap [wX9 h_me q_me k_me z21] H locs := hw
      refine lv_aload_n hx hb dX9_behindSum_91 rfl (lv_at hl 1 rfl) ?_
      obtain ⟨z22, ez22, h⟩ := z_bd h
      refine xj_v (xrV (As := []) (rest := []) ⟨hx, hb, hml, hown, hts⟩ (m_X9_next l dC dI _ h_me q_me k_me z21 z22 ez22) kw1512 kw1509 kw1511 kw55 kw120 hd_X9_next ⟨rfl, rfl⟩ rfl rfl ⟨rfl, rfl⟩ hX hK hw [0] (by decide) rfl rfl rfl rfl rfl hl.1 rfl rfl dX9_behindSum_92) hw hA [0] (by decide) rfl rfl (fun H locs hw => ?_)
      have hw : Wd dC dI A s.heap [wX9 h_me q_me k_me z22] H locs := hw
      refine lv_iconst (v := 1) hx hb dX9_behindSum_95 (by decide) ?_
      have hy := Option.some.inj h
      rw [← hQz, ← hy]
      exact xr_i (v := (1 : Int32)) hx hb hr rfl hlk hK hw dX9_behindSum_96
  unfold f_X9_behindSum at h
  refine lv_aload_n hx hb dX9_behindSum_0 rfl (lv_at hl 0 rfl) ?_
  refine lv_bipush (v := 43) hx hb dX9_behindSum_1 (by decide) ?_
  obtain ⟨z1, ez1, h⟩ := z_bd h
  refine xj_i (xrV (As := [.int (43 : Int32)]) (rest := []) ⟨hx, hb, hml, hown, hts⟩ (m_X9_isSign l dC dI _ h_me q_me k_me o_me (43 : Int32) z1 ez1) kw1551 kw1548 kw1550 kw62 kw120 hd_X9_isSign ⟨rfl, rfl⟩ rfl rfl ⟨rfl, rfl⟩ hX hK hw [0] (by decide) rfl rfl rfl rfl rfl hl.1 rfl rfl dX9_behindSum_3) hw hA [0] (by decide) rfl rfl (fun H locs hw => ?_)
  have hw : Wd dC dI A s.heap [wX9 h_me q_me k_me o_me] H locs := hw
  refine lv_if_eq (tgt := 14) hx hb dX9_behindSum_6 (by decide) (fun c => ?_) (fun c => ?_)
  · have h := z_t h c
    refine lv_aload_n hx hb dX9_behindSum_14 rfl (lv_at hl 0 rfl) ?_
    refine lv_bipush (v := 45) hx hb dX9_behindSum_15 (by decide) ?_
    obtain ⟨z2, ez2, h⟩ := z_bd h
    refine xj_i (xrV (As := [.int (45 : Int32)]) (rest := []) ⟨hx, hb, hml, hown, hts⟩ (m_X9_isSign l dC dI _ h_me q_me k_me o_me (45 : Int32) z2 ez2) kw1551 kw1548 kw1550 kw62 kw120 hd_X9_isSign ⟨rfl, rfl⟩ rfl rfl ⟨rfl, rfl⟩ hX hK hw [0] (by decide) rfl rfl rfl rfl rfl hl.1 rfl rfl dX9_behindSum_17) hw hA [0] (by decide) rfl rfl (fun H locs hw => ?_)
    have hw : Wd dC dI A s.heap [wX9 h_me q_me k_me o_me] H locs := hw
    refine lv_if_eq (tgt := 28) hx hb dX9_behindSum_20 (by decide) (fun c => ?_) (fun c => ?_)
    · have h := z_t h c
      refine lv_aload_n hx hb dX9_behindSum_28 rfl (lv_at hl 0 rfl) ?_
      refine lv_bipush (v := 42) hx hb dX9_behindSum_29 (by decide) ?_
      obtain ⟨z3, ez3, h⟩ := z_bd h
      refine xj_i (xrV (As := [.int (42 : Int32)]) (rest := []) ⟨hx, hb, hml, hown, hts⟩ (m_X9_isSign l dC dI _ h_me q_me k_me o_me (42 : Int32) z3 ez3) kw1551 kw1548 kw1550 kw62 kw120 hd_X9_isSign ⟨rfl, rfl⟩ rfl rfl ⟨rfl, rfl⟩ hX hK hw [0] (by decide) rfl rfl rfl rfl rfl hl.1 rfl rfl dX9_behindSum_31) hw hA [0] (by decide) rfl rfl (fun H locs hw => ?_)
      have hw : Wd dC dI A s.heap [wX9 h_me q_me k_me o_me] H locs := hw
      refine lv_if_eq (tgt := 42) hx hb dX9_behindSum_34 (by decide) (fun c => ?_) (fun c => ?_)
      · have h := z_t h c
        refine lv_aload_n hx hb dX9_behindSum_42 rfl (lv_at hl 0 rfl) ?_
        refine lv_bipush (v := 47) hx hb dX9_behindSum_43 (by decide) ?_
        obtain ⟨z4, ez4, h⟩ := z_bd h
        refine xj_i (xrV (As := [.int (47 : Int32)]) (rest := []) ⟨hx, hb, hml, hown, hts⟩ (m_X9_isSign l dC dI _ h_me q_me k_me o_me (47 : Int32) z4 ez4) kw1551 kw1548 kw1550 kw62 kw120 hd_X9_isSign ⟨rfl, rfl⟩ rfl rfl ⟨rfl, rfl⟩ hX hK hw [0] (by decide) rfl rfl rfl rfl rfl hl.1 rfl rfl dX9_behindSum_45) hw hA [0] (by decide) rfl rfl (fun H locs hw => ?_)
        have hw : Wd dC dI A s.heap [wX9 h_me q_me k_me o_me] H locs := hw
        refine lv_if_eq (tgt := 56) hx hb dX9_behindSum_48 (by decide) (fun c => ?_) (fun c => ?_)
        · have h := z_t h c
          refine lv_aload_n hx hb dX9_behindSum_56 rfl (lv_at hl 0 rfl) ?_
          refine lv_bipush (v := 37) hx hb dX9_behindSum_57 (by decide) ?_
          obtain ⟨z5, ez5, h⟩ := z_bd h
          refine xj_i (xrV (As := [.int (37 : Int32)]) (rest := []) ⟨hx, hb, hml, hown, hts⟩ (m_X9_isSign l dC dI _ h_me q_me k_me o_me (37 : Int32) z5 ez5) kw1551 kw1548 kw1550 kw62 kw120 hd_X9_isSign ⟨rfl, rfl⟩ rfl rfl ⟨rfl, rfl⟩ hX hK hw [0] (by decide) rfl rfl rfl rfl rfl hl.1 rfl rfl dX9_behindSum_59) hw hA [0] (by decide) rfl rfl (fun H locs hw => ?_)
          have hw : Wd dC dI A s.heap [wX9 h_me q_me k_me o_me] H locs := hw
          refine lv_if_eq (tgt := 70) hx hb dX9_behindSum_62 (by decide) (fun c => ?_) (fun c => ?_)
          · have h := z_t h c
            refine lv_iconst (v := (-1)) hx hb dX9_behindSum_70 (by decide) ?_
            exact bk_71_0  p0 (-1 : Int32) o_me _ _ _ h hw (lv_sub hl [0, 1] rfl)
          · have h := z_f h c
            refine lv_bipush (v := 24) hx hb dX9_behindSum_65 (by decide) ?_
            refine lv_goto (tgt := 71) hx hb dX9_behindSum_67 (by decide) ?_
            exact bk_71_0  p0 (24 : Int32) o_me _ _ _ h hw (lv_sub hl [0, 1] rfl)
        · have h := z_f h c
          refine lv_bipush (v := 23) hx hb dX9_behindSum_51 (by decide) ?_
          refine lv_goto (tgt := 71) hx hb dX9_behindSum_53 (by decide) ?_
          exact bk_71_0  p0 (23 : Int32) o_me _ _ _ h hw (lv_sub hl [0, 1] rfl)
      · have h := z_f h c
        refine lv_bipush (v := 22) hx hb dX9_behindSum_37 (by decide) ?_
        refine lv_goto (tgt := 71) hx hb dX9_behindSum_39 (by decide) ?_
        exact bk_71_0  p0 (22 : Int32) o_me _ _ _ h hw (lv_sub hl [0, 1] rfl)
    · have h := z_f h c
      refine lv_bipush (v := 21) hx hb dX9_behindSum_23 (by decide) ?_
      refine lv_goto (tgt := 71) hx hb dX9_behindSum_25 (by decide) ?_
      exact bk_71_0  p0 (21 : Int32) o_me _ _ _ h hw (lv_sub hl [0, 1] rfl)
  · have h := z_f h c
    refine lv_bipush (v := 20) hx hb dX9_behindSum_9 (by decide) ?_
    refine lv_goto (tgt := 71) hx hb dX9_behindSum_11 (by decide) ?_
    exact bk_71_0  p0 (20 : Int32) o_me _ _ _ h hw (lv_sub hl [0, 1] rfl)

def f_X9_isWord (o_me : Ob) (p0 : Int64) : Option (Int32) :=
  if (gI o_me 16) = (1 : Int32) then
  (if (lg_cmp (gL o_me 17) p0) = (0 : Int32) then
  (some (1 : Int32))
  else
  (some (0 : Int32)))
  else
  (some (0 : Int32))
set_option maxHeartbeats 4000000 in
set_option maxRecDepth 100000 in
theorem m_X9_isWord (l : Launch) (dC : Nat → ClassId) (dI : Nat → Nat → Nat) (sz : Nat) (h_me : Nat) (q_me : Nat → Nat) (k_me : Nat → ClassId) (o_me : Ob) (p0 : Int64) (y : Int32) (h : f_X9_isWord o_me p0 = some y) : CI l yX9_isWord cX9_isWord 3 (some .boolean) ({ frames := 0, cells := 0, slots := 0, locals := 0 } : Room) dC dI sz [.ref h_me, .long p0] [wX9 h_me q_me k_me o_me] [tX9 k_me] y [wX9 h_me q_me k_me o_me] := by
  refine CC_of (by decide) (Nat.le_of_ble_eq_true rfl) ?_
  intro p e s m below meth c A ls hx hb hml hr hlk hnm hown hts hX hK hP hD hA hl
  have hl : lv_has ls 3 [(0, .ref h_me), (1, .long p0)] := hl
  have hown : s.vm.findClass RX9 = some m.cls := hown
  have hw : Wd dC dI A s.heap [wX9 h_me q_me k_me o_me] s.heap [] := ⟨hP, hD, va_S.rf⟩
  generalize hQz : (MQ below (QI dC dI (fun r (_ : Unit) => r = y) (fun _ => Jn [wX9 h_me q_me k_me o_me]) (fun _ => Jt [tX9 k_me]) A) ([.ref h_me, .long p0] : List Value).toArray s 0 0 A) = Qz
  clear hP hD hnm
  unfold f_X9_isWord at h
  refine lv_aload_n hx hb dX9_isWord_0 rfl (lv_at hl 0 rfl) ?_
  refine fgX9_16 hx hb hts hown hK hw 0 rfl kw1192 dX9_isWord_1 ?_
  refine lv_iconst (v := 1) hx hb dX9_isWord_4 (by decide) ?_
  refine lv_icmp_ne (tgt := 21) hx hb dX9_isWord_5 (by decide) (fun c => ?_) (fun c => ?_)
  · have h := z_f h c
    refine lv_iconst (v := 0) hx hb dX9_isWord_21 (by decide) ?_
    have hy := Option.some.inj h
    rw [← hQz, ← hy]
    exact xr_i (v := (0 : Int32)) hx hb hr rfl hlk hK hw dX9_isWord_22
  · have h := z_t h c
    refine lv_aload_n hx hb dX9_isWord_8 rfl (lv_at hl 0 rfl) ?_
    refine fgX9_17 hx hb hts hown hK hw 0 rfl kw1193 dX9_isWord_9 ?_
    refine lv_lload_n hx hb dX9_isWord_12 rfl (lv_at hl 1 rfl) ?_
    refine W.lcmp hx hb dX9_isWord_13 ?_
    refine lv_if_ne (tgt := 21) hx hb dX9_isWord_14 (by decide) (fun c => ?_) (fun c => ?_)
    · have h := z_f h c
      refine lv_iconst (v := 0) hx hb dX9_isWord_21 (by decide) ?_
      have hy := Option.some.inj h
      rw [← hQz, ← hy]
      exact xr_i (v := (0 : Int32)) hx hb hr rfl hlk hK hw dX9_isWord_22
    · have h := z_t h c
      refine lv_iconst (v := 1) hx hb dX9_isWord_17 (by decide) ?_
      refine lv_goto (tgt := 22) hx hb dX9_isWord_18 (by decide) ?_
      have hy := Option.some.inj h
      rw [← hQz, ← hy]
      exact xr_i (v := (1 : Int32)) hx hb hr rfl hlk hK hw dX9_isWord_22

def bk_X9_behindTest_66   (s0 : Int32) (o_me : Ob) : Option (Int32 × Ob) :=
  (f_X9_emit o_me s0 (0 : Int32)).bind fun z4 =>
  (f_X9_next z4).bind fun z5 =>
  some ((0 : Int32), z5)
def bk_X9_behindTest_47   (v1 : Int32) (s0 : Int32) (o_me : Ob) : Option (Int32 × Ob) :=
  (f_X9_push o_me s0 (gI o_me 23)).bind fun z3 =>
  if v1 = (0 : Int32) then
  (bk_X9_behindTest_66   (30 : Int32) z3)
  else
  (bk_X9_behindTest_66   (29 : Int32) z3)
def bk_X9_behindTest_32   (v1 : Int32) (s0 : Int32) (o_me : Ob) : Option (Int32 × Ob) :=
  (f_X9_settle o_me s0).bind fun z2 =>
  if v1 = (0 : Int32) then
  (bk_X9_behindTest_47   v1 (30 : Int32) z2)
  else
  (bk_X9_behindTest_47   v1 (29 : Int32) z2)
def bk_X9_behindTest_22   (v1 : Int32) (o_me : Ob) : Option (Int32 × Ob) :=
  if v1 = (0 : Int32) then
  (bk_X9_behindTest_32   v1 (1 : Int32) o_me)
  else
  (bk_X9_behindTest_32   v1 (2 : Int32) o_me)
def f_X9_behindTest (o_me : Ob) : Option (Int32 × Ob) :=
  (f_X9_isWord o_me (1476 : Int64)).bind fun z1 =>
  if z1 = (0 : Int32) then
  ((f_X9_isWord o_me (498 : Int64)).bind fun z6 =>
  if z6 = (0 : Int32) then
  ((f_X9_inner o_me).bind fun z7 =>
  if z7 = (-1 : Int32) then
  (some ((4 : Int32), o_me))
  else
  ((f_X9_isSign o_me (41 : Int32)).bind fun z8 =>
  (f_X9_must o_me z8).bind fun z9 =>
  if (gI z9 19) = (0 : Int32) then
  ((f_X9_settle z9 (1 : Int32)).bind fun z10 =>
  zlt (sI z10 29 ((gI z10 29) - (1 : Int32))) fun o11 =>
  zlt (sI o11 30 ((gI o11 30) - (1 : Int32))) fun o12 =>
  some ((2 : Int32), o12))
  else
  (some ((2 : Int32), z9))))
  else
  (bk_X9_behindTest_22   z1 o_me))
  else
  (bk_X9_behindTest_22   z1 o_me)
set_option maxHeartbeats 4000000 in
set_option maxRecDepth 100000 in
theorem m_X9_behindTest (l : Launch) (dC : Nat → ClassId) (dI : Nat → Nat → Nat) (sz : Nat) (h_me : Nat) (q_me : Nat → Nat) (k_me : Nat → ClassId) (o_me : Ob) (y : Int32 × Ob) (h : f_X9_behindTest o_me = some y) : CI l yX9_behindTest cX9_behindTest 2 (some .int) ({ frames := 3, cells := 0, slots := 0, locals := 61 } : Room) dC dI sz [.ref h_me] [wX9 h_me q_me k_me o_me] [tX9 k_me] y.1 [wX9 h_me q_me k_me y.2] := by
  refine CC_of (by decide) (Nat.le_of_ble_eq_true rfl) ?_
  intro p e s m below meth c A ls hx hb hml hr hlk hnm hown hts hX hK hP hD hA hl
  have hl : lv_has ls 2 [(0, .ref h_me)] := hl
  have hown : s.vm.findClass RX9 = some m.cls := hown
  have hw : Wd dC dI A s.heap [wX9 h_me q_me k_me o_me] s.heap [] := ⟨hP, hD, va_S.rf⟩
  generalize hQz : (MQ below (QI dC dI (fun r (_ : Unit) => r = y.1) (fun _ => Jn [wX9 h_me q_me k_me y.2]) (fun _ => Jt [tX9 k_me]) A) ([.ref h_me] : List Value).toArray s 0 0 A) = Qz
  clear hP hD hnm
  have bk_66_3 : ∀ (s0 : Int32) (o_me : Ob) (H : Heap) (locs : List Loc) (ls : Array Slot), bk_X9_behindTest_66   s0 o_me = some y → Wd dC dI A s.heap [wX9 h_me q_me k_me o_me] H locs → lv_has ls 2 [(0, .ref h_me)] → W p l e ({ frames := 3, cells := 0, slots := 0, locals := 61 } : Room) s m ([.ref h_me] : List Value).toArray below meth c H locs 0 0 Qz (F0 m 66 ls [.int s0, .ref h_me]) := by
    intro s0 o_me H locs ls h hw hl
    unfold bk_X9_behindTest_66 at h
    refine lv_iconst (v := 0) hx hb dX9_behindTest_66 (by decide) ?_
    obtain ⟨z4, ez4, h⟩ := z_bd h
    refine xj_v (xrV (As := [.int s0, .int (0 : Int32)]) (rest := []) ⟨hx, hb, hml, hown, hts⟩ (m_X9_emit l dC dI _ h_me q_me k_me o_me s0 (0 : Int32) z4 ez4) kw1576 kw1573 kw1575 kw68 kw120 hd_X9_emit ⟨rfl, rfl⟩ rfl rfl ⟨rfl, rfl⟩ hX hK hw [0] (by decide) rfl rfl rfl rfl rfl hl.1 rfl rfl dX9_behindTest_67) hw hA [0] (by decide) rfl rfl (fun H locs hw => ?_)
    have hw : Wd dC dI A s.heap [wX9 h_me q_me k_me z4] H locs := hw
    refine lv_aload_n hx hb dX9_behindTest_70 rfl (lv_at hl 0 rfl) ?_
    obtain ⟨z5, ez5, h⟩ := z_bd h
    refine xj_v (xrV (As := []) (rest := []) ⟨hx, hb, hml, hown, hts⟩ (m_X9_next l dC dI _ h_me q_me k_me z4 z5 ez5) kw1512 kw1509 kw1511 kw55 kw120 hd_X9_next ⟨rfl, rfl⟩ rfl rfl ⟨rfl, rfl⟩ hX hK hw [0] (by decide) rfl rfl rfl rfl rfl hl.1 rfl rfl dX9_behindTest_71) hw hA [0] (by decide) rfl rfl (fun H locs hw => ?_)
    have hw : Wd dC dI A s.heap [wX9 h_me q_me k_me z5] H locs := hw
    refine lv_iconst (v := 0) hx hb dX9_behindTest_74 (by decide) ?_
    have hy := Option.some.inj h
    rw [← hQz, ← hy]
    exact xr_i (v := (0 : Int32)) hx hb hr rfl hlk hK hw dX9_behindTest_75
  have bk_47_2 : ∀ (v1 : Int32) (s0 : Int32) (o_me : Ob) (H : Heap) (locs : List Loc) (ls : Array Slot), bk_X9_behindTest_47   v1 s0 o_me = some y → Wd dC dI A s.heap [wX9 h_me q_me k_me o_me] H locs → lv_has ls 2 [(0, .ref h_me), (1, .int v1)] → W p l e ({ frames := 3, cells := 0, slots := 0, locals := 61 } : Room) s m ([.ref h_me] : List Value).toArray below meth c H locs 0 0 Qz (F0 m 47 ls [.int s0, .ref h_me]) := by
    intro v1 s0 o_me H locs ls h hw hl
    unfold bk_X9_behindTest_47 at h
    refine lv_aload_n hx hb dX9_behindTest_47 rfl (lv_at hl 0 rfl) ?_
    refine fgX9_23 hx hb hts hown hK hw 0 rfl kw1199 dX9_behindTest_48 ?_
    obtain ⟨z3, ez3, h⟩ := z_bd h
    refine xj_v (xrV (As := [.int s0, .int (gI o_me 23)]) (rest := []) ⟨hx, hb, hml, hown, hts⟩ (m_X9_push l dC dI _ h_me q_me k_me o_me s0 (gI o_me 23) z3 ez3) kw1547 kw1544 kw1546 kw61 kw120 hd_X9_push ⟨rfl, rfl⟩ rfl rfl ⟨rfl, rfl⟩ hX hK hw [0] (by decide) rfl rfl rfl rfl rfl hl.1 rfl rfl dX9_behindTest_51) hw hA [0] (by decide) rfl rfl (fun H locs hw => ?_)
    have hw : Wd dC dI A s.heap [wX9 h_me q_me k_me z3] H locs := hw
    refine lv_aload_n hx hb dX9_behindTest_54 rfl (lv_at hl 0 rfl) ?_
    refine lv_iload_n hx hb dX9_behindTest_55 rfl (lv_at hl 1 rfl) ?_
    refine lv_if_eq (tgt := 64) hx hb dX9_behindTest_56 (by decide) (fun c => ?_) (fun c => ?_)
    · have h := z_t h c
      refine lv_bipush (v := 30) hx hb dX9_behindTest_64 (by decide) ?_
      exact bk_66_3  (30 : Int32) z3 _ _ _ h hw (lv_sub hl [0] rfl)
    · have h := z_f h c
      refine lv_bipush (v := 29) hx hb dX9_behindTest_59 (by decide) ?_
      refine lv_goto (tgt := 66) hx hb dX9_behindTest_61 (by decide) ?_
      exact bk_66_3  (29 : Int32) z3 _ _ _ h hw (lv_sub hl [0] rfl)
  have bk_32_1 : ∀ (v1 : Int32) (s0 : Int32) (o_me : Ob) (H : Heap) (locs : List Loc) (ls : Array Slot), bk_X9_behindTest_32   v1 s0 o_me = some y → Wd dC dI A s.heap [wX9 h_me q_me k_me o_me] H locs → lv_has ls 2 [(0, .ref h_me), (1, .int v1)] → W p l e ({ frames := 3, cells := 0, slots := 0, locals := 61 } : Room) s m ([.ref h_me] : List Value).toArray below meth c H locs 0 0 Qz (F0 m 32 ls [.int s0, .ref h_me]) := by
    intro v1 s0 o_me H locs ls h hw hl
    unfold bk_X9_behindTest_32 at h
    obtain ⟨z2, ez2, h⟩ := z_bd h
    refine xj_v (xrV (As := [.int s0]) (rest := []) ⟨hx, hb, hml, hown, hts⟩ (m_X9_settle l dC dI _ h_me q_me k_me o_me s0 z2 ez2) kw1592 kw1589 kw1591 kw71 kw120 hd_X9_settle ⟨rfl, rfl⟩ rfl rfl ⟨rfl, rfl⟩ hX hK hw [0] (by decide) rfl rfl rfl rfl rfl hl.1 rfl rfl dX9_behindTest_32) hw hA [0] (by decide) rfl rfl (fun H locs hw => ?_)
    have hw : Wd dC dI A s.heap [wX9 h_me q_me k_me z2] H locs := hw
    refine lv_aload_n hx hb dX9_behindTest_35 rfl (lv_at hl 0 rfl) ?_
    refine lv_iload_n hx hb dX9_behindTest_36 rfl (lv_at hl 1 rfl) ?_
    refine lv_if_eq (tgt := 45) hx hb dX9_behindTest_37 (by decide) (fun c => ?_) (fun c => ?_)
    · have h := z_t h c
      refine lv_bipush (v := 30) hx hb dX9_behindTest_45 (by decide) ?_
      exact bk_47_2  v1 (30 : Int32) z2 _ _ _ h hw (lv_sub hl [0, 1] rfl)
    · have h := z_f h c
      refine lv_bipush (v := 29) hx hb dX9_behindTest_40 (by decide) ?_
      refine lv_goto (tgt := 47) hx hb dX9_behindTest_42 (by decide) ?_
      exact bk_47_2  v1 (29 : Int32) z2 _ _ _ h hw (lv_sub hl [0, 1] rfl)
  have bk_22_0 : ∀ (v1 : Int32) (o_me : Ob) (H : Heap) (locs : List Loc) (ls : Array Slot), bk_X9_behindTest_22   v1 o_me = some y → Wd dC dI A s.heap [wX9 h_me q_me k_me o_me] H locs → lv_has ls 2 [(0, .ref h_me), (1, .int v1)] → W p l e ({ frames := 3, cells := 0, slots := 0, locals := 61 } : Room) s m ([.ref h_me] : List Value).toArray below meth c H locs 0 0 Qz (F0 m 22 ls []) := by
    intro v1 o_me H locs ls h hw hl
    unfold bk_X9_behindTest_22 at h
    refine lv_aload_n hx hb dX9_behindTest_22 rfl (lv_at hl 0 rfl) ?_
    refine lv_iload_n hx hb dX9_behindTest_23 rfl (lv_at hl 1 rfl) ?_
    refine lv_if_eq (tgt := 31) hx hb dX9_behindTest_24 (by decide) (fun c => ?_) (fun c => ?_)
    · have h := z_t h c
      refine lv_iconst (v := 1) hx hb dX9_behindTest_31 (by decide) ?_
      exact bk_32_1  v1 (1 : Int32) o_me _ _ _ h hw (lv_sub hl [0, 1] rfl)
    · have h := z_f h c
      refine lv_iconst (v := 2) hx hb dX9_behindTest_27 (by decide) ?_
      refine lv_goto (tgt := 32) hx hb dX9_behindTest_28 (by decide) ?_
      exact bk_32_1  v1 (2 : Int32) o_me _ _ _ h hw (lv_sub hl [0, 1] rfl)
  unfold f_X9_behindTest at h
  refine lv_aload_n hx hb dX9_behindTest_0 rfl (lv_at hl 0 rfl) ?_
  refine lv_ldc2 (v := 1476) hx hb hown (hts _ kw1609) dX9_behindTest_1 ?_
  obtain ⟨z1, ez1, h⟩ := z_bd h
  refine xj_i (xrV (As := [.long (1476 : Int64)]) (rest := []) ⟨hx, hb, hml, hown, hts⟩ (m_X9_isWord l dC dI _ h_me q_me k_me o_me (1476 : Int64) z1 ez1) kw1530 kw1527 kw1529 kw57 kw120 hd_X9_isWord ⟨rfl, rfl⟩ rfl rfl ⟨rfl, rfl⟩ hX hK hw [0] (by decide) rfl rfl rfl rfl rfl hl.1 rfl rfl dX9_behindTest_4) hw hA [0] (by decide) rfl rfl (fun H locs hw => ?_)
  have hw : Wd dC dI A s.heap [wX9 h_me q_me k_me o_me] H locs := hw
  refine lv_istore_n (lv' := [(1, .int z1), (0, .ref h_me)]) hx hb dX9_behindTest_7 rfl hl (by decide) rfl (fun ls hl => ?_)
  refine lv_iload_n hx hb dX9_behindTest_8 rfl (lv_at hl 0 rfl) ?_
  refine lv_if_ne (tgt := 22) hx hb dX9_behindTest_9 (by decide) (fun c => ?_) (fun c => ?_)
  · have h := z_f h c
    exact bk_22_0  z1 o_me _ _ _ h hw (lv_sub hl [1, 0] rfl)
  · have h := z_t h c
    refine lv_aload_n hx hb dX9_behindTest_12 rfl (lv_at hl 1 rfl) ?_
    refine lv_ldc2 (v := 498) hx hb hown (hts _ kw1610) dX9_behindTest_13 ?_
    obtain ⟨z6, ez6, h⟩ := z_bd h
    refine xj_i (xrV (As := [.long (498 : Int64)]) (rest := []) ⟨hx, hb, hml, hown, hts⟩ (m_X9_isWord l dC dI _ h_me q_me k_me o_me (498 : Int64) z6 ez6) kw1530 kw1527 kw1529 kw57 kw120 hd_X9_isWord ⟨rfl, rfl⟩ rfl rfl ⟨rfl, rfl⟩ hX hK hw [0] (by decide) rfl rfl rfl rfl rfl hl.1 rfl rfl dX9_behindTest_16) hw hA [0] (by decide) rfl rfl (fun H locs hw => ?_)
    have hw : Wd dC dI A s.heap [wX9 h_me q_me k_me o_me] H locs := hw
    refine lv_if_eq (tgt := 76) hx hb dX9_behindTest_19 (by decide) (fun c => ?_) (fun c => ?_)
    · have h := z_t h c
      refine lv_aload_n hx hb dX9_behindTest_76 rfl (lv_at hl 1 rfl) ?_
      obtain ⟨z7, ez7, h⟩ := z_bd h
      refine xj_i (xrV (As := []) (rest := []) ⟨hx, hb, hml, hown, hts⟩ (m_X9_inner l dC dI _ h_me q_me k_me o_me z7 ez7) kw1596 kw1593 kw1595 kw72 kw120 hd_X9_inner ⟨rfl, rfl⟩ rfl rfl ⟨rfl, rfl⟩ hX hK hw [0] (by decide) rfl rfl rfl rfl rfl hl.1 rfl rfl dX9_behindTest_77) hw hA [0] (by decide) rfl rfl (fun H locs hw => ?_)
      have hw : Wd dC dI A s.heap [wX9 h_me q_me k_me o_me] H locs := hw
      refine lv_iconst (v := (-1)) hx hb dX9_behindTest_80 (by decide) ?_
      refine lv_icmp_ne (tgt := 86) hx hb dX9_behindTest_81 (by decide) (fun c => ?_) (fun c => ?_)
      · have h := z_f h c
        refine lv_aload_n hx hb dX9_behindTest_86 rfl (lv_at hl 1 rfl) ?_
        refine lv_aload_n hx hb dX9_behindTest_87 rfl (lv_at hl 1 rfl) ?_
        refine lv_bipush (v := 41) hx hb dX9_behindTest_88 (by decide) ?_
        obtain ⟨z8, ez8, h⟩ := z_bd h
        refine xj_i (xrV (As := [.int (41 : Int32)]) (rest := [.ref h_me]) ⟨hx, hb, hml, hown, hts⟩ (m_X9_isSign l dC dI _ h_me q_me k_me o_me (41 : Int32) z8 ez8) kw1551 kw1548 kw1550 kw62 kw120 hd_X9_isSign ⟨rfl, rfl⟩ rfl rfl ⟨rfl, rfl⟩ hX hK hw [0] (by decide) rfl rfl rfl rfl rfl hl.1 rfl rfl dX9_behindTest_90) hw hA [0] (by decide) rfl rfl (fun H locs hw => ?_)
        have hw : Wd dC dI A s.heap [wX9 h_me q_me k_me o_me] H locs := hw
        obtain ⟨z9, ez9, h⟩ := z_bd h
        refine xj_v (xrV (As := [.int z8]) (rest := []) ⟨hx, hb, hml, hown, hts⟩ (m_X9_must l dC dI _ h_me q_me k_me o_me z8 z9 ez9) kw1534 kw1531 kw1533 kw58 kw120 hd_X9_must ⟨rfl, rfl⟩ rfl rfl ⟨rfl, rfl⟩ hX hK hw [0] (by decide) rfl rfl rfl rfl rfl hl.1 rfl rfl dX9_behindTest_93) hw hA [0] (by decide) rfl rfl (fun H locs hw => ?_)
        have hw : Wd dC dI A s.heap [wX9 h_me q_me k_me z9] H locs := hw
        refine lv_aload_n hx hb dX9_behindTest_96 rfl (lv_at hl 1 rfl) ?_
        refine fgX9_19 hx hb hts hown hK hw 0 rfl kw1195 dX9_behindTest_97 ?_
        refine lv_if_ne (tgt := 128) hx hb dX9_behindTest_100 (by decide) (fun c => ?_) (fun c => ?_)
        · have h := z_f h c
          refine lv_iconst (v := 2) hx hb dX9_behindTest_128 (by decide) ?_
          have hy := Option.some.inj h
          rw [← hQz, ← hy]
          exact xr_i (v := (2 : Int32)) hx hb hr rfl hlk hK hw dX9_behindTest_129
        · have h := z_t h c
          refine lv_aload_n hx hb dX9_behindTest_103 rfl (lv_at hl 1 rfl) ?_
          refine lv_iconst (v := 1) hx hb dX9_behindTest_104 (by decide) ?_
          obtain ⟨z10, ez10, h⟩ := z_bd h
          refine xj_v (xrV (As := [.int (1 : Int32)]) (rest := []) ⟨hx, hb, hml, hown, hts⟩ (m_X9_settle l dC dI _ h_me q_me k_me z9 (1 : Int32) z10 ez10) kw1592 kw1589 kw1591 kw71 kw120 hd_X9_settle ⟨rfl, rfl⟩ rfl rfl ⟨rfl, rfl⟩ hX hK hw [0] (by decide) rfl rfl rfl rfl rfl hl.1 rfl rfl dX9_behindTest_105) hw hA [0] (by decide) rfl rfl (fun H locs hw => ?_)
          have hw : Wd dC dI A s.heap [wX9 h_me q_me k_me z10] H locs := hw
          refine lv_aload_n hx hb dX9_behindTest_108 rfl (lv_at hl 1 rfl) ?_
          refine lv_dup hx hb dX9_behindTest_109 rfl ?_
          refine fgX9_29 hx hb hts hown hK hw 0 rfl kw1205 dX9_behindTest_110 ?_
          refine lv_iconst (v := 1) hx hb dX9_behindTest_113 (by decide) ?_
          refine lv_isub hx hb dX9_behindTest_114 ?_
          refine fpX9_29 hx hb hts hown hK hw 0 rfl kw1205 dX9_behindTest_115 (fun H locs hw => ?_)
          obtain ⟨o11, eo11, h⟩ := z_lt h
          have hw : Wd dC dI A s.heap [wX9 h_me q_me k_me o11] H locs := by rw [eo11]; exact hw
          refine lv_aload_n hx hb dX9_behindTest_118 rfl (lv_at hl 1 rfl) ?_
          refine lv_dup hx hb dX9_behindTest_119 rfl ?_
          refine fgX9_30 hx hb hts hown hK hw 0 rfl kw1206 dX9_behindTest_120 ?_
          refine lv_iconst (v := 1) hx hb dX9_behindTest_123 (by decide) ?_
          refine lv_isub hx hb dX9_behindTest_124 ?_
          refine fpX9_30 hx hb hts hown hK hw 0 rfl kw1206 dX9_behindTest_125 (fun H locs hw => ?_)
          obtain ⟨o12, eo12, h⟩ := z_lt h
          have hw : Wd dC dI A s.heap [wX9 h_me q_me k_me o12] H locs := by rw [eo12]; exact hw
          refine lv_iconst (v := 2) hx hb dX9_behindTest_128 (by decide) ?_
          have hy := Option.some.inj h
          rw [← hQz, ← hy]
          exact xr_i (v := (2 : Int32)) hx hb hr rfl hlk hK hw dX9_behindTest_129
      · have h := z_t h c
        refine lv_iconst (v := 4) hx hb dX9_behindTest_84 (by decide) ?_
        have hy := Option.some.inj h
        rw [← hQz, ← hy]
        exact xr_i (v := (4 : Int32)) hx hb hr rfl hlk hK hw dX9_behindTest_85
    · have h := z_f h c
      exact bk_22_0  z1 o_me _ _ _ h hw (lv_sub hl [1, 0] rfl)

def f_X9_blots (o_me : Ob) : Option (Int32 × Ob) :=
  zlt (sI o_me 0 (0 : Int32)) fun o1 =>
  some (gI o1 11, o1)
set_option maxHeartbeats 4000000 in
set_option maxRecDepth 100000 in
theorem m_X9_blots (l : Launch) (dC : Nat → ClassId) (dI : Nat → Nat → Nat) (sz : Nat) (h_me : Nat) (q_me : Nat → Nat) (k_me : Nat → ClassId) (o_me : Ob) (y : Int32 × Ob) (h : f_X9_blots o_me = some y) : CI l yX9_blots cX9_blots 1 (some .int) ({ frames := 0, cells := 0, slots := 0, locals := 0 } : Room) dC dI sz [.ref h_me] [wX9 h_me q_me k_me o_me] [tX9 k_me] y.1 [wX9 h_me q_me k_me y.2] := by
  refine CC_of (by decide) (Nat.le_of_ble_eq_true rfl) ?_
  intro p e s m below meth c A ls hx hb hml hr hlk hnm hown hts hX hK hP hD hA hl
  have hl : lv_has ls 1 [(0, .ref h_me)] := hl
  have hown : s.vm.findClass RX9 = some m.cls := hown
  have hw : Wd dC dI A s.heap [wX9 h_me q_me k_me o_me] s.heap [] := ⟨hP, hD, va_S.rf⟩
  generalize hQz : (MQ below (QI dC dI (fun r (_ : Unit) => r = y.1) (fun _ => Jn [wX9 h_me q_me k_me y.2]) (fun _ => Jt [tX9 k_me]) A) ([.ref h_me] : List Value).toArray s 0 0 A) = Qz
  clear hP hD hnm
  unfold f_X9_blots at h
  refine lv_aload_n hx hb dX9_blots_0 rfl (lv_at hl 0 rfl) ?_
  refine lv_iconst (v := 0) hx hb dX9_blots_1 (by decide) ?_
  refine fpX9_0 hx hb hts hown hK hw 0 rfl kw1176 dX9_blots_2 (fun H locs hw => ?_)
  obtain ⟨o1, eo1, h⟩ := z_lt h
  have hw : Wd dC dI A s.heap [wX9 h_me q_me k_me o1] H locs := by rw [eo1]; exact hw
  refine lv_aload_n hx hb dX9_blots_5 rfl (lv_at hl 0 rfl) ?_
  refine fgX9_11 hx hb hts hown hK hw 0 rfl kw1187 dX9_blots_6 ?_
  have hy := Option.some.inj h
  rw [← hQz, ← hy]
  exact xr_i (v := gI o1 11) hx hb hr rfl hlk hK hw dX9_blots_9

def bk_X9_thatCanBe_92  (rec_4_0 : Int32 × Int32 × Ob → Option (Int32 × Ob)) (v2 : Int32) (s0 : Int32) (s1 : Int32) (o_me : Ob) : Option (Int32 × Ob) :=
  zlt (s1 ||| s0) fun x1 =>
  zlt (v2 + (1 : Int32)) fun x2 =>
  rec_4_0 (x1, x2, o_me)
def bk_X9_thatCanBe_80  (rec_4_0 : Int32 × Int32 × Ob → Option (Int32 × Ob)) (v1 : Int32) (v2 : Int32) (v3 : Int32) (o_me : Ob) : Option (Int32 × Ob) :=
  if v3 = (0 : Int32) then
  (bk_X9_thatCanBe_92  rec_4_0 v2 (0 : Int32) v1 o_me)
  else
  (bk_X9_thatCanBe_92  rec_4_0 v2 ((1 : Int32) <<< (v2 &&& 31)) v1 o_me)
def bk_X9_thatCanBe_73  (rec_4_0 : Int32 × Int32 × Ob → Option (Int32 × Ob)) (rec_19_1 : Int32 × Int32 × Int32 × Int32 × Ob → Option (Int32 × Ob)) (v1 : Int32) (v2 : Int32) (v4 : Int32) (s0 : Int32) (o_me : Ob) : Option (Int32 × Ob) :=
  zlt (v4 + (1 : Int32)) fun x6 =>
  rec_19_1 (v1, v2, s0, x6, o_me)
def lb_X9_thatCanBe_19  (rec_4_0 : Int32 × Int32 × Ob → Option (Int32 × Ob)) (rec_19_1 : Int32 × Int32 × Int32 × Int32 × Ob → Option (Int32 × Ob)) (v1 : Int32) (v2 : Int32) (v3 : Int32) (v4 : Int32) (o_me : Ob) : Option (Int32 × Ob) :=
  if (gA o_me 3 (1 : Int32).toNatClampNeg) ≤ v4 then
  (bk_X9_thatCanBe_80  rec_4_0 v1 v2 v3 o_me)
  else
  (if v3 = (0 : Int32) then
  (bk_X9_thatCanBe_80  rec_4_0 v1 v2 v3 o_me)
  else
  (zgd (zin ((71 : Int32) + ((2 : Int32) * v4)) 5484) <|
  (f_X9_turnsOf o_me v2 (gA o_me 3 ((71 : Int32) + ((2 : Int32) * v4)).toNatClampNeg)).bind fun z4 =>
  zgd (zin (((71 : Int32) + ((2 : Int32) * v4)) + (1 : Int32)) 5484) <|
  if z4.1 = (gA z4.2 3 (((71 : Int32) + ((2 : Int32) * v4)) + (1 : Int32)).toNatClampNeg) then
  (bk_X9_thatCanBe_73  rec_4_0 rec_19_1 v1 v2 v4 (1 : Int32) z4.2)
  else
  (bk_X9_thatCanBe_73  rec_4_0 rec_19_1 v1 v2 v4 (0 : Int32) z4.2)))
def lp_X9_thatCanBe_19  (rec_4_0 : Int32 × Int32 × Ob → Option (Int32 × Ob)) : Nat → (Int32 × Int32 × Int32 × Int32 × Ob) → Option (Int32 × Ob) := zit (fun rec a => lb_X9_thatCanBe_19  rec_4_0 rec a.1 a.2.1 a.2.2.1 a.2.2.2.1 a.2.2.2.2)
def lb_X9_thatCanBe_4   (rec_4_0 : Int32 × Int32 × Ob → Option (Int32 × Ob)) (v1 : Int32) (v2 : Int32) (o_me : Ob) : Option (Int32 × Ob) :=
  if (gA o_me 3 (0 : Int32).toNatClampNeg) ≤ v2 then
  (some (v1, o_me))
  else
  (lp_X9_thatCanBe_19  rec_4_0 zfu (v1, v2, (1 : Int32), (0 : Int32), o_me))
def lp_X9_thatCanBe_4   : Nat → (Int32 × Int32 × Ob) → Option (Int32 × Ob) := zit (fun rec a => lb_X9_thatCanBe_4   rec a.1 a.2.1 a.2.2)
def f_X9_thatCanBe (o_me : Ob) : Option (Int32 × Ob) :=
  lp_X9_thatCanBe_4   zfu ((0 : Int32), (0 : Int32), o_me)
set_option maxHeartbeats 4000000 in
set_option maxRecDepth 100000 in
theorem m_X9_thatCanBe (l : Launch) (dC : Nat → ClassId) (dI : Nat → Nat → Nat) (sz : Nat) (h_me : Nat) (q_me : Nat → Nat) (k_me : Nat → ClassId) (o_me : Ob) (y : Int32 × Ob) (h : f_X9_thatCanBe o_me = some y) : CI l yX9_thatCanBe cX9_thatCanBe 5 (some .int) ({ frames := 6, cells := 0, slots := 0, locals := 145 } : Room) dC dI sz [.ref h_me] [wX9 h_me q_me k_me o_me] [tX9 k_me] y.1 [wX9 h_me q_me k_me y.2] := by
  refine CC_of (by decide) (Nat.le_of_ble_eq_true rfl) ?_
  intro p e s m below meth c A ls hx hb hml hr hlk hnm hown hts hX hK hP hD hA hl
  have hl : lv_has ls 5 [(0, .ref h_me)] := hl
  have hown : s.vm.findClass RX9 = some m.cls := hown
  have hw : Wd dC dI A s.heap [wX9 h_me q_me k_me o_me] s.heap [] := ⟨hP, hD, va_S.rf⟩
  generalize hQz : (MQ below (QI dC dI (fun r (_ : Unit) => r = y.1) (fun _ => Jn [wX9 h_me q_me k_me y.2]) (fun _ => Jt [tX9 k_me]) A) ([.ref h_me] : List Value).toArray s 0 0 A) = Qz
  clear hP hD hnm
  have bk_92_3 : ∀ (rec_4_0 : Int32 × Int32 × Ob → Option (Int32 × Ob)) (hrec_4_0 : ∀ (v1 : Int32) (v2 : Int32) (o_me : Ob) (H : Heap) (locs : List Loc) (ls : Array Slot), rec_4_0 (v1, v2, o_me) = some y → Wd dC dI A s.heap [wX9 h_me q_me k_me o_me] H locs → lv_has ls 5 [(0, .ref h_me), (1, .int v1), (2, .int v2)] → W p l e ({ frames := 6, cells := 0, slots := 0, locals := 145 } : Room) s m ([.ref h_me] : List Value).toArray below meth c H locs 0 0 Qz (F0 m 4 ls [])), ∀ (v2 : Int32) (s0 : Int32) (s1 : Int32) (o_me : Ob) (H : Heap) (locs : List Loc) (ls : Array Slot), bk_X9_thatCanBe_92  rec_4_0 v2 s0 s1 o_me = some y → Wd dC dI A s.heap [wX9 h_me q_me k_me o_me] H locs → lv_has ls 5 [(0, .ref h_me), (2, .int v2)] → W p l e ({ frames := 6, cells := 0, slots := 0, locals := 145 } : Room) s m ([.ref h_me] : List Value).toArray below meth c H locs 0 0 Qz (F0 m 92 ls [.int s0, .int s1]) := by
    intro rec_4_0 hrec_4_0
    intro v2 s0 s1 o_me H locs ls h hw hl
    unfold bk_X9_thatCanBe_92 at h
    refine lv_ior hx hb dX9_thatCanBe_92 ?_
    obtain ⟨x1, ex1, h⟩ := z_lt h
    refine lv_fi (v := x1) ex1.symm ?_
    refine lv_istore_n (lv' := [(1, .int x1), (0, .ref h_me), (2, .int v2)]) hx hb dX9_thatCanBe_93 rfl hl (by decide) rfl (fun ls hl => ?_)
    obtain ⟨x2, ex2, h⟩ := z_lt h
    refine lv_iinc (v := x2) (lv' := [(2, .int x2), (1, .int x1), (0, .ref h_me)]) hx hb dX9_thatCanBe_94 hl (k := 2) rfl ((congrArg (v2 + ·) (show Int32.ofInt 1 = (1 : Int32) from by decide)).trans ex2.symm) (by decide) rfl (fun ls hl => ?_)
    refine lv_goto (tgt := 4) hx hb dX9_thatCanBe_97 (by decide) ?_
    exact hrec_4_0 x1 x2 o_me _ _ _ h hw (lv_sub hl [2, 1, 0] rfl)
  have bk_80_2 : ∀ (rec_4_0 : Int32 × Int32 × Ob → Option (Int32 × Ob)) (hrec_4_0 : ∀ (v1 : Int32) (v2 : Int32) (o_me : Ob) (H : Heap) (locs : List Loc) (ls : Array Slot), rec_4_0 (v1, v2, o_me) = some y → Wd dC dI A s.heap [wX9 h_me q_me k_me o_me] H locs → lv_has ls 5 [(0, .ref h_me), (1, .int v1), (2, .int v2)] → W p l e ({ frames := 6, cells := 0, slots := 0, locals := 145 } : Room) s m ([.ref h_me] : List Value).toArray below meth c H locs 0 0 Qz (F0 m 4 ls [])), ∀ (v1 : Int32) (v2 : Int32) (v3 : Int32) (o_me : Ob) (H : Heap) (locs : List Loc) (ls : Array Slot), bk_X9_thatCanBe_80  rec_4_0 v1 v2 v3 o_me = some y → Wd dC dI A s.heap [wX9 h_me q_me k_me o_me] H locs → lv_has ls 5 [(0, .ref h_me), (1, .int v1), (2, .int v2), (3, .int v3)] → W p l e ({ frames := 6, cells := 0, slots := 0, locals := 145 } : Room) s m ([.ref h_me] : List Value).toArray below meth c H locs 0 0 Qz (F0 m 80 ls []) := by
    intro rec_4_0 hrec_4_0
    intro v1 v2 v3 o_me H locs ls h hw hl
    unfold bk_X9_thatCanBe_80 at h
    refine lv_iload_n hx hb dX9_thatCanBe_80 rfl (lv_at hl 1 rfl) ?_
    refine lv_iload_n hx hb dX9_thatCanBe_81 rfl (lv_at hl 3 rfl) ?_
    refine lv_if_eq (tgt := 91) hx hb dX9_thatCanBe_82 (by decide) (fun c => ?_) (fun c => ?_)
    · have h := z_t h c
      refine lv_iconst (v := 0) hx hb dX9_thatCanBe_91 (by decide) ?_
      exact bk_92_3 rec_4_0 hrec_4_0 v2 (0 : Int32) v1 o_me _ _ _ h hw (lv_sub hl [0, 2] rfl)
    · have h := z_f h c
      refine lv_iconst (v := 1) hx hb dX9_thatCanBe_85 (by decide) ?_
      refine lv_iload_n hx hb dX9_thatCanBe_86 rfl (lv_at hl 2 rfl) ?_
      refine lv_ishl hx hb dX9_thatCanBe_87 ?_
      refine lv_goto (tgt := 92) hx hb dX9_thatCanBe_88 (by decide) ?_
      exact bk_92_3 rec_4_0 hrec_4_0 v2 ((1 : Int32) <<< (v2 &&& 31)) v1 o_me _ _ _ h hw (lv_sub hl [0, 2] rfl)
  have bk_73_4 : ∀ (rec_4_0 : Int32 × Int32 × Ob → Option (Int32 × Ob)) (hrec_4_0 : ∀ (v1 : Int32) (v2 : Int32) (o_me : Ob) (H : Heap) (locs : List Loc) (ls : Array Slot), rec_4_0 (v1, v2, o_me) = some y → Wd dC dI A s.heap [wX9 h_me q_me k_me o_me] H locs → lv_has ls 5 [(0, .ref h_me), (1, .int v1), (2, .int v2)] → W p l e ({ frames := 6, cells := 0, slots := 0, locals := 145 } : Room) s m ([.ref h_me] : List Value).toArray below meth c H locs 0 0 Qz (F0 m 4 ls [])) (rec_19_1 : Int32 × Int32 × Int32 × Int32 × Ob → Option (Int32 × Ob)) (hrec_19_1 : ∀ (v1 : Int32) (v2 : Int32) (v3 : Int32) (v4 : Int32) (o_me : Ob) (H : Heap) (locs : List Loc) (ls : Array Slot), rec_19_1 (v1, v2, v3, v4, o_me) = some y → Wd dC dI A s.heap [wX9 h_me q_me k_me o_me] H locs → lv_has ls 5 [(0, .ref h_me), (1, .int v1), (2, .int v2), (3, .int v3), (4, .int v4)] → W p l e ({ frames := 6, cells := 0, slots := 0, locals := 145 } : Room) s m ([.ref h_me] : List Value).toArray below meth c H locs 0 0 Qz (F0 m 19 ls [])), ∀ (v1 : Int32) (v2 : Int32) (v4 : Int32) (s0 : Int32) (o_me : Ob) (H : Heap) (locs : List Loc) (ls : Array Slot), bk_X9_thatCanBe_73  rec_4_0 rec_19_1 v1 v2 v4 s0 o_me = some y → Wd dC dI A s.heap [wX9 h_me q_me k_me o_me] H locs → lv_has ls 5 [(0, .ref h_me), (1, .int v1), (2, .int v2), (4, .int v4)] → W p l e ({ frames := 6, cells := 0, slots := 0, locals := 145 } : Room) s m ([.ref h_me] : List Value).toArray below meth c H locs 0 0 Qz (F0 m 73 ls [.int s0]) := by
    intro rec_4_0 hrec_4_0 rec_19_1 hrec_19_1
    intro v1 v2 v4 s0 o_me H locs ls h hw hl
    unfold bk_X9_thatCanBe_73 at h
    refine lv_istore_n (lv' := [(3, .int s0), (0, .ref h_me), (1, .int v1), (2, .int v2), (4, .int v4)]) hx hb dX9_thatCanBe_73 rfl hl (by decide) rfl (fun ls hl => ?_)
    obtain ⟨x6, ex6, h⟩ := z_lt h
    refine lv_iinc (v := x6) (lv' := [(4, .int x6), (3, .int s0), (0, .ref h_me), (1, .int v1), (2, .int v2)]) hx hb dX9_thatCanBe_74 hl (k := 4) rfl ((congrArg (v4 + ·) (show Int32.ofInt 1 = (1 : Int32) from by decide)).trans ex6.symm) (by decide) rfl (fun ls hl => ?_)
    refine lv_goto (tgt := 19) hx hb dX9_thatCanBe_77 (by decide) ?_
    exact hrec_19_1 v1 v2 s0 x6 o_me _ _ _ h hw (lv_sub hl [2, 3, 4, 1, 0] rfl)
  have lp_19_1 : ∀ (rec_4_0 : Int32 × Int32 × Ob → Option (Int32 × Ob)) (hrec_4_0 : ∀ (v1 : Int32) (v2 : Int32) (o_me : Ob) (H : Heap) (locs : List Loc) (ls : Array Slot), rec_4_0 (v1, v2, o_me) = some y → Wd dC dI A s.heap [wX9 h_me q_me k_me o_me] H locs → lv_has ls 5 [(0, .ref h_me), (1, .int v1), (2, .int v2)] → W p l e ({ frames := 6, cells := 0, slots := 0, locals := 145 } : Room) s m ([.ref h_me] : List Value).toArray below meth c H locs 0 0 Qz (F0 m 4 ls [])) (N : Nat), ∀ (v1 : Int32) (v2 : Int32) (v3 : Int32) (v4 : Int32) (o_me : Ob) (H : Heap) (locs : List Loc) (ls : Array Slot), lp_X9_thatCanBe_19  rec_4_0 N (v1, v2, v3, v4, o_me) = some y → Wd dC dI A s.heap [wX9 h_me q_me k_me o_me] H locs → lv_has ls 5 [(0, .ref h_me), (1, .int v1), (2, .int v2), (3, .int v3), (4, .int v4)] → W p l e ({ frames := 6, cells := 0, slots := 0, locals := 145 } : Room) s m ([.ref h_me] : List Value).toArray below meth c H locs 0 0 Qz (F0 m 19 ls []) := by
    intro rec_4_0 hrec_4_0
    intro N
    induction N with
    | zero =>
      intro v1 v2 v3 v4 o_me H locs ls h hw hl
      exact absurd (show (none : Option (Int32 × Ob)) = some y from h) (by simp)
    | succ N ih =>
      intro v1 v2 v3 v4 o_me H locs ls h hw hl
      have h : lb_X9_thatCanBe_19  rec_4_0 (lp_X9_thatCanBe_19  rec_4_0 N) v1 v2 v3 v4 o_me = some y := h
      unfold lb_X9_thatCanBe_19 at h
      refine lv_iload hx hb dX9_thatCanBe_19 (lv_at hl 4 rfl) ?_
      refine lv_aload_n hx hb dX9_thatCanBe_21 rfl (lv_at hl 0 rfl) ?_
      refine fgX9_3 hx hb hts hown hK hw 0 rfl kw1179 dX9_thatCanBe_22 ?_
      refine lv_iconst (v := 1) hx hb dX9_thatCanBe_25 (by decide) ?_
      refine faX9_3 hx hb hK hw 0 rfl rfl (by decide) dX9_thatCanBe_26 ?_
      refine lv_icmp_ge (tgt := 80) hx hb dX9_thatCanBe_27 (by decide) (fun c => ?_) (fun c => ?_)
      · have h := z_t h c
        exact bk_80_2 rec_4_0 hrec_4_0 v1 v2 v3 o_me _ _ _ h hw (lv_sub hl [0, 1, 2, 3] rfl)
      · have h := z_f h c
        refine lv_iload_n hx hb dX9_thatCanBe_30 rfl (lv_at hl 3 rfl) ?_
        refine lv_if_eq (tgt := 80) hx hb dX9_thatCanBe_31 (by decide) (fun c => ?_) (fun c => ?_)
        · have h := z_t h c
          exact bk_80_2 rec_4_0 hrec_4_0 v1 v2 v3 o_me _ _ _ h hw (lv_sub hl [0, 1, 2, 3] rfl)
        · have h := z_f h c
          refine lv_aload_n hx hb dX9_thatCanBe_34 rfl (lv_at hl 0 rfl) ?_
          refine lv_iload_n hx hb dX9_thatCanBe_35 rfl (lv_at hl 2 rfl) ?_
          refine lv_aload_n hx hb dX9_thatCanBe_36 rfl (lv_at hl 0 rfl) ?_
          refine fgX9_3 hx hb hts hown hK hw 0 rfl kw1179 dX9_thatCanBe_37 ?_
          refine lv_bipush (v := 71) hx hb dX9_thatCanBe_40 (by decide) ?_
          refine lv_iconst (v := 2) hx hb dX9_thatCanBe_42 (by decide) ?_
          refine lv_iload hx hb dX9_thatCanBe_43 (lv_at hl 4 rfl) ?_
          refine lv_imul hx hb dX9_thatCanBe_45 ?_
          refine lv_iadd hx hb dX9_thatCanBe_46 ?_
          obtain ⟨g3, h⟩ := z_gd h
          refine faX9_3 hx hb hK hw 0 rfl rfl g3 dX9_thatCanBe_47 ?_
          obtain ⟨z4, ez4, h⟩ := z_bd h
          refine xj_i (xrV (As := [.int v2, .int (gA o_me 3 ((71 : Int32) + ((2 : Int32) * v4)).toNatClampNeg)]) (rest := []) ⟨hx, hb, hml, hown, hts⟩ (m_X9_turnsOf l dC dI _ h_me q_me k_me o_me v2 (gA o_me 3 ((71 : Int32) + ((2 : Int32) * v4)).toNatClampNeg) z4 ez4) kw1652 kw1649 kw1651 kw82 kw120 hd_X9_turnsOf ⟨rfl, rfl⟩ rfl rfl ⟨rfl, rfl⟩ hX hK hw [0] (by decide) rfl rfl rfl rfl rfl hl.1 rfl rfl dX9_thatCanBe_48) hw hA [0] (by decide) rfl rfl (fun H locs hw => ?_)
          have hw : Wd dC dI A s.heap [wX9 h_me q_me k_me z4.2] H locs := hw
          refine lv_aload_n hx hb dX9_thatCanBe_51 rfl (lv_at hl 0 rfl) ?_
          refine fgX9_3 hx hb hts hown hK hw 0 rfl kw1179 dX9_thatCanBe_52 ?_
          refine lv_bipush (v := 71) hx hb dX9_thatCanBe_55 (by decide) ?_
          refine lv_iconst (v := 2) hx hb dX9_thatCanBe_57 (by decide) ?_
          refine lv_iload hx hb dX9_thatCanBe_58 (lv_at hl 4 rfl) ?_
          refine lv_imul hx hb dX9_thatCanBe_60 ?_
          refine lv_iadd hx hb dX9_thatCanBe_61 ?_
          refine lv_iconst (v := 1) hx hb dX9_thatCanBe_62 (by decide) ?_
          refine lv_iadd hx hb dX9_thatCanBe_63 ?_
          obtain ⟨g5, h⟩ := z_gd h
          refine faX9_3 hx hb hK hw 0 rfl rfl g5 dX9_thatCanBe_64 ?_
          refine lv_icmp_ne (tgt := 72) hx hb dX9_thatCanBe_65 (by decide) (fun c => ?_) (fun c => ?_)
          · have h := z_f h c
            refine lv_iconst (v := 0) hx hb dX9_thatCanBe_72 (by decide) ?_
            exact bk_73_4 rec_4_0 hrec_4_0 (lp_X9_thatCanBe_19  rec_4_0 N) ih v1 v2 v4 (0 : Int32) z4.2 _ _ _ h hw (lv_sub hl [0, 1, 2, 4] rfl)
          · have h := z_t h c
            refine lv_iconst (v := 1) hx hb dX9_thatCanBe_68 (by decide) ?_
            refine lv_goto (tgt := 73) hx hb dX9_thatCanBe_69 (by decide) ?_
            exact bk_73_4 rec_4_0 hrec_4_0 (lp_X9_thatCanBe_19  rec_4_0 N) ih v1 v2 v4 (1 : Int32) z4.2 _ _ _ h hw (lv_sub hl [0, 1, 2, 4] rfl)
  have lp_4_0 : ∀ (N : Nat), ∀ (v1 : Int32) (v2 : Int32) (o_me : Ob) (H : Heap) (locs : List Loc) (ls : Array Slot), lp_X9_thatCanBe_4   N (v1, v2, o_me) = some y → Wd dC dI A s.heap [wX9 h_me q_me k_me o_me] H locs → lv_has ls 5 [(0, .ref h_me), (1, .int v1), (2, .int v2)] → W p l e ({ frames := 6, cells := 0, slots := 0, locals := 145 } : Room) s m ([.ref h_me] : List Value).toArray below meth c H locs 0 0 Qz (F0 m 4 ls []) := by
    intro N
    induction N with
    | zero =>
      intro v1 v2 o_me H locs ls h hw hl
      exact absurd (show (none : Option (Int32 × Ob)) = some y from h) (by simp)
    | succ N ih =>
      intro v1 v2 o_me H locs ls h hw hl
      have h : lb_X9_thatCanBe_4   (lp_X9_thatCanBe_4   N) v1 v2 o_me = some y := h
      unfold lb_X9_thatCanBe_4 at h
      refine lv_iload_n hx hb dX9_thatCanBe_4 rfl (lv_at hl 2 rfl) ?_
      refine lv_aload_n hx hb dX9_thatCanBe_5 rfl (lv_at hl 0 rfl) ?_
      refine fgX9_3 hx hb hts hown hK hw 0 rfl kw1179 dX9_thatCanBe_6 ?_
      refine lv_iconst (v := 0) hx hb dX9_thatCanBe_9 (by decide) ?_
      refine faX9_3 hx hb hK hw 0 rfl rfl (by decide) dX9_thatCanBe_10 ?_
      refine lv_icmp_ge (tgt := 100) hx hb dX9_thatCanBe_11 (by decide) (fun c => ?_) (fun c => ?_)
      · have h := z_t h c
        refine lv_iload_n hx hb dX9_thatCanBe_100 rfl (lv_at hl 1 rfl) ?_
        have hy := Option.some.inj h
        rw [← hQz, ← hy]
        exact xr_i (v := v1) hx hb hr rfl hlk hK hw dX9_thatCanBe_101
      · have h := z_f h c
        refine lv_iconst (v := 1) hx hb dX9_thatCanBe_14 (by decide) ?_
        refine lv_istore_n (lv' := [(3, .int (1 : Int32)), (0, .ref h_me), (1, .int v1), (2, .int v2)]) hx hb dX9_thatCanBe_15 rfl hl (by decide) rfl (fun ls hl => ?_)
        refine lv_iconst (v := 0) hx hb dX9_thatCanBe_16 (by decide) ?_
        refine lv_istore (lv' := [(4, .int (0 : Int32)), (3, .int (1 : Int32)), (0, .ref h_me), (1, .int v1), (2, .int v2)]) hx hb dX9_thatCanBe_17 hl (by decide) rfl (fun ls hl => ?_)
        exact lp_19_1 (lp_X9_thatCanBe_4   N) ih zfu v1 v2 (1 : Int32) (0 : Int32) o_me _ _ _ h hw (lv_sub hl [2, 3, 4, 1, 0] rfl)
  unfold f_X9_thatCanBe at h
  refine lv_iconst (v := 0) hx hb dX9_thatCanBe_0 (by decide) ?_
  refine lv_istore_n (lv' := [(1, .int (0 : Int32)), (0, .ref h_me)]) hx hb dX9_thatCanBe_1 rfl hl (by decide) rfl (fun ls hl => ?_)
  refine lv_iconst (v := 0) hx hb dX9_thatCanBe_2 (by decide) ?_
  refine lv_istore_n (lv' := [(2, .int (0 : Int32)), (1, .int (0 : Int32)), (0, .ref h_me)]) hx hb dX9_thatCanBe_3 rfl hl (by decide) rfl (fun ls hl => ?_)
  exact lp_4_0  zfu (0 : Int32) (0 : Int32) o_me _ _ _ h hw (lv_sub hl [2, 1, 0] rfl)

def f_X9_canBe (o_me : Ob) : Option (Int32 × Ob) :=
  zlt (sI o_me 0 (0 : Int32)) fun o1 =>
  (f_X9_thatCanBe o1).bind fun z2 =>
  some (z2.1, z2.2)
set_option maxHeartbeats 4000000 in
set_option maxRecDepth 100000 in
theorem m_X9_canBe (l : Launch) (dC : Nat → ClassId) (dI : Nat → Nat → Nat) (sz : Nat) (h_me : Nat) (q_me : Nat → Nat) (k_me : Nat → ClassId) (o_me : Ob) (y : Int32 × Ob) (h : f_X9_canBe o_me = some y) : CI l yX9_canBe cX9_canBe 1 (some .int) ({ frames := 7, cells := 0, slots := 0, locals := 169 } : Room) dC dI sz [.ref h_me] [wX9 h_me q_me k_me o_me] [tX9 k_me] y.1 [wX9 h_me q_me k_me y.2] := by
  refine CC_of (by decide) (Nat.le_of_ble_eq_true rfl) ?_
  intro p e s m below meth c A ls hx hb hml hr hlk hnm hown hts hX hK hP hD hA hl
  have hl : lv_has ls 1 [(0, .ref h_me)] := hl
  have hown : s.vm.findClass RX9 = some m.cls := hown
  have hw : Wd dC dI A s.heap [wX9 h_me q_me k_me o_me] s.heap [] := ⟨hP, hD, va_S.rf⟩
  generalize hQz : (MQ below (QI dC dI (fun r (_ : Unit) => r = y.1) (fun _ => Jn [wX9 h_me q_me k_me y.2]) (fun _ => Jt [tX9 k_me]) A) ([.ref h_me] : List Value).toArray s 0 0 A) = Qz
  clear hP hD hnm
  unfold f_X9_canBe at h
  refine lv_aload_n hx hb dX9_canBe_0 rfl (lv_at hl 0 rfl) ?_
  refine lv_iconst (v := 0) hx hb dX9_canBe_1 (by decide) ?_
  refine fpX9_0 hx hb hts hown hK hw 0 rfl kw1176 dX9_canBe_2 (fun H locs hw => ?_)
  obtain ⟨o1, eo1, h⟩ := z_lt h
  have hw : Wd dC dI A s.heap [wX9 h_me q_me k_me o1] H locs := by rw [eo1]; exact hw
  refine lv_aload_n hx hb dX9_canBe_5 rfl (lv_at hl 0 rfl) ?_
  obtain ⟨z2, ez2, h⟩ := z_bd h
  refine xj_i (xrV (As := []) (rest := []) ⟨hx, hb, hml, hown, hts⟩ (m_X9_thatCanBe l dC dI _ h_me q_me k_me o1 z2 ez2) kw1727 kw1724 kw1726 kw92 kw120 hd_X9_thatCanBe ⟨rfl, rfl⟩ rfl rfl ⟨rfl, rfl⟩ hX hK hw [0] (by decide) rfl rfl rfl rfl rfl hl.1 rfl rfl dX9_canBe_6) hw hA [0] (by decide) rfl rfl (fun H locs hw => ?_)
  have hw : Wd dC dI A s.heap [wX9 h_me q_me k_me z2.2] H locs := hw
  have hy := Option.some.inj h
  rw [← hQz, ← hy]
  exact xr_i (v := z2.1) hx hb hr rfl hlk hK hw dX9_canBe_9

def lb_X9_putBack_2   (rec_2_0 : Int32 × Int32 × Ob → Option (Ob)) (v1 : Int32) (v2 : Int32) (o_me : Ob) : Option (Ob) :=
  if (25 : Int32) ≤ v2 then
  (some o_me)
  else
  (zgd (zin (((25 : Int32) * v1) + v2) 450) <|
  zgd (zin ((4 : Int32) + v2) 5484) <|
  zlt (tA o_me 3 ((4 : Int32) + v2).toNatClampNeg (gA o_me 6 (((25 : Int32) * v1) + v2).toNatClampNeg)) fun o3 =>
  zlt (v2 + (1 : Int32)) fun x4 =>
  rec_2_0 (v1, x4, o3))
def lp_X9_putBack_2   : Nat → (Int32 × Int32 × Ob) → Option (Ob) := zit (fun rec a => lb_X9_putBack_2   rec a.1 a.2.1 a.2.2)
def f_X9_putBack (o_me : Ob) (p0 : Int32) : Option (Ob) :=
  lp_X9_putBack_2   zfu (p0, (0 : Int32), o_me)
set_option maxHeartbeats 4000000 in
set_option maxRecDepth 100000 in
theorem m_X9_putBack (l : Launch) (dC : Nat → ClassId) (dI : Nat → Nat → Nat) (sz : Nat) (h_me : Nat) (q_me : Nat → Nat) (k_me : Nat → ClassId) (o_me : Ob) (p0 : Int32) (y : Ob) (h : f_X9_putBack o_me p0 = some y) : CV l yX9_putBack cX9_putBack 3 none ({ frames := 0, cells := 0, slots := 0, locals := 0 } : Room) dC dI sz [.ref h_me, .int p0] [wX9 h_me q_me k_me o_me] [tX9 k_me] [wX9 h_me q_me k_me y] := by
  refine CC_of (by decide) (Nat.le_of_ble_eq_true rfl) ?_
  intro p e s m below meth c A ls hx hb hml hr hlk hnm hown hts hX hK hP hD hA hl
  have hl : lv_has ls 3 [(0, .ref h_me), (1, .int p0)] := hl
  have hown : s.vm.findClass RX9 = some m.cls := hown
  have hw : Wd dC dI A s.heap [wX9 h_me q_me k_me o_me] s.heap [] := ⟨hP, hD, va_S.rf⟩
  generalize hQz : (MQ below (QV dC dI (fun (_ : Unit) => True) (fun _ => Jn [wX9 h_me q_me k_me y]) (fun _ => Jt [tX9 k_me]) A) ([.ref h_me, .int p0] : List Value).toArray s 0 0 A) = Qz
  clear hP hD hnm
  have lp_2_0 : ∀ (N : Nat), ∀ (v1 : Int32) (v2 : Int32) (o_me : Ob) (H : Heap) (locs : List Loc) (ls : Array Slot), lp_X9_putBack_2   N (v1, v2, o_me) = some y → Wd dC dI A s.heap [wX9 h_me q_me k_me o_me] H locs → lv_has ls 3 [(0, .ref h_me), (1, .int v1), (2, .int v2)] → W p l e ({ frames := 0, cells := 0, slots := 0, locals := 0 } : Room) s m ([.ref h_me, .int p0] : List Value).toArray below meth c H locs 0 0 Qz (F0 m 2 ls []) := by
    intro N
    induction N with
    | zero =>
      intro v1 v2 o_me H locs ls h hw hl
      exact absurd (show (none : Option (Ob)) = some y from h) (by simp)
    | succ N ih =>
      intro v1 v2 o_me H locs ls h hw hl
      have h : lb_X9_putBack_2   (lp_X9_putBack_2   N) v1 v2 o_me = some y := h
      unfold lb_X9_putBack_2 at h
      refine lv_iload_n hx hb dX9_putBack_2 rfl (lv_at hl 2 rfl) ?_
      refine lv_bipush (v := 25) hx hb dX9_putBack_3 (by decide) ?_
      refine lv_icmp_ge (tgt := 33) hx hb dX9_putBack_5 (by decide) (fun c => ?_) (fun c => ?_)
      · have h := z_t h c
        have hy := Option.some.inj h
        rw [← hQz, ← hy]
        exact xr_v hx hb hr hlk hK hw dX9_putBack_33
      · have h := z_f h c
        refine lv_aload_n hx hb dX9_putBack_8 rfl (lv_at hl 0 rfl) ?_
        refine fgX9_3 hx hb hts hown hK hw 0 rfl kw1179 dX9_putBack_9 ?_
        refine lv_iconst (v := 4) hx hb dX9_putBack_12 (by decide) ?_
        refine lv_iload_n hx hb dX9_putBack_13 rfl (lv_at hl 2 rfl) ?_
        refine lv_iadd hx hb dX9_putBack_14 ?_
        refine lv_aload_n hx hb dX9_putBack_15 rfl (lv_at hl 0 rfl) ?_
        refine fgX9_6 hx hb hts hown hK hw 0 rfl kw1182 dX9_putBack_16 ?_
        refine lv_bipush (v := 25) hx hb dX9_putBack_19 (by decide) ?_
        refine lv_iload_n hx hb dX9_putBack_21 rfl (lv_at hl 1 rfl) ?_
        refine lv_imul hx hb dX9_putBack_22 ?_
        refine lv_iload_n hx hb dX9_putBack_23 rfl (lv_at hl 2 rfl) ?_
        refine lv_iadd hx hb dX9_putBack_24 ?_
        obtain ⟨g1, h⟩ := z_gd h
        refine faX9_6 hx hb hK hw 0 rfl rfl g1 dX9_putBack_25 ?_
        obtain ⟨g2, h⟩ := z_gd h
        refine fbX9_3 hx hb hK hw 0 rfl rfl g2 dX9_putBack_26 (fun H locs hw => ?_)
        obtain ⟨o3, eo3, h⟩ := z_lt h
        have hw : Wd dC dI A s.heap [wX9 h_me q_me k_me o3] H locs := by rw [eo3]; exact hw
        obtain ⟨x4, ex4, h⟩ := z_lt h
        refine lv_iinc (v := x4) (lv' := [(2, .int x4), (0, .ref h_me), (1, .int v1)]) hx hb dX9_putBack_27 hl (k := 2) rfl ((congrArg (v2 + ·) (show Int32.ofInt 1 = (1 : Int32) from by decide)).trans ex4.symm) (by decide) rfl (fun ls hl => ?_)
        refine lv_goto (tgt := 2) hx hb dX9_putBack_30 (by decide) ?_
        exact ih v1 x4 o3 _ _ _ h hw (lv_sub hl [1, 2, 0] rfl)
  unfold f_X9_putBack at h
  refine lv_iconst (v := 0) hx hb dX9_putBack_0 (by decide) ?_
  refine lv_istore_n (lv' := [(2, .int (0 : Int32)), (0, .ref h_me), (1, .int p0)]) hx hb dX9_putBack_1 rfl hl (by decide) rfl (fun ls hl => ?_)
  exact lp_2_0  zfu p0 (0 : Int32) o_me _ _ _ h hw (lv_sub hl [1, 2, 0] rfl)

def f_X9_draw (o_me : Ob) (p0 : Int32) : Option (Int32 × Ob) :=
  zlt (sL o_me 60 ((((gL o_me 60) * (1103 : Int64)) + (12345 : Int64)) - (((gL o_me 60) * (1103 : Int64)) + (12345 : Int64)) / (1000003 : Int64) * (1000003 : Int64))) fun o1 =>
  zgd (decide (¬ p0.toInt64 = 0)) <|
  some (((gL o1 60) - (gL o1 60) / p0.toInt64 * p0.toInt64).toInt32, o1)
set_option maxHeartbeats 4000000 in
set_option maxRecDepth 100000 in
theorem m_X9_draw (l : Launch) (dC : Nat → ClassId) (dI : Nat → Nat → Nat) (sz : Nat) (h_me : Nat) (q_me : Nat → Nat) (k_me : Nat → ClassId) (o_me : Ob) (p0 : Int32) (y : Int32 × Ob) (h : f_X9_draw o_me p0 = some y) : CI l yX9_draw cX9_draw 2 (some .int) ({ frames := 0, cells := 0, slots := 0, locals := 0 } : Room) dC dI sz [.ref h_me, .int p0] [wX9 h_me q_me k_me o_me] [tX9 k_me] y.1 [wX9 h_me q_me k_me y.2] := by
  refine CC_of (by decide) (Nat.le_of_ble_eq_true rfl) ?_
  intro p e s m below meth c A ls hx hb hml hr hlk hnm hown hts hX hK hP hD hA hl
  have hl : lv_has ls 2 [(0, .ref h_me), (1, .int p0)] := hl
  have hown : s.vm.findClass RX9 = some m.cls := hown
  have hw : Wd dC dI A s.heap [wX9 h_me q_me k_me o_me] s.heap [] := ⟨hP, hD, va_S.rf⟩
  generalize hQz : (MQ below (QI dC dI (fun r (_ : Unit) => r = y.1) (fun _ => Jn [wX9 h_me q_me k_me y.2]) (fun _ => Jt [tX9 k_me]) A) ([.ref h_me, .int p0] : List Value).toArray s 0 0 A) = Qz
  clear hP hD hnm
  unfold f_X9_draw at h
  refine lv_aload_n hx hb dX9_draw_0 rfl (lv_at hl 0 rfl) ?_
  refine lv_aload_n hx hb dX9_draw_1 rfl (lv_at hl 0 rfl) ?_
  refine fgX9_60 hx hb hts hown hK hw 0 rfl kw1236 dX9_draw_2 ?_
  refine lv_ldc2 (v := 1103) hx hb hown (hts _ kw1845) dX9_draw_5 ?_
  refine lv_lmul hx hb dX9_draw_8 ?_
  refine lv_ldc2 (v := 12345) hx hb hown (hts _ kw1846) dX9_draw_9 ?_
  refine lv_ladd hx hb dX9_draw_12 ?_
  refine lv_ldc2 (v := 1000003) hx hb hown (hts _ kw1847) dX9_draw_13 ?_
  refine lv_lrem hx hb dX9_draw_16 (by decide) ?_
  refine fpX9_60 hx hb hts hown hK hw 0 rfl kw1236 dX9_draw_17 (fun H locs hw => ?_)
  obtain ⟨o1, eo1, h⟩ := z_lt h
  have hw : Wd dC dI A s.heap [wX9 h_me q_me k_me o1] H locs := by rw [eo1]; exact hw
  refine lv_aload_n hx hb dX9_draw_20 rfl (lv_at hl 0 rfl) ?_
  refine fgX9_60 hx hb hts hown hK hw 0 rfl kw1236 dX9_draw_21 ?_
  refine lv_iload_n hx hb dX9_draw_24 rfl (lv_at hl 1 rfl) ?_
  refine lv_i2l hx hb dX9_draw_25 rfl ?_
  obtain ⟨g2, h⟩ := z_gd h
  refine lv_lrem hx hb dX9_draw_26 (of_decide_eq_true g2) ?_
  refine lv_l2i hx hb dX9_draw_27 rfl ?_
  have hy := Option.some.inj h
  rw [← hQz, ← hy]
  exact xr_i (v := ((gL o1 60) - (gL o1 60) / p0.toInt64 * p0.toInt64).toInt32) hx hb hr rfl hlk hK hw dX9_draw_28

def bk_X9_centuries_29   (o_me : Ob) : Option (Int32 × Ob) :=
  (f_X9_tell o_me (-1 : Int32)).bind fun z3 =>
  some (z3.1, z3.2)
def lb_X9_centuries_195   (rec_195_3 : Int32 × Int32 × Ob → Option (Int32 × Ob)) (v3 : Int32) (v4 : Int32) (o_me : Ob) : Option (Int32 × Ob) :=
  if (25 : Int32) ≤ v4 then
  (zlt (sI o_me 62 (gA o_me 3 (0 : Int32).toNatClampNeg)) fun o7 =>
  (f_X9_putBack o7 (16 : Int32)).bind fun z8 =>
  (f_X9_tell z8 v3).bind fun z9 =>
  some (z9.1, z9.2))
  else
  (zgd (zin ((4 : Int32) + v4) 5484) <|
  zgd (zin v4 25) <|
  zlt (tA o_me 61 v4.toNatClampNeg (gA o_me 3 ((4 : Int32) + v4).toNatClampNeg)) fun o12 =>
  zlt (v4 + (1 : Int32)) fun x13 =>
  rec_195_3 (v3, x13, o12))
def lp_X9_centuries_195   : Nat → (Int32 × Int32 × Ob) → Option (Int32 × Ob) := zit (fun rec a => lb_X9_centuries_195   rec a.1 a.2.1 a.2.2)
def bk_X9_centuries_192   (v3 : Int32) (o_me : Ob) : Option (Int32 × Ob) :=
  lp_X9_centuries_195   zfu (v3, (0 : Int32), o_me)
def bk_X9_centuries_181  (rec_68_1 : Int32 × Int32 × Int32 × Ob → Option (Int32 × Ob)) (v2 : Int32) (v3 : Int32) (v4 : Int32) (o_me : Ob) : Option (Int32 × Ob) :=
  (f_X9_passIt o_me).bind fun z17 =>
  zlt (v4 + (1 : Int32)) fun x18 =>
  rec_68_1 (v2, v3, x18, z17.2)
def bk_X9_centuries_169  (rec_68_1 : Int32 × Int32 × Int32 × Ob → Option (Int32 × Ob)) (v2 : Int32) (v3 : Int32) (v4 : Int32) (v5 : Int32) (v7 : Int32) (o_me : Ob) : Option (Int32 × Ob) :=
  if v7 = (3 : Int32) then
  ((f_X9_takeIt o_me v5).bind fun z19 =>
  bk_X9_centuries_181  rec_68_1 v2 v3 v4 z19)
  else
  (bk_X9_centuries_181  rec_68_1 v2 v3 v4 o_me)
def bk_X9_centuries_140  (rec_68_1 : Int32 × Int32 × Int32 × Ob → Option (Int32 × Ob)) (v2 : Int32) (v3 : Int32) (v4 : Int32) (v5 : Int32) (v6 : Int32) (v7 : Int32) (o_me : Ob) : Option (Int32 × Ob) :=
  if v7 = (2 : Int32) then
  ((f_X9_layPlaces o_me v6).bind fun z20 =>
  if (gI z20 43) ≤ (0 : Int32) then
  (bk_X9_centuries_169  rec_68_1 v2 v3 v4 v5 v7 z20)
  else
  ((f_X9_raceIt z20 v6).bind fun z21 =>
  zlt (v3 + (1 : Int32)) fun x22 =>
  bk_X9_centuries_169  rec_68_1 v2 x22 v4 v5 v7 z21.2))
  else
  (bk_X9_centuries_169  rec_68_1 v2 v3 v4 v5 v7 o_me)
def lb_X9_centuries_68   (rec_68_1 : Int32 × Int32 × Int32 × Ob → Option (Int32 × Ob)) (v2 : Int32) (v3 : Int32) (v4 : Int32) (o_me : Ob) : Option (Int32 × Ob) :=
  if v2 ≤ v4 then
  (bk_X9_centuries_192   v3 o_me)
  else
  (if (999 : Int32) ≤ (gA o_me 3 (4 : Int32).toNatClampNeg) then
  (bk_X9_centuries_192   v3 o_me)
  else
  ((f_X9_draw o_me (gA o_me 3 (0 : Int32).toNatClampNeg)).bind fun z14 =>
  (f_X9_draw z14.2 (4 : Int32)).bind fun z15 =>
  (f_X9_draw z15.2 (4 : Int32)).bind fun z16 =>
  if (2 : Int32) ≤ z16.1 then
  (bk_X9_centuries_140  rec_68_1 v2 v3 v4 z14.1 z15.1 z16.1 z16.2)
  else
  (zgd (zin ((22 : Int32) + z14.1) 5484) <|
  zgd (zin ((22 : Int32) + z14.1) 5484) <|
  zlt (tA z16.2 3 ((22 : Int32) + z14.1).toNatClampNeg ((1 : Int32) - (gA z16.2 3 ((22 : Int32) + z14.1).toNatClampNeg))) fun o25 =>
  bk_X9_centuries_140  rec_68_1 v2 v3 v4 z14.1 z15.1 z16.1 o25)))
def lp_X9_centuries_68   : Nat → (Int32 × Int32 × Int32 × Ob) → Option (Int32 × Ob) := zit (fun rec a => lb_X9_centuries_68   rec a.1 a.2.1 a.2.2.1 a.2.2.2)
def f_X9_centuries (o_me : Ob) (p0 : Int32) (p1 : Int32) : Option (Int32 × Ob) :=
  zlt (sI o_me 0 (0 : Int32)) fun o1 =>
  (f_X9_in p0.toInt64 (0 : Int64) (1000000 : Int64)).bind fun z2 =>
  if z2 = (0 : Int32) then
  (bk_X9_centuries_29   o1)
  else
  ((f_X9_in p1.toInt64 (1 : Int64) (60 : Int64)).bind fun z4 =>
  if z4 = (0 : Int32) then
  (bk_X9_centuries_29   o1)
  else
  (if (gA o1 3 (0 : Int32).toNatClampNeg) = (0 : Int32) then
  ((f_X9_tell o1 (-3 : Int32)).bind fun z26 =>
  some (z26.1, z26.2))
  else
  ((f_X9_keepAll o1 (16 : Int32)).bind fun z5 =>
  zlt (sL z5 60 p0.toInt64) fun o6 =>
  lp_X9_centuries_68   zfu (p1, (0 : Int32), (0 : Int32), o6))))
set_option maxHeartbeats 4000000 in
set_option maxRecDepth 100000 in
theorem m_X9_centuries (l : Launch) (dC : Nat → ClassId) (dI : Nat → Nat → Nat) (sz : Nat) (h_me : Nat) (q_me : Nat → Nat) (k_me : Nat → ClassId) (o_me : Ob) (p0 : Int32) (p1 : Int32) (y : Int32 × Ob) (h : f_X9_centuries o_me p0 p1 = some y) : CI l yX9_centuries cX9_centuries 8 (some .int) ({ frames := 7, cells := 0, slots := 0, locals := 173 } : Room) dC dI sz [.ref h_me, .int p0, .int p1] [wX9 h_me q_me k_me o_me] [tX9 k_me] y.1 [wX9 h_me q_me k_me y.2] := by
  refine CC_of (by decide) (Nat.le_of_ble_eq_true rfl) ?_
  intro p e s m below meth c A ls hx hb hml hr hlk hnm hown hts hX hK hP hD hA hl
  have hl : lv_has ls 8 [(0, .ref h_me), (1, .int p0), (2, .int p1)] := hl
  have hown : s.vm.findClass RX9 = some m.cls := hown
  have hw : Wd dC dI A s.heap [wX9 h_me q_me k_me o_me] s.heap [] := ⟨hP, hD, va_S.rf⟩
  generalize hQz : (MQ below (QI dC dI (fun r (_ : Unit) => r = y.1) (fun _ => Jn [wX9 h_me q_me k_me y.2]) (fun _ => Jt [tX9 k_me]) A) ([.ref h_me, .int p0, .int p1] : List Value).toArray s 0 0 A) = Qz
  clear hP hD hnm
  have bk_29_0 : ∀ (o_me : Ob) (H : Heap) (locs : List Loc) (ls : Array Slot), bk_X9_centuries_29   o_me = some y → Wd dC dI A s.heap [wX9 h_me q_me k_me o_me] H locs → lv_has ls 8 [(0, .ref h_me)] → W p l e ({ frames := 7, cells := 0, slots := 0, locals := 173 } : Room) s m ([.ref h_me, .int p0, .int p1] : List Value).toArray below meth c H locs 0 0 Qz (F0 m 29 ls []) := by
    intro o_me H locs ls h hw hl
    unfold bk_X9_centuries_29 at h
    refine lv_aload_n hx hb dX9_centuries_29 rfl (lv_at hl 0 rfl) ?_
    refine lv_iconst (v := (-1)) hx hb dX9_centuries_30 (by decide) ?_
    obtain ⟨z3, ez3, h⟩ := z_bd h
    refine xj_i (xrV (As := [.int (-1 : Int32)]) (rest := []) ⟨hx, hb, hml, hown, hts⟩ (m_X9_tell l dC dI _ h_me q_me k_me o_me (-1 : Int32) z3 ez3) kw1374 kw1371 kw1373 kw39 kw120 hd_X9_tell ⟨rfl, rfl⟩ rfl rfl ⟨rfl, rfl⟩ hX hK hw [0] (by decide) rfl rfl rfl rfl rfl hl.1 rfl rfl dX9_centuries_31) hw hA [0] (by decide) rfl rfl (fun H locs hw => ?_)
    have hw : Wd dC dI A s.heap [wX9 h_me q_me k_me z3.2] H locs := hw
    have hy := Option.some.inj h
    rw [← hQz, ← hy]
    exact xr_i (v := z3.1) hx hb hr rfl hlk hK hw dX9_centuries_34
  have lp_195_3 : ∀ (N : Nat), ∀ (v3 : Int32) (v4 : Int32) (o_me : Ob) (H : Heap) (locs : List Loc) (ls : Array Slot), lp_X9_centuries_195   N (v3, v4, o_me) = some y → Wd dC dI A s.heap [wX9 h_me q_me k_me o_me] H locs → lv_has ls 8 [(0, .ref h_me), (3, .int v3), (4, .int v4)] → W p l e ({ frames := 7, cells := 0, slots := 0, locals := 173 } : Room) s m ([.ref h_me, .int p0, .int p1] : List Value).toArray below meth c H locs 0 0 Qz (F0 m 195 ls []) := by
    intro N
    induction N with
    | zero =>
      intro v3 v4 o_me H locs ls h hw hl
      exact absurd (show (none : Option (Int32 × Ob)) = some y from h) (by simp)
    | succ N ih =>
      intro v3 v4 o_me H locs ls h hw hl
      have h : lb_X9_centuries_195   (lp_X9_centuries_195   N) v3 v4 o_me = some y := h
      unfold lb_X9_centuries_195 at h
      refine lv_iload hx hb dX9_centuries_195 (lv_at hl 2 rfl) ?_
      refine lv_bipush (v := 25) hx hb dX9_centuries_197 (by decide) ?_
      refine lv_icmp_ge (tgt := 224) hx hb dX9_centuries_199 (by decide) (fun c => ?_) (fun c => ?_)
      · have h := z_t h c
        refine lv_aload_n hx hb dX9_centuries_224 rfl (lv_at hl 0 rfl) ?_
        refine lv_aload_n hx hb dX9_centuries_225 rfl (lv_at hl 0 rfl) ?_
        refine fgX9_3 hx hb hts hown hK hw 0 rfl kw1179 dX9_centuries_226 ?_
        refine lv_iconst (v := 0) hx hb dX9_centuries_229 (by decide) ?_
        refine faX9_3 hx hb hK hw 0 rfl rfl (by decide) dX9_centuries_230 ?_
        refine fpX9_62 hx hb hts hown hK hw 0 rfl kw1238 dX9_centuries_231 (fun H locs hw => ?_)
        obtain ⟨o7, eo7, h⟩ := z_lt h
        have hw : Wd dC dI A s.heap [wX9 h_me q_me k_me o7] H locs := by rw [eo7]; exact hw
        refine lv_aload_n hx hb dX9_centuries_234 rfl (lv_at hl 0 rfl) ?_
        refine lv_bipush (v := 16) hx hb dX9_centuries_235 (by decide) ?_
        obtain ⟨z8, ez8, h⟩ := z_bd h
        refine xj_v (xrV (As := [.int (16 : Int32)]) (rest := []) ⟨hx, hb, hml, hown, hts⟩ (m_X9_putBack l dC dI _ h_me q_me k_me o7 (16 : Int32) z8 ez8) kw1378 kw1375 kw1377 kw40 kw120 hd_X9_putBack ⟨rfl, rfl⟩ rfl rfl ⟨rfl, rfl⟩ hX hK hw [0] (by decide) rfl rfl rfl rfl rfl hl.1 rfl rfl dX9_centuries_237) hw hA [0] (by decide) rfl rfl (fun H locs hw => ?_)
        have hw : Wd dC dI A s.heap [wX9 h_me q_me k_me z8] H locs := hw
        refine lv_aload_n hx hb dX9_centuries_240 rfl (lv_at hl 0 rfl) ?_
        refine lv_iload_n hx hb dX9_centuries_241 rfl (lv_at hl 1 rfl) ?_
        obtain ⟨z9, ez9, h⟩ := z_bd h
        refine xj_i (xrV (As := [.int v3]) (rest := []) ⟨hx, hb, hml, hown, hts⟩ (m_X9_tell l dC dI _ h_me q_me k_me z8 v3 z9 ez9) kw1374 kw1371 kw1373 kw39 kw120 hd_X9_tell ⟨rfl, rfl⟩ rfl rfl ⟨rfl, rfl⟩ hX hK hw [0] (by decide) rfl rfl rfl rfl rfl hl.1 rfl rfl dX9_centuries_242) hw hA [0] (by decide) rfl rfl (fun H locs hw => ?_)
        have hw : Wd dC dI A s.heap [wX9 h_me q_me k_me z9.2] H locs := hw
        have hy := Option.some.inj h
        rw [← hQz, ← hy]
        exact xr_i (v := z9.1) hx hb hr rfl hlk hK hw dX9_centuries_245
      · have h := z_f h c
        refine lv_aload_n hx hb dX9_centuries_202 rfl (lv_at hl 0 rfl) ?_
        refine fgX9_61 hx hb hts hown hK hw 0 rfl kw1237 dX9_centuries_203 ?_
        refine lv_iload hx hb dX9_centuries_206 (lv_at hl 2 rfl) ?_
        refine lv_aload_n hx hb dX9_centuries_208 rfl (lv_at hl 0 rfl) ?_
        refine fgX9_3 hx hb hts hown hK hw 0 rfl kw1179 dX9_centuries_209 ?_
        refine lv_iconst (v := 4) hx hb dX9_centuries_212 (by decide) ?_
        refine lv_iload hx hb dX9_centuries_213 (lv_at hl 2 rfl) ?_
        refine lv_iadd hx hb dX9_centuries_215 ?_
        obtain ⟨g10, h⟩ := z_gd h
        refine faX9_3 hx hb hK hw 0 rfl rfl g10 dX9_centuries_216 ?_
        obtain ⟨g11, h⟩ := z_gd h
        refine fbX9_61 hx hb hK hw 0 rfl rfl g11 dX9_centuries_217 (fun H locs hw => ?_)
        obtain ⟨o12, eo12, h⟩ := z_lt h
        have hw : Wd dC dI A s.heap [wX9 h_me q_me k_me o12] H locs := by rw [eo12]; exact hw
        obtain ⟨x13, ex13, h⟩ := z_lt h
        refine lv_iinc (v := x13) (lv' := [(4, .int x13), (0, .ref h_me), (3, .int v3)]) hx hb dX9_centuries_218 hl (k := 2) rfl ((congrArg (v4 + ·) (show Int32.ofInt 1 = (1 : Int32) from by decide)).trans ex13.symm) (by decide) rfl (fun ls hl => ?_)
        refine lv_goto (tgt := 195) hx hb dX9_centuries_221 (by decide) ?_
        exact ih v3 x13 o12 _ _ _ h hw (lv_sub hl [1, 2, 0] rfl)
  have bk_192_2 : ∀ (v3 : Int32) (o_me : Ob) (H : Heap) (locs : List Loc) (ls : Array Slot), bk_X9_centuries_192   v3 o_me = some y → Wd dC dI A s.heap [wX9 h_me q_me k_me o_me] H locs → lv_has ls 8 [(0, .ref h_me), (3, .int v3)] → W p l e ({ frames := 7, cells := 0, slots := 0, locals := 173 } : Room) s m ([.ref h_me, .int p0, .int p1] : List Value).toArray below meth c H locs 0 0 Qz (F0 m 192 ls []) := by
    intro v3 o_me H locs ls h hw hl
    unfold bk_X9_centuries_192 at h
    refine lv_iconst (v := 0) hx hb dX9_centuries_192 (by decide) ?_
    refine lv_istore (lv' := [(4, .int (0 : Int32)), (0, .ref h_me), (3, .int v3)]) hx hb dX9_centuries_193 hl (by decide) rfl (fun ls hl => ?_)
    exact lp_195_3  zfu v3 (0 : Int32) o_me _ _ _ h hw (lv_sub hl [1, 2, 0] rfl)
  have bk_181_6 : ∀ (rec_68_1 : Int32 × Int32 × Int32 × Ob → Option (Int32 × Ob)) (hrec_68_1 : ∀ (v2 : Int32) (v3 : Int32) (v4 : Int32) (o_me : Ob) (H : Heap) (locs : List Loc) (ls : Array Slot), rec_68_1 (v2, v3, v4, o_me) = some y → Wd dC dI A s.heap [wX9 h_me q_me k_me o_me] H locs → lv_has ls 8 [(0, .ref h_me), (2, .int v2), (3, .int v3), (4, .int v4)] → W p l e ({ frames := 7, cells := 0, slots := 0, locals := 173 } : Room) s m ([.ref h_me, .int p0, .int p1] : List Value).toArray below meth c H locs 0 0 Qz (F0 m 68 ls [])), ∀ (v2 : Int32) (v3 : Int32) (v4 : Int32) (o_me : Ob) (H : Heap) (locs : List Loc) (ls : Array Slot), bk_X9_centuries_181  rec_68_1 v2 v3 v4 o_me = some y → Wd dC dI A s.heap [wX9 h_me q_me k_me o_me] H locs → lv_has ls 8 [(0, .ref h_me), (2, .int v2), (3, .int v3), (4, .int v4)] → W p l e ({ frames := 7, cells := 0, slots := 0, locals := 173 } : Room) s m ([.ref h_me, .int p0, .int p1] : List Value).toArray below meth c H locs 0 0 Qz (F0 m 181 ls []) := by
    intro rec_68_1 hrec_68_1
    intro v2 v3 v4 o_me H locs ls h hw hl
    unfold bk_X9_centuries_181 at h
    refine lv_aload_n hx hb dX9_centuries_181 rfl (lv_at hl 0 rfl) ?_
    obtain ⟨z17, ez17, h⟩ := z_bd h
    refine xj_i (xrV (As := []) (rest := []) ⟨hx, hb, hml, hown, hts⟩ (m_X9_passIt l dC dI _ h_me q_me k_me o_me z17 ez17) kw1684 kw1681 kw1683 kw87 kw120 hd_X9_passIt ⟨rfl, rfl⟩ rfl rfl ⟨rfl, rfl⟩ hX hK hw [0] (by decide) rfl rfl rfl rfl rfl hl.1 rfl rfl dX9_centuries_182) hw hA [0] (by decide) rfl rfl (fun H locs hw => ?_)
    have hw : Wd dC dI A s.heap [wX9 h_me q_me k_me z17.2] H locs := hw
    refine lv_pop hx hb dX9_centuries_185 rfl ?_
    obtain ⟨x18, ex18, h⟩ := z_lt h
    refine lv_iinc (v := x18) (lv' := [(4, .int x18), (0, .ref h_me), (2, .int v2), (3, .int v3)]) hx hb dX9_centuries_186 hl (k := 3) rfl ((congrArg (v4 + ·) (show Int32.ofInt 1 = (1 : Int32) from by decide)).trans ex18.symm) (by decide) rfl (fun ls hl => ?_)
    refine lv_goto (tgt := 68) hx hb dX9_centuries_189 (by decide) ?_
    exact hrec_68_1 v2 v3 x18 z17.2 _ _ _ h hw (lv_sub hl [1, 2, 3, 0] rfl)
  have bk_169_5 : ∀ (rec_68_1 : Int32 × Int32 × Int32 × Ob → Option (Int32 × Ob)) (hrec_68_1 : ∀ (v2 : Int32) (v3 : Int32) (v4 : Int32) (o_me : Ob) (H : Heap) (locs : List Loc) (ls : Array Slot), rec_68_1 (v2, v3, v4, o_me) = some y → Wd dC dI A s.heap [wX9 h_me q_me k_me o_me] H locs → lv_has ls 8 [(0, .ref h_me), (2, .int v2), (3, .int v3), (4, .int v4)] → W p l e ({ frames := 7, cells := 0, slots := 0, locals := 173 } : Room) s m ([.ref h_me, .int p0, .int p1] : List Value).toArray below meth c H locs 0 0 Qz (F0 m 68 ls [])), ∀ (v2 : Int32) (v3 : Int32) (v4 : Int32) (v5 : Int32) (v7 : Int32) (o_me : Ob) (H : Heap) (locs : List Loc) (ls : Array Slot), bk_X9_centuries_169  rec_68_1 v2 v3 v4 v5 v7 o_me = some y → Wd dC dI A s.heap [wX9 h_me q_me k_me o_me] H locs → lv_has ls 8 [(0, .ref h_me), (2, .int v2), (3, .int v3), (4, .int v4), (5, .int v5), (7, .int v7)] → W p l e ({ frames := 7, cells := 0, slots := 0, locals := 173 } : Room) s m ([.ref h_me, .int p0, .int p1] : List Value).toArray below meth c H locs 0 0 Qz (F0 m 169 ls []) := by
    intro rec_68_1 hrec_68_1
    intro v2 v3 v4 v5 v7 o_me H locs ls h hw hl
    unfold bk_X9_centuries_169 at h
    refine lv_iload hx hb dX9_centuries_169 (lv_at hl 5 rfl) ?_
    refine lv_iconst (v := 3) hx hb dX9_centuries_171 (by decide) ?_
    refine lv_icmp_ne (tgt := 181) hx hb dX9_centuries_172 (by decide) (fun c => ?_) (fun c => ?_)
    · have h := z_f h c
      exact bk_181_6 rec_68_1 hrec_68_1 v2 v3 v4 o_me _ _ _ h hw (lv_sub hl [0, 1, 2, 3] rfl)
    · have h := z_t h c
      refine lv_aload_n hx hb dX9_centuries_175 rfl (lv_at hl 0 rfl) ?_
      refine lv_iload hx hb dX9_centuries_176 (lv_at hl 4 rfl) ?_
      obtain ⟨z19, ez19, h⟩ := z_bd h
      refine xj_v (xrV (As := [.int v5]) (rest := []) ⟨hx, hb, hml, hown, hts⟩ (m_X9_takeIt l dC dI _ h_me q_me k_me o_me v5 z19 ez19) kw1672 kw1669 kw1671 kw85 kw120 hd_X9_takeIt ⟨rfl, rfl⟩ rfl rfl ⟨rfl, rfl⟩ hX hK hw [0] (by decide) rfl rfl rfl rfl rfl hl.1 rfl rfl dX9_centuries_178) hw hA [0] (by decide) rfl rfl (fun H locs hw => ?_)
      have hw : Wd dC dI A s.heap [wX9 h_me q_me k_me z19] H locs := hw
      exact bk_181_6 rec_68_1 hrec_68_1 v2 v3 v4 z19 _ _ _ h hw (lv_sub hl [0, 1, 2, 3] rfl)
  have bk_140_4 : ∀ (rec_68_1 : Int32 × Int32 × Int32 × Ob → Option (Int32 × Ob)) (hrec_68_1 : ∀ (v2 : Int32) (v3 : Int32) (v4 : Int32) (o_me : Ob) (H : Heap) (locs : List Loc) (ls : Array Slot), rec_68_1 (v2, v3, v4, o_me) = some y → Wd dC dI A s.heap [wX9 h_me q_me k_me o_me] H locs → lv_has ls 8 [(0, .ref h_me), (2, .int v2), (3, .int v3), (4, .int v4)] → W p l e ({ frames := 7, cells := 0, slots := 0, locals := 173 } : Room) s m ([.ref h_me, .int p0, .int p1] : List Value).toArray below meth c H locs 0 0 Qz (F0 m 68 ls [])), ∀ (v2 : Int32) (v3 : Int32) (v4 : Int32) (v5 : Int32) (v6 : Int32) (v7 : Int32) (o_me : Ob) (H : Heap) (locs : List Loc) (ls : Array Slot), bk_X9_centuries_140  rec_68_1 v2 v3 v4 v5 v6 v7 o_me = some y → Wd dC dI A s.heap [wX9 h_me q_me k_me o_me] H locs → lv_has ls 8 [(0, .ref h_me), (2, .int v2), (3, .int v3), (4, .int v4), (5, .int v5), (6, .int v6), (7, .int v7)] → W p l e ({ frames := 7, cells := 0, slots := 0, locals := 173 } : Room) s m ([.ref h_me, .int p0, .int p1] : List Value).toArray below meth c H locs 0 0 Qz (F0 m 140 ls []) := by
    intro rec_68_1 hrec_68_1
    intro v2 v3 v4 v5 v6 v7 o_me H locs ls h hw hl
    unfold bk_X9_centuries_140 at h
    refine lv_iload hx hb dX9_centuries_140 (lv_at hl 6 rfl) ?_
    refine lv_iconst (v := 2) hx hb dX9_centuries_142 (by decide) ?_
    refine lv_icmp_ne (tgt := 169) hx hb dX9_centuries_143 (by decide) (fun c => ?_) (fun c => ?_)
    · have h := z_f h c
      exact bk_169_5 rec_68_1 hrec_68_1 v2 v3 v4 v5 v7 o_me _ _ _ h hw (lv_sub hl [0, 1, 2, 3, 4, 6] rfl)
    · have h := z_t h c
      refine lv_aload_n hx hb dX9_centuries_146 rfl (lv_at hl 0 rfl) ?_
      refine lv_iload hx hb dX9_centuries_147 (lv_at hl 5 rfl) ?_
      obtain ⟨z20, ez20, h⟩ := z_bd h
      refine xj_v (xrV (As := [.int v6]) (rest := []) ⟨hx, hb, hml, hown, hts⟩ (m_X9_layPlaces l dC dI _ h_me q_me k_me o_me v6 z20 ez20) kw1462 kw1459 kw1461 kw50 kw120 hd_X9_layPlaces ⟨rfl, rfl⟩ rfl rfl ⟨rfl, rfl⟩ hX hK hw [0] (by decide) rfl rfl rfl rfl rfl hl.1 rfl rfl dX9_centuries_149) hw hA [0] (by decide) rfl rfl (fun H locs hw => ?_)
      have hw : Wd dC dI A s.heap [wX9 h_me q_me k_me z20] H locs := hw
      refine lv_aload_n hx hb dX9_centuries_152 rfl (lv_at hl 0 rfl) ?_
      refine fgX9_43 hx hb hts hown hK hw 0 rfl kw1219 dX9_centuries_153 ?_
      refine lv_if_le (tgt := 169) hx hb dX9_centuries_156 (by decide) (fun c => ?_) (fun c => ?_)
      · have h := z_t h c
        exact bk_169_5 rec_68_1 hrec_68_1 v2 v3 v4 v5 v7 z20 _ _ _ h hw (lv_sub hl [0, 1, 2, 3, 4, 6] rfl)
      · have h := z_f h c
        refine lv_aload_n hx hb dX9_centuries_159 rfl (lv_at hl 0 rfl) ?_
        refine lv_iload hx hb dX9_centuries_160 (lv_at hl 5 rfl) ?_
        obtain ⟨z21, ez21, h⟩ := z_bd h
        refine xj_i (xrV (As := [.int v6]) (rest := []) ⟨hx, hb, hml, hown, hts⟩ (m_X9_raceIt l dC dI _ h_me q_me k_me z20 v6 z21 ez21) kw1643 kw1640 kw1642 kw80 kw120 hd_X9_raceIt ⟨rfl, rfl⟩ rfl rfl ⟨rfl, rfl⟩ hX hK hw [0] (by decide) rfl rfl rfl rfl rfl hl.1 rfl rfl dX9_centuries_162) hw hA [0] (by decide) rfl rfl (fun H locs hw => ?_)
        have hw : Wd dC dI A s.heap [wX9 h_me q_me k_me z21.2] H locs := hw
        refine lv_pop hx hb dX9_centuries_165 rfl ?_
        obtain ⟨x22, ex22, h⟩ := z_lt h
        refine lv_iinc (v := x22) (lv' := [(3, .int x22), (0, .ref h_me), (2, .int v2), (4, .int v4), (5, .int v5), (6, .int v6), (7, .int v7)]) hx hb dX9_centuries_166 hl (k := 2) rfl ((congrArg (v3 + ·) (show Int32.ofInt 1 = (1 : Int32) from by decide)).trans ex22.symm) (by decide) rfl (fun ls hl => ?_)
        exact bk_169_5 rec_68_1 hrec_68_1 v2 x22 v4 v5 v7 z21.2 _ _ _ h hw (lv_sub hl [1, 2, 0, 3, 4, 6] rfl)
  have lp_68_1 : ∀ (N : Nat), ∀ (v2 : Int32) (v3 : Int32) (v4 : Int32) (o_me : Ob) (H : Heap) (locs : List Loc) (ls : Array Slot), lp_X9_centuries_68   N (v2, v3, v4, o_me) = some y → Wd dC dI A s.heap [wX9 h_me q_me k_me o_me] H locs → lv_has ls 8 [(0, .ref h_me), (2, .int v2), (3, .int v3), (4, .int v4)] → W p l e ({ frames := 7, cells := 0, slots := 0, locals := 173 } : Room) s m ([.ref h_me, .int p0, .int p1] : List Value).toArray below meth c H locs 0 0 Qz (F0 m 68 ls []) := by
    intro N
    induction N with
    | zero =>
      intro v2 v3 v4 o_me H locs ls h hw hl
      exact absurd (show (none : Option (Int32 × Ob)) = some y from h) (by simp)
    | succ N ih =>
      intro v2 v3 v4 o_me H locs ls h hw hl
      have h : lb_X9_centuries_68   (lp_X9_centuries_68   N) v2 v3 v4 o_me = some y := h
      unfold lb_X9_centuries_68 at h
      refine lv_iload hx hb dX9_centuries_68 (lv_at hl 3 rfl) ?_
      refine lv_iload_n hx hb dX9_centuries_70 rfl (lv_at hl 1 rfl) ?_
      refine lv_icmp_ge (tgt := 192) hx hb dX9_centuries_71 (by decide) (fun c => ?_) (fun c => ?_)
      · have h := z_t h c
        exact bk_192_2  v3 o_me _ _ _ h hw (lv_sub hl [0, 2] rfl)
      · have h := z_f h c
        refine lv_aload_n hx hb dX9_centuries_74 rfl (lv_at hl 0 rfl) ?_
        refine fgX9_3 hx hb hts hown hK hw 0 rfl kw1179 dX9_centuries_75 ?_
        refine lv_iconst (v := 4) hx hb dX9_centuries_78 (by decide) ?_
        refine faX9_3 hx hb hK hw 0 rfl rfl (by decide) dX9_centuries_79 ?_
        refine lv_sipush (v := 999) hx hb dX9_centuries_80 (by decide) ?_
        refine lv_icmp_ge (tgt := 192) hx hb dX9_centuries_83 (by decide) (fun c => ?_) (fun c => ?_)
        · have h := z_t h c
          exact bk_192_2  v3 o_me _ _ _ h hw (lv_sub hl [0, 2] rfl)
        · have h := z_f h c
          refine lv_aload_n hx hb dX9_centuries_86 rfl (lv_at hl 0 rfl) ?_
          refine lv_aload_n hx hb dX9_centuries_87 rfl (lv_at hl 0 rfl) ?_
          refine fgX9_3 hx hb hts hown hK hw 0 rfl kw1179 dX9_centuries_88 ?_
          refine lv_iconst (v := 0) hx hb dX9_centuries_91 (by decide) ?_
          refine faX9_3 hx hb hK hw 0 rfl rfl (by decide) dX9_centuries_92 ?_
          obtain ⟨z14, ez14, h⟩ := z_bd h
          refine xj_i (xrV (As := [.int (gA o_me 3 (0 : Int32).toNatClampNeg)]) (rest := []) ⟨hx, hb, hml, hown, hts⟩ (m_X9_draw l dC dI _ h_me q_me k_me o_me (gA o_me 3 (0 : Int32).toNatClampNeg) z14 ez14) kw1844 kw1841 kw1843 kw108 kw120 hd_X9_draw ⟨rfl, rfl⟩ rfl rfl ⟨rfl, rfl⟩ hX hK hw [0] (by decide) rfl rfl rfl rfl rfl hl.1 rfl rfl dX9_centuries_93) hw hA [0] (by decide) rfl rfl (fun H locs hw => ?_)
          have hw : Wd dC dI A s.heap [wX9 h_me q_me k_me z14.2] H locs := hw
          refine lv_istore (lv' := [(5, .int z14.1), (0, .ref h_me), (2, .int v2), (3, .int v3), (4, .int v4)]) hx hb dX9_centuries_96 hl (by decide) rfl (fun ls hl => ?_)
          refine lv_aload_n hx hb dX9_centuries_98 rfl (lv_at hl 1 rfl) ?_
          refine lv_iconst (v := 4) hx hb dX9_centuries_99 (by decide) ?_
          obtain ⟨z15, ez15, h⟩ := z_bd h
          refine xj_i (xrV (As := [.int (4 : Int32)]) (rest := []) ⟨hx, hb, hml, hown, hts⟩ (m_X9_draw l dC dI _ h_me q_me k_me z14.2 (4 : Int32) z15 ez15) kw1844 kw1841 kw1843 kw108 kw120 hd_X9_draw ⟨rfl, rfl⟩ rfl rfl ⟨rfl, rfl⟩ hX hK hw [0] (by decide) rfl rfl rfl rfl rfl hl.1 rfl rfl dX9_centuries_100) hw hA [0] (by decide) rfl rfl (fun H locs hw => ?_)
          have hw : Wd dC dI A s.heap [wX9 h_me q_me k_me z15.2] H locs := hw
          refine lv_istore (lv' := [(6, .int z15.1), (5, .int z14.1), (0, .ref h_me), (2, .int v2), (3, .int v3), (4, .int v4)]) hx hb dX9_centuries_103 hl (by decide) rfl (fun ls hl => ?_)
          refine lv_aload_n hx hb dX9_centuries_105 rfl (lv_at hl 2 rfl) ?_
          refine lv_iconst (v := 4) hx hb dX9_centuries_106 (by decide) ?_
          obtain ⟨z16, ez16, h⟩ := z_bd h
          refine xj_i (xrV (As := [.int (4 : Int32)]) (rest := []) ⟨hx, hb, hml, hown, hts⟩ (m_X9_draw l dC dI _ h_me q_me k_me z15.2 (4 : Int32) z16 ez16) kw1844 kw1841 kw1843 kw108 kw120 hd_X9_draw ⟨rfl, rfl⟩ rfl rfl ⟨rfl, rfl⟩ hX hK hw [0] (by decide) rfl rfl rfl rfl rfl hl.1 rfl rfl dX9_centuries_107) hw hA [0] (by decide) rfl rfl (fun H locs hw => ?_)
          have hw : Wd dC dI A s.heap [wX9 h_me q_me k_me z16.2] H locs := hw
          refine lv_istore (lv' := [(7, .int z16.1), (6, .int z15.1), (5, .int z14.1), (0, .ref h_me), (2, .int v2), (3, .int v3), (4, .int v4)]) hx hb dX9_centuries_110 hl (by decide) rfl (fun ls hl => ?_)
          refine lv_iload hx hb dX9_centuries_112 (lv_at hl 0 rfl) ?_
          refine lv_iconst (v := 2) hx hb dX9_centuries_114 (by decide) ?_
          refine lv_icmp_ge (tgt := 140) hx hb dX9_centuries_115 (by decide) (fun c => ?_) (fun c => ?_)
          · have h := z_t h c
            exact bk_140_4 (lp_X9_centuries_68   N) ih v2 v3 v4 z14.1 z15.1 z16.1 z16.2 _ _ _ h hw (lv_sub hl [3, 4, 5, 6, 2, 1, 0] rfl)
          · have h := z_f h c
            refine lv_aload_n hx hb dX9_centuries_118 rfl (lv_at hl 3 rfl) ?_
            refine fgX9_3 hx hb hts hown hK hw 0 rfl kw1179 dX9_centuries_119 ?_
            refine lv_bipush (v := 22) hx hb dX9_centuries_122 (by decide) ?_
            refine lv_iload hx hb dX9_centuries_124 (lv_at hl 2 rfl) ?_
            refine lv_iadd hx hb dX9_centuries_126 ?_
            refine lv_iconst (v := 1) hx hb dX9_centuries_127 (by decide) ?_
            refine lv_aload_n hx hb dX9_centuries_128 rfl (lv_at hl 3 rfl) ?_
            refine fgX9_3 hx hb hts hown hK hw 0 rfl kw1179 dX9_centuries_129 ?_
            refine lv_bipush (v := 22) hx hb dX9_centuries_132 (by decide) ?_
            refine lv_iload hx hb dX9_centuries_134 (lv_at hl 2 rfl) ?_
            refine lv_iadd hx hb dX9_centuries_136 ?_
            obtain ⟨g23, h⟩ := z_gd h
            refine faX9_3 hx hb hK hw 0 rfl rfl g23 dX9_centuries_137 ?_
            refine lv_isub hx hb dX9_centuries_138 ?_
            obtain ⟨g24, h⟩ := z_gd h
            refine fbX9_3 hx hb hK hw 0 rfl rfl g24 dX9_centuries_139 (fun H locs hw => ?_)
            obtain ⟨o25, eo25, h⟩ := z_lt h
            have hw : Wd dC dI A s.heap [wX9 h_me q_me k_me o25] H locs := by rw [eo25]; exact hw
            exact bk_140_4 (lp_X9_centuries_68   N) ih v2 v3 v4 z14.1 z15.1 z16.1 o25 _ _ _ h hw (lv_sub hl [3, 4, 5, 6, 2, 1, 0] rfl)
  unfold f_X9_centuries at h
  refine lv_aload_n hx hb dX9_centuries_0 rfl (lv_at hl 0 rfl) ?_
  refine lv_iconst (v := 0) hx hb dX9_centuries_1 (by decide) ?_
  refine fpX9_0 hx hb hts hown hK hw 0 rfl kw1176 dX9_centuries_2 (fun H locs hw => ?_)
  obtain ⟨o1, eo1, h⟩ := z_lt h
  have hw : Wd dC dI A s.heap [wX9 h_me q_me k_me o1] H locs := by rw [eo1]; exact hw
  refine lv_iload_n hx hb dX9_centuries_5 rfl (lv_at hl 1 rfl) ?_
  refine lv_i2l hx hb dX9_centuries_6 rfl ?_
  refine lv_lconst (v := 0) hx hb dX9_centuries_7 (by decide) ?_
  refine lv_ldc2 (v := 1000000) hx hb hown (hts _ kw1521) dX9_centuries_8 ?_
  obtain ⟨z2, ez2, h⟩ := z_bd h
  refine xj_i (xrS (As := [.long p0.toInt64, .long (0 : Int64), .long (1000000 : Int64)]) (rest := []) ⟨hx, hb, hml, hown, hts⟩ (m_X9_in l dC dI _  p0.toInt64 (0 : Int64) (1000000 : Int64) z2 ez2) kw1385 kw1383 kw1384 kw120 hd_X9_in ⟨rfl, rfl⟩ rfl rfl ⟨rfl, rfl⟩ hX hK hw [] (by decide) rfl rfl hl.1 rfl rfl dX9_centuries_11) hw hA [] (by decide) rfl rfl (fun H locs hw => ?_)
  refine lv_if_eq (tgt := 29) hx hb dX9_centuries_14 (by decide) (fun c => ?_) (fun c => ?_)
  · have h := z_t h c
    exact bk_29_0  o1 _ _ _ h hw (lv_sub hl [0] rfl)
  · have h := z_f h c
    refine lv_iload_n hx hb dX9_centuries_17 rfl (lv_at hl 2 rfl) ?_
    refine lv_i2l hx hb dX9_centuries_18 rfl ?_
    refine lv_lconst (v := 1) hx hb dX9_centuries_19 (by decide) ?_
    refine lv_ldc2 (v := 60) hx hb hown (hts _ kw1780) dX9_centuries_20 ?_
    obtain ⟨z4, ez4, h⟩ := z_bd h
    refine xj_i (xrS (As := [.long p1.toInt64, .long (1 : Int64), .long (60 : Int64)]) (rest := []) ⟨hx, hb, hml, hown, hts⟩ (m_X9_in l dC dI _  p1.toInt64 (1 : Int64) (60 : Int64) z4 ez4) kw1385 kw1383 kw1384 kw120 hd_X9_in ⟨rfl, rfl⟩ rfl rfl ⟨rfl, rfl⟩ hX hK hw [] (by decide) rfl rfl hl.1 rfl rfl dX9_centuries_23) hw hA [] (by decide) rfl rfl (fun H locs hw => ?_)
    refine lv_if_ne (tgt := 35) hx hb dX9_centuries_26 (by decide) (fun c => ?_) (fun c => ?_)
    · have h := z_f h c
      refine lv_aload_n hx hb dX9_centuries_35 rfl (lv_at hl 0 rfl) ?_
      refine fgX9_3 hx hb hts hown hK hw 0 rfl kw1179 dX9_centuries_36 ?_
      refine lv_iconst (v := 0) hx hb dX9_centuries_39 (by decide) ?_
      refine faX9_3 hx hb hK hw 0 rfl rfl (by decide) dX9_centuries_40 ?_
      refine lv_if_ne (tgt := 51) hx hb dX9_centuries_41 (by decide) (fun c => ?_) (fun c => ?_)
      · have h := z_f h c
        refine lv_aload_n hx hb dX9_centuries_51 rfl (lv_at hl 0 rfl) ?_
        refine lv_bipush (v := 16) hx hb dX9_centuries_52 (by decide) ?_
        obtain ⟨z5, ez5, h⟩ := z_bd h
        refine xj_v (xrV (As := [.int (16 : Int32)]) (rest := []) ⟨hx, hb, hml, hown, hts⟩ (m_X9_keepAll l dC dI _ h_me q_me k_me o1 (16 : Int32) z5 ez5) kw1639 kw1636 kw1638 kw79 kw120 hd_X9_keepAll ⟨rfl, rfl⟩ rfl rfl ⟨rfl, rfl⟩ hX hK hw [0] (by decide) rfl rfl rfl rfl rfl hl.1 rfl rfl dX9_centuries_54) hw hA [0] (by decide) rfl rfl (fun H locs hw => ?_)
        have hw : Wd dC dI A s.heap [wX9 h_me q_me k_me z5] H locs := hw
        refine lv_aload_n hx hb dX9_centuries_57 rfl (lv_at hl 0 rfl) ?_
        refine lv_iload_n hx hb dX9_centuries_58 rfl (lv_at hl 1 rfl) ?_
        refine lv_i2l hx hb dX9_centuries_59 rfl ?_
        refine fpX9_60 hx hb hts hown hK hw 0 rfl kw1236 dX9_centuries_60 (fun H locs hw => ?_)
        obtain ⟨o6, eo6, h⟩ := z_lt h
        have hw : Wd dC dI A s.heap [wX9 h_me q_me k_me o6] H locs := by rw [eo6]; exact hw
        refine lv_iconst (v := 0) hx hb dX9_centuries_63 (by decide) ?_
        refine lv_istore_n (lv' := [(3, .int (0 : Int32)), (0, .ref h_me), (1, .int p0), (2, .int p1)]) hx hb dX9_centuries_64 rfl hl (by decide) rfl (fun ls hl => ?_)
        refine lv_iconst (v := 0) hx hb dX9_centuries_65 (by decide) ?_
        refine lv_istore (lv' := [(4, .int (0 : Int32)), (3, .int (0 : Int32)), (0, .ref h_me), (1, .int p0), (2, .int p1)]) hx hb dX9_centuries_66 hl (by decide) rfl (fun ls hl => ?_)
        exact lp_68_1  zfu p1 (0 : Int32) (0 : Int32) o6 _ _ _ h hw (lv_sub hl [2, 4, 1, 0] rfl)
      · have h := z_t h c
        refine lv_aload_n hx hb dX9_centuries_44 rfl (lv_at hl 0 rfl) ?_
        refine lv_bipush (v := (-3)) hx hb dX9_centuries_45 (by decide) ?_
        obtain ⟨z26, ez26, h⟩ := z_bd h
        refine xj_i (xrV (As := [.int (-3 : Int32)]) (rest := []) ⟨hx, hb, hml, hown, hts⟩ (m_X9_tell l dC dI _ h_me q_me k_me o1 (-3 : Int32) z26 ez26) kw1374 kw1371 kw1373 kw39 kw120 hd_X9_tell ⟨rfl, rfl⟩ rfl rfl ⟨rfl, rfl⟩ hX hK hw [0] (by decide) rfl rfl rfl rfl rfl hl.1 rfl rfl dX9_centuries_47) hw hA [0] (by decide) rfl rfl (fun H locs hw => ?_)
        have hw : Wd dC dI A s.heap [wX9 h_me q_me k_me z26.2] H locs := hw
        have hy := Option.some.inj h
        rw [← hQz, ← hy]
        exact xr_i (v := z26.1) hx hb hr rfl hlk hK hw dX9_centuries_50
    · have h := z_t h c
      exact bk_29_0  o1 _ _ _ h hw (lv_sub hl [0] rfl)

