def f_X4_isIn (o_me : Ob) (p0 : Int32) : Option (Int32) :=
  if (((gI o_me 2) >>> (p0 &&& 31)) &&& (1 : Int32)) = (1 : Int32) then
  (some (1 : Int32))
  else
  (some (0 : Int32))
set_option maxHeartbeats 4000000 in
set_option maxRecDepth 100000 in
theorem m_X4_isIn (l : Launch) (dC : Nat → ClassId) (dI : Nat → Nat → Nat) (sz : Nat) (h_me : Nat) (q_me : Nat → Nat) (k_me : Nat → ClassId) (o_me : Ob) (p0 : Int32) (y : Int32) (h : f_X4_isIn o_me p0 = some y) : CI l yX4_isIn cX4_isIn 2 (some .boolean) ({ frames := 0, cells := 0, slots := 0, locals := 0 } : Room) dC dI sz [.ref h_me, .int p0] [wX4 h_me q_me k_me o_me] [tX4 k_me] y [wX4 h_me q_me k_me o_me] := by
  refine CC_of (by decide) (Nat.le_of_ble_eq_true rfl) ?_
  intro p e s m below meth c A ls hx hb hml hr hlk hnm hown hts hX hK hP hD hA hl
  have hl : lv_has ls 2 [(0, .ref h_me), (1, .int p0)] := hl
  have hown : s.vm.findClass RX4 = some m.cls := hown
  have hw : Wd dC dI A s.heap [wX4 h_me q_me k_me o_me] s.heap [] := ⟨hP, hD, va_S.rf⟩
  generalize hQz : (MQ below (QI dC dI (fun r (_ : Unit) => r = y) (fun _ => Jn [wX4 h_me q_me k_me o_me]) (fun _ => Jt [tX4 k_me]) A) ([.ref h_me, .int p0] : List Value).toArray s 0 0 A) = Qz
  clear hP hD hnm
  unfold f_X4_isIn at h
  refine lv_aload_n hx hb dX4_isIn_0 rfl (lv_at hl 0 rfl) ?_
  refine fgX4_2 hx hb hts hown hK hw 0 rfl kw268 dX4_isIn_1 ?_
  refine lv_iload_n hx hb dX4_isIn_4 rfl (lv_at hl 1 rfl) ?_
  refine lv_ishr hx hb dX4_isIn_5 ?_
  refine lv_iconst (v := 1) hx hb dX4_isIn_6 (by decide) ?_
  refine lv_iand hx hb dX4_isIn_7 ?_
  refine lv_iconst (v := 1) hx hb dX4_isIn_8 (by decide) ?_
  refine lv_icmp_ne (tgt := 16) hx hb dX4_isIn_9 (by decide) (fun c => ?_) (fun c => ?_)
  · have h := z_f h c
    refine lv_iconst (v := 0) hx hb dX4_isIn_16 (by decide) ?_
    have hy := Option.some.inj h
    rw [← hQz, ← hy]
    exact xr_i (v := (0 : Int32)) hx hb hr rfl hlk hK hw dX4_isIn_17
  · have h := z_t h c
    refine lv_iconst (v := 1) hx hb dX4_isIn_12 (by decide) ?_
    refine lv_goto (tgt := 17) hx hb dX4_isIn_13 (by decide) ?_
    have hy := Option.some.inj h
    rw [← hQz, ← hy]
    exact xr_i (v := (1 : Int32)) hx hb hr rfl hlk hK hw dX4_isIn_17

def bk_X1_lineUp_Q_129 (o_me_isles : Ob) (o_me_isles_now : Ob) (o_pool : List CR) (rec_7_0 : Option Nat × Int32 × Int32 × Ob × Ob → Option (Int32 × Ob × Ob)) (v1 : Option Nat) (v2 : Int32) (v3 : Int32) (o_me : Ob) (o_me_machine : Ob) : Option (Int32 × Ob × Ob) :=
  zlt (v3 + (1 : Int32)) fun x3 =>
  rec_7_0 (v1, v2, x3, o_me, o_me_machine)
def bk_X1_lineUp_Q_111 (o_me_isles : Ob) (o_me_isles_now : Ob) (o_pool : List CR) (rec_7_0 : Option Nat × Int32 × Int32 × Ob × Ob → Option (Int32 × Ob × Ob)) (v1 : Option Nat) (v2 : Int32) (v3 : Int32) (v4 : Int32) (o_me : Ob) (o_me_machine : Ob) : Option (Int32 × Ob × Ob) :=
  zgd (zin v4 7) <|
  zlt (tA o_me 2 v4.toNatClampNeg v3) fun o10 =>
  zlt (sI o10 4 ((gI o10 4) + (1 : Int32))) fun o11 =>
  bk_X1_lineUp_Q_129 o_me_isles o_me_isles_now o_pool rec_7_0 v1 v2 v3 o11 o_me_machine
def lb_X1_lineUp_Q_61 (o_me_isles : Ob) (o_me_isles_now : Ob) (o_pool : List CR) (rec_7_0 : Option Nat × Int32 × Int32 × Ob × Ob → Option (Int32 × Ob × Ob)) (rec_61_2 : Option Nat × Int32 × Int32 × Int32 × Ob × Ob → Option (Int32 × Ob × Ob)) (v1 : Option Nat) (v2 : Int32) (v3 : Int32) (v4 : Int32) (o_me : Ob) (o_me_machine : Ob) : Option (Int32 × Ob × Ob) :=
  if v4 ≤ (0 : Int32) then
  (bk_X1_lineUp_Q_111 o_me_isles o_me_isles_now o_pool rec_7_0 v1 v2 v3 v4 o_me o_me_machine)
  else
  (zgd (zin (v4 - (1 : Int32)) 7) <|
  zgd (zin (gA o_me 2 (v4 - (1 : Int32)).toNatClampNeg) 7) <|
  zgd (zin v3 7) <|
  if (gA o_me 3 v3.toNatClampNeg) ≤ (gA o_me 3 (gA o_me 2 (v4 - (1 : Int32)).toNatClampNeg).toNatClampNeg) then
  (bk_X1_lineUp_Q_111 o_me_isles o_me_isles_now o_pool rec_7_0 v1 v2 v3 v4 o_me o_me_machine)
  else
  (zgd (zin (v4 - (1 : Int32)) 7) <|
  zgd (zin v4 7) <|
  zlt (tA o_me 2 v4.toNatClampNeg (gA o_me 2 (v4 - (1 : Int32)).toNatClampNeg)) fun o17 =>
  zlt (v4 + (-1 : Int32)) fun x18 =>
  rec_61_2 (v1, v2, v3, x18, o17, o_me_machine)))
def lp_X1_lineUp_Q_61 (o_me_isles : Ob) (o_me_isles_now : Ob) (o_pool : List CR) (rec_7_0 : Option Nat × Int32 × Int32 × Ob × Ob → Option (Int32 × Ob × Ob)) : Nat → (Option Nat × Int32 × Int32 × Int32 × Ob × Ob) → Option (Int32 × Ob × Ob) := zit (fun rec a => lb_X1_lineUp_Q_61 o_me_isles o_me_isles_now o_pool rec_7_0 rec a.1 a.2.1 a.2.2.1 a.2.2.2.1 a.2.2.2.2.1 a.2.2.2.2.2)
def lb_X1_lineUp_Q_7 (o_me_isles : Ob) (o_me_isles_now : Ob) (o_pool : List CR)  (rec_7_0 : Option Nat × Int32 × Int32 × Ob × Ob → Option (Int32 × Ob × Ob)) (v1 : Option Nat) (v2 : Int32) (v3 : Int32) (o_me : Ob) (o_me_machine : Ob) : Option (Int32 × Ob × Ob) :=
  if (gI o_me_isles 7) ≤ v3 then
  (some (gI o_me 4, o_me, o_me_machine))
  else
  ((f_X4_isIn o_me_isles_now v3).bind fun z2 =>
  if z2 = (0 : Int32) then
  (bk_X1_lineUp_Q_129 o_me_isles o_me_isles_now o_pool rec_7_0 v1 v2 v3 o_me o_me_machine)
  else
  ((f_X1_isBarred_Q o_me o_me_isles o_me_isles_now o_me_machine o_pool v1 v3 v2).bind fun z4 =>
  if z4.1 = (0 : Int32) then
  ((f_X1_runsBy_Q o_me o_me_isles o_me_isles_now z4.2 o_pool v1 v3 v2).bind fun z5 =>
  zgd (zin v3 7) <|
  zlt (tA o_me 3 v3.toNatClampNeg z5.1) fun o7 =>
  zlt (gI o7 4) fun x8 =>
  lp_X1_lineUp_Q_61 o_me_isles o_me_isles_now o_pool rec_7_0 zfu (v1, v2, v3, x8, o7, z5.2))
  else
  (bk_X1_lineUp_Q_129 o_me_isles o_me_isles_now o_pool rec_7_0 v1 v2 v3 o_me z4.2)))
def lp_X1_lineUp_Q_7 (o_me_isles : Ob) (o_me_isles_now : Ob) (o_pool : List CR)  : Nat → (Option Nat × Int32 × Int32 × Ob × Ob) → Option (Int32 × Ob × Ob) := zit (fun rec a => lb_X1_lineUp_Q_7 o_me_isles o_me_isles_now o_pool  rec a.1 a.2.1 a.2.2.1 a.2.2.2.1 a.2.2.2.2)
def f_X1_lineUp_Q (o_me : Ob) (o_me_isles : Ob) (o_me_isles_now : Ob) (o_me_machine : Ob) (o_pool : List CR) (p0 : Option Nat) (p1 : Int32) : Option (Int32 × Ob × Ob) :=
  zlt (sI o_me 4 (0 : Int32)) fun o1 =>
  lp_X1_lineUp_Q_7 o_me_isles o_me_isles_now o_pool  zfu (p0, p1, (0 : Int32), o1, o_me_machine)
set_option maxHeartbeats 4000000 in
set_option maxRecDepth 100000 in
theorem m_X1_lineUp_Q (l : Launch) (dC : Nat → ClassId) (dI : Nat → Nat → Nat) (sz : Nat) (h_me : Nat) (h_me_isles : Nat) (h_me_machine : Nat) (h_me_isles_now : Nat) (q_me : Nat → Nat) (k_me : Nat → ClassId) (q_me_isles : Nat → Nat) (k_me_isles : Nat → ClassId) (q_me_isles_now : Nat → Nat) (k_me_isles_now : Nat → ClassId) (q_me_machine : Nat → Nat) (k_me_machine : Nat → ClassId) (o_me : Ob) (o_me_isles : Ob) (o_me_isles_now : Ob) (o_me_machine : Ob) (o_pool : List CR) (p0 : Option Nat) (p1 : Int32) (y : Int32 × Ob × Ob) (h : f_X1_lineUp_Q o_me o_me_isles o_me_isles_now o_me_machine o_pool p0 p1 = some y) : CI l yX1_lineUp cX1_lineUp 5 (some .int) ({ frames := 4, cells := 0, slots := 0, locals := 109 } : Room) dC dI sz [.ref h_me, va_rf p0, .int p1] [wX1 h_me h_me_isles h_me_machine q_me k_me o_me, wX2 h_me_isles h_me_isles_now q_me_isles k_me_isles o_me_isles, wX4 h_me_isles_now q_me_isles_now k_me_isles_now o_me_isles_now, wX3 h_me_machine q_me_machine k_me_machine o_me_machine, wPL o_pool] [tX1 k_me, tX2 k_me_isles, tX4 k_me_isles_now, tX3 k_me_machine, tPL o_pool] y.1 [wX1 h_me h_me_isles h_me_machine q_me k_me y.2.1, wX2 h_me_isles h_me_isles_now q_me_isles k_me_isles o_me_isles, wX4 h_me_isles_now q_me_isles_now k_me_isles_now o_me_isles_now, wX3 h_me_machine q_me_machine k_me_machine y.2.2, wPL o_pool] := by
  refine CC_of (by decide) (by cases p0 <;> exact Nat.le_of_ble_eq_true rfl) ?_
  intro p e s m below meth c A ls hx hb hml hr hlk hnm hown hts hX hK hP hD hA hl
  have hl : lv_has ls 5 [(0, .ref h_me), (1, va_rf p0), (2, .int p1)] := by
    have e9 : lv_args 0 [.ref h_me, va_rf p0, .int p1] = [(0, .ref h_me), (1, va_rf p0), (2, .int p1)] := by cases p0 <;> rfl
    rw [← e9]; exact hl
  have hown : s.vm.findClass RX1 = some m.cls := hown
  have hw : Wd dC dI A s.heap [wX1 h_me h_me_isles h_me_machine q_me k_me o_me, wX2 h_me_isles h_me_isles_now q_me_isles k_me_isles o_me_isles, wX4 h_me_isles_now q_me_isles_now k_me_isles_now o_me_isles_now, wX3 h_me_machine q_me_machine k_me_machine o_me_machine, wPL o_pool] s.heap [] := ⟨hP, hD, va_S.rf⟩
  generalize hQz : (MQ below (QI dC dI (fun r (_ : Unit) => r = y.1) (fun _ => Jn [wX1 h_me h_me_isles h_me_machine q_me k_me y.2.1, wX2 h_me_isles h_me_isles_now q_me_isles k_me_isles o_me_isles, wX4 h_me_isles_now q_me_isles_now k_me_isles_now o_me_isles_now, wX3 h_me_machine q_me_machine k_me_machine y.2.2, wPL o_pool]) (fun _ => Jt [tX1 k_me, tX2 k_me_isles, tX4 k_me_isles_now, tX3 k_me_machine, tPL o_pool]) A) ([.ref h_me, va_rf p0, .int p1] : List Value).toArray s 0 0 A) = Qz
  clear hP hD hnm
  have bk_129_1 : ∀ (rec_7_0 : Option Nat × Int32 × Int32 × Ob × Ob → Option (Int32 × Ob × Ob)) (hrec_7_0 : ∀ (v1 : Option Nat) (v2 : Int32) (v3 : Int32) (o_me : Ob) (o_me_machine : Ob) (H : Heap) (locs : List Loc) (ls : Array Slot), rec_7_0 (v1, v2, v3, o_me, o_me_machine) = some y → Wd dC dI A s.heap [wX1 h_me h_me_isles h_me_machine q_me k_me o_me, wX2 h_me_isles h_me_isles_now q_me_isles k_me_isles o_me_isles, wX4 h_me_isles_now q_me_isles_now k_me_isles_now o_me_isles_now, wX3 h_me_machine q_me_machine k_me_machine o_me_machine, wPL o_pool] H locs → lv_has ls 5 [(0, .ref h_me), (1, va_rf v1), (2, .int v2), (3, .int v3)] → W p l e ({ frames := 4, cells := 0, slots := 0, locals := 109 } : Room) s m ([.ref h_me, va_rf p0, .int p1] : List Value).toArray below meth c H locs 0 0 Qz (F0 m 7 ls [])), ∀ (v1 : Option Nat) (v2 : Int32) (v3 : Int32) (o_me : Ob) (o_me_machine : Ob) (H : Heap) (locs : List Loc) (ls : Array Slot), bk_X1_lineUp_Q_129 o_me_isles o_me_isles_now o_pool rec_7_0 v1 v2 v3 o_me o_me_machine = some y → Wd dC dI A s.heap [wX1 h_me h_me_isles h_me_machine q_me k_me o_me, wX2 h_me_isles h_me_isles_now q_me_isles k_me_isles o_me_isles, wX4 h_me_isles_now q_me_isles_now k_me_isles_now o_me_isles_now, wX3 h_me_machine q_me_machine k_me_machine o_me_machine, wPL o_pool] H locs → lv_has ls 5 [(0, .ref h_me), (1, va_rf v1), (2, .int v2), (3, .int v3)] → W p l e ({ frames := 4, cells := 0, slots := 0, locals := 109 } : Room) s m ([.ref h_me, va_rf p0, .int p1] : List Value).toArray below meth c H locs 0 0 Qz (F0 m 129 ls []) := by
    intro rec_7_0 hrec_7_0
    intro v1 v2 v3 o_me o_me_machine H locs ls h hw hl
    unfold bk_X1_lineUp_Q_129 at h
    obtain ⟨x3, ex3, h⟩ := z_lt h
    refine lv_iinc (v := x3) (lv' := [(3, .int x3), (0, .ref h_me), (1, va_rf v1), (2, .int v2)]) hx hb dX1_lineUp_129 hl (k := 3) rfl ((congrArg (v3 + ·) (show Int32.ofInt 1 = (1 : Int32) from by decide)).trans ex3.symm) (by decide) rfl (fun ls hl => ?_)
    refine lv_goto (tgt := 7) hx hb dX1_lineUp_132 (by decide) ?_
    exact hrec_7_0 v1 v2 x3 o_me o_me_machine _ _ _ h hw (lv_sub hl [1, 2, 3, 0] rfl)
  have bk_111_3 : ∀ (rec_7_0 : Option Nat × Int32 × Int32 × Ob × Ob → Option (Int32 × Ob × Ob)) (hrec_7_0 : ∀ (v1 : Option Nat) (v2 : Int32) (v3 : Int32) (o_me : Ob) (o_me_machine : Ob) (H : Heap) (locs : List Loc) (ls : Array Slot), rec_7_0 (v1, v2, v3, o_me, o_me_machine) = some y → Wd dC dI A s.heap [wX1 h_me h_me_isles h_me_machine q_me k_me o_me, wX2 h_me_isles h_me_isles_now q_me_isles k_me_isles o_me_isles, wX4 h_me_isles_now q_me_isles_now k_me_isles_now o_me_isles_now, wX3 h_me_machine q_me_machine k_me_machine o_me_machine, wPL o_pool] H locs → lv_has ls 5 [(0, .ref h_me), (1, va_rf v1), (2, .int v2), (3, .int v3)] → W p l e ({ frames := 4, cells := 0, slots := 0, locals := 109 } : Room) s m ([.ref h_me, va_rf p0, .int p1] : List Value).toArray below meth c H locs 0 0 Qz (F0 m 7 ls [])), ∀ (v1 : Option Nat) (v2 : Int32) (v3 : Int32) (v4 : Int32) (o_me : Ob) (o_me_machine : Ob) (H : Heap) (locs : List Loc) (ls : Array Slot), bk_X1_lineUp_Q_111 o_me_isles o_me_isles_now o_pool rec_7_0 v1 v2 v3 v4 o_me o_me_machine = some y → Wd dC dI A s.heap [wX1 h_me h_me_isles h_me_machine q_me k_me o_me, wX2 h_me_isles h_me_isles_now q_me_isles k_me_isles o_me_isles, wX4 h_me_isles_now q_me_isles_now k_me_isles_now o_me_isles_now, wX3 h_me_machine q_me_machine k_me_machine o_me_machine, wPL o_pool] H locs → lv_has ls 5 [(0, .ref h_me), (1, va_rf v1), (2, .int v2), (3, .int v3), (4, .int v4)] → W p l e ({ frames := 4, cells := 0, slots := 0, locals := 109 } : Room) s m ([.ref h_me, va_rf p0, .int p1] : List Value).toArray below meth c H locs 0 0 Qz (F0 m 111 ls []) := by
    intro rec_7_0 hrec_7_0
    intro v1 v2 v3 v4 o_me o_me_machine H locs ls h hw hl
    unfold bk_X1_lineUp_Q_111 at h
    refine lv_aload_n hx hb dX1_lineUp_111 rfl (lv_at hl 0 rfl) ?_
    refine fgX1_2 hx hb hts hown hK hw 0 rfl kw366 dX1_lineUp_112 ?_
    refine lv_iload hx hb dX1_lineUp_115 (lv_at hl 4 rfl) ?_
    refine lv_iload_n hx hb dX1_lineUp_117 rfl (lv_at hl 3 rfl) ?_
    obtain ⟨g9, h⟩ := z_gd h
    refine fbX1_2 hx hb hK hw 0 rfl rfl g9 dX1_lineUp_118 (fun H locs hw => ?_)
    obtain ⟨o10, eo10, h⟩ := z_lt h
    have hw : Wd dC dI A s.heap [wX1 h_me h_me_isles h_me_machine q_me k_me o10, wX2 h_me_isles h_me_isles_now q_me_isles k_me_isles o_me_isles, wX4 h_me_isles_now q_me_isles_now k_me_isles_now o_me_isles_now, wX3 h_me_machine q_me_machine k_me_machine o_me_machine, wPL o_pool] H locs := by rw [eo10]; exact hw
    refine lv_aload_n hx hb dX1_lineUp_119 rfl (lv_at hl 0 rfl) ?_
    refine lv_dup hx hb dX1_lineUp_120 rfl ?_
    refine fgX1_4 hx hb hts hown hK hw 0 rfl kw368 dX1_lineUp_121 ?_
    refine lv_iconst (v := 1) hx hb dX1_lineUp_124 (by decide) ?_
    refine lv_iadd hx hb dX1_lineUp_125 ?_
    refine fpX1_4 hx hb hts hown hK hw 0 rfl kw368 dX1_lineUp_126 (fun H locs hw => ?_)
    obtain ⟨o11, eo11, h⟩ := z_lt h
    have hw : Wd dC dI A s.heap [wX1 h_me h_me_isles h_me_machine q_me k_me o11, wX2 h_me_isles h_me_isles_now q_me_isles k_me_isles o_me_isles, wX4 h_me_isles_now q_me_isles_now k_me_isles_now o_me_isles_now, wX3 h_me_machine q_me_machine k_me_machine o_me_machine, wPL o_pool] H locs := by rw [eo11]; exact hw
    exact bk_129_1 rec_7_0 hrec_7_0 v1 v2 v3 o11 o_me_machine _ _ _ h hw (lv_sub hl [0, 1, 2, 3] rfl)
  have lp_61_2 : ∀ (rec_7_0 : Option Nat × Int32 × Int32 × Ob × Ob → Option (Int32 × Ob × Ob)) (hrec_7_0 : ∀ (v1 : Option Nat) (v2 : Int32) (v3 : Int32) (o_me : Ob) (o_me_machine : Ob) (H : Heap) (locs : List Loc) (ls : Array Slot), rec_7_0 (v1, v2, v3, o_me, o_me_machine) = some y → Wd dC dI A s.heap [wX1 h_me h_me_isles h_me_machine q_me k_me o_me, wX2 h_me_isles h_me_isles_now q_me_isles k_me_isles o_me_isles, wX4 h_me_isles_now q_me_isles_now k_me_isles_now o_me_isles_now, wX3 h_me_machine q_me_machine k_me_machine o_me_machine, wPL o_pool] H locs → lv_has ls 5 [(0, .ref h_me), (1, va_rf v1), (2, .int v2), (3, .int v3)] → W p l e ({ frames := 4, cells := 0, slots := 0, locals := 109 } : Room) s m ([.ref h_me, va_rf p0, .int p1] : List Value).toArray below meth c H locs 0 0 Qz (F0 m 7 ls [])) (N : Nat), ∀ (v1 : Option Nat) (v2 : Int32) (v3 : Int32) (v4 : Int32) (o_me : Ob) (o_me_machine : Ob) (H : Heap) (locs : List Loc) (ls : Array Slot), lp_X1_lineUp_Q_61 o_me_isles o_me_isles_now o_pool rec_7_0 N (v1, v2, v3, v4, o_me, o_me_machine) = some y → Wd dC dI A s.heap [wX1 h_me h_me_isles h_me_machine q_me k_me o_me, wX2 h_me_isles h_me_isles_now q_me_isles k_me_isles o_me_isles, wX4 h_me_isles_now q_me_isles_now k_me_isles_now o_me_isles_now, wX3 h_me_machine q_me_machine k_me_machine o_me_machine, wPL o_pool] H locs → lv_has ls 5 [(0, .ref h_me), (1, va_rf v1), (2, .int v2), (3, .int v3), (4, .int v4)] → W p l e ({ frames := 4, cells := 0, slots := 0, locals := 109 } : Room) s m ([.ref h_me, va_rf p0, .int p1] : List Value).toArray below meth c H locs 0 0 Qz (F0 m 61 ls []) := by
    intro rec_7_0 hrec_7_0
    intro N
    induction N with
    | zero =>
      intro v1 v2 v3 v4 o_me o_me_machine H locs ls h hw hl
      exact absurd (show (none : Option (Int32 × Ob × Ob)) = some y from h) (by simp)
    | succ N ih =>
      intro v1 v2 v3 v4 o_me o_me_machine H locs ls h hw hl
      have h : lb_X1_lineUp_Q_61 o_me_isles o_me_isles_now o_pool rec_7_0 (lp_X1_lineUp_Q_61 o_me_isles o_me_isles_now o_pool rec_7_0 N) v1 v2 v3 v4 o_me o_me_machine = some y := h
      unfold lb_X1_lineUp_Q_61 at h
      refine lv_iload hx hb dX1_lineUp_61 (lv_at hl 4 rfl) ?_
      refine lv_if_le (tgt := 111) hx hb dX1_lineUp_63 (by decide) (fun c => ?_) (fun c => ?_)
      · have h := z_t h c
        exact bk_111_3 rec_7_0 hrec_7_0 v1 v2 v3 v4 o_me o_me_machine _ _ _ h hw (lv_sub hl [0, 1, 2, 3, 4] rfl)
      · have h := z_f h c
        refine lv_aload_n hx hb dX1_lineUp_66 rfl (lv_at hl 0 rfl) ?_
        refine fgX1_3 hx hb hts hown hK hw 0 rfl kw367 dX1_lineUp_67 ?_
        refine lv_aload_n hx hb dX1_lineUp_70 rfl (lv_at hl 0 rfl) ?_
        refine fgX1_2 hx hb hts hown hK hw 0 rfl kw366 dX1_lineUp_71 ?_
        refine lv_iload hx hb dX1_lineUp_74 (lv_at hl 4 rfl) ?_
        refine lv_iconst (v := 1) hx hb dX1_lineUp_76 (by decide) ?_
        refine lv_isub hx hb dX1_lineUp_77 ?_
        obtain ⟨g12, h⟩ := z_gd h
        refine faX1_2 hx hb hK hw 0 rfl rfl g12 dX1_lineUp_78 ?_
        obtain ⟨g13, h⟩ := z_gd h
        refine faX1_3 hx hb hK hw 0 rfl rfl g13 dX1_lineUp_79 ?_
        refine lv_aload_n hx hb dX1_lineUp_80 rfl (lv_at hl 0 rfl) ?_
        refine fgX1_3 hx hb hts hown hK hw 0 rfl kw367 dX1_lineUp_81 ?_
        refine lv_iload_n hx hb dX1_lineUp_84 rfl (lv_at hl 3 rfl) ?_
        obtain ⟨g14, h⟩ := z_gd h
        refine faX1_3 hx hb hK hw 0 rfl rfl g14 dX1_lineUp_85 ?_
        refine lv_icmp_ge (tgt := 111) hx hb dX1_lineUp_86 (by decide) (fun c => ?_) (fun c => ?_)
        · have h := z_t h c
          exact bk_111_3 rec_7_0 hrec_7_0 v1 v2 v3 v4 o_me o_me_machine _ _ _ h hw (lv_sub hl [0, 1, 2, 3, 4] rfl)
        · have h := z_f h c
          refine lv_aload_n hx hb dX1_lineUp_89 rfl (lv_at hl 0 rfl) ?_
          refine fgX1_2 hx hb hts hown hK hw 0 rfl kw366 dX1_lineUp_90 ?_
          refine lv_iload hx hb dX1_lineUp_93 (lv_at hl 4 rfl) ?_
          refine lv_aload_n hx hb dX1_lineUp_95 rfl (lv_at hl 0 rfl) ?_
          refine fgX1_2 hx hb hts hown hK hw 0 rfl kw366 dX1_lineUp_96 ?_
          refine lv_iload hx hb dX1_lineUp_99 (lv_at hl 4 rfl) ?_
          refine lv_iconst (v := 1) hx hb dX1_lineUp_101 (by decide) ?_
          refine lv_isub hx hb dX1_lineUp_102 ?_
          obtain ⟨g15, h⟩ := z_gd h
          refine faX1_2 hx hb hK hw 0 rfl rfl g15 dX1_lineUp_103 ?_
          obtain ⟨g16, h⟩ := z_gd h
          refine fbX1_2 hx hb hK hw 0 rfl rfl g16 dX1_lineUp_104 (fun H locs hw => ?_)
          obtain ⟨o17, eo17, h⟩ := z_lt h
          have hw : Wd dC dI A s.heap [wX1 h_me h_me_isles h_me_machine q_me k_me o17, wX2 h_me_isles h_me_isles_now q_me_isles k_me_isles o_me_isles, wX4 h_me_isles_now q_me_isles_now k_me_isles_now o_me_isles_now, wX3 h_me_machine q_me_machine k_me_machine o_me_machine, wPL o_pool] H locs := by rw [eo17]; exact hw
          obtain ⟨x18, ex18, h⟩ := z_lt h
          refine lv_iinc (v := x18) (lv' := [(4, .int x18), (0, .ref h_me), (1, va_rf v1), (2, .int v2), (3, .int v3)]) hx hb dX1_lineUp_105 hl (k := 4) rfl ((congrArg (v4 + ·) (show Int32.ofInt (-1) = (-1 : Int32) from by decide)).trans ex18.symm) (by decide) rfl (fun ls hl => ?_)
          refine lv_goto (tgt := 61) hx hb dX1_lineUp_108 (by decide) ?_
          exact ih v1 v2 v3 x18 o17 o_me_machine _ _ _ h hw (lv_sub hl [1, 2, 3, 4, 0] rfl)
  have lp_7_0 : ∀ (N : Nat), ∀ (v1 : Option Nat) (v2 : Int32) (v3 : Int32) (o_me : Ob) (o_me_machine : Ob) (H : Heap) (locs : List Loc) (ls : Array Slot), lp_X1_lineUp_Q_7 o_me_isles o_me_isles_now o_pool  N (v1, v2, v3, o_me, o_me_machine) = some y → Wd dC dI A s.heap [wX1 h_me h_me_isles h_me_machine q_me k_me o_me, wX2 h_me_isles h_me_isles_now q_me_isles k_me_isles o_me_isles, wX4 h_me_isles_now q_me_isles_now k_me_isles_now o_me_isles_now, wX3 h_me_machine q_me_machine k_me_machine o_me_machine, wPL o_pool] H locs → lv_has ls 5 [(0, .ref h_me), (1, va_rf v1), (2, .int v2), (3, .int v3)] → W p l e ({ frames := 4, cells := 0, slots := 0, locals := 109 } : Room) s m ([.ref h_me, va_rf p0, .int p1] : List Value).toArray below meth c H locs 0 0 Qz (F0 m 7 ls []) := by
    intro N
    induction N with
    | zero =>
      intro v1 v2 v3 o_me o_me_machine H locs ls h hw hl
      exact absurd (show (none : Option (Int32 × Ob × Ob)) = some y from h) (by simp)
    | succ N ih =>
      intro v1 v2 v3 o_me o_me_machine H locs ls h hw hl
      have h : lb_X1_lineUp_Q_7 o_me_isles o_me_isles_now o_pool  (lp_X1_lineUp_Q_7 o_me_isles o_me_isles_now o_pool  N) v1 v2 v3 o_me o_me_machine = some y := h
      unfold lb_X1_lineUp_Q_7 at h
      refine lv_iload_n hx hb dX1_lineUp_7 rfl (lv_at hl 3 rfl) ?_
      refine lv_aload_n hx hb dX1_lineUp_8 rfl (lv_at hl 0 rfl) ?_
      refine fgX1_0 hx hb hts hown hK hw 0 rfl kw363 dX1_lineUp_9 ?_
      refine fgX2_7 hx hb hts hown hK hw 1 rfl kw318 dX1_lineUp_12 ?_
      refine lv_icmp_ge (tgt := 135) hx hb dX1_lineUp_15 (by decide) (fun c => ?_) (fun c => ?_)
      · have h := z_t h c
        refine lv_aload_n hx hb dX1_lineUp_135 rfl (lv_at hl 0 rfl) ?_
        refine fgX1_4 hx hb hts hown hK hw 0 rfl kw368 dX1_lineUp_136 ?_
        have hy := Option.some.inj h
        rw [← hQz, ← hy]
        exact xr_i (v := gI o_me 4) hx hb hr rfl hlk hK hw dX1_lineUp_139
      · have h := z_f h c
        refine lv_aload_n hx hb dX1_lineUp_18 rfl (lv_at hl 0 rfl) ?_
        refine fgX1_0 hx hb hts hown hK hw 0 rfl kw363 dX1_lineUp_19 ?_
        refine fgX2_0 hx hb hts hown hK hw 1 rfl kw299 dX1_lineUp_22 ?_
        refine lv_iload_n hx hb dX1_lineUp_25 rfl (lv_at hl 3 rfl) ?_
        obtain ⟨z2, ez2, h⟩ := z_bd h
        refine xj_i (xrV (As := [.int v3]) (rest := []) ⟨hx, hb, hml, hown, hts⟩ (m_X4_isIn l dC dI _ h_me_isles_now q_me_isles_now k_me_isles_now o_me_isles_now v3 z2 ez2) kw609 kw606 kw607 kw608 kw116 hd_X4_isIn ⟨rfl, rfl⟩ rfl rfl ⟨rfl, rfl⟩ hX hK hw [2] (by decide) rfl rfl rfl rfl rfl hl.1 rfl rfl dX1_lineUp_26) hw hA [2] (by decide) rfl rfl (fun H locs hw => ?_)
        have hw : Wd dC dI A s.heap [wX1 h_me h_me_isles h_me_machine q_me k_me o_me, wX2 h_me_isles h_me_isles_now q_me_isles k_me_isles o_me_isles, wX4 h_me_isles_now q_me_isles_now k_me_isles_now o_me_isles_now, wX3 h_me_machine q_me_machine k_me_machine o_me_machine, wPL o_pool] H locs := hw
        refine lv_if_eq (tgt := 129) hx hb dX1_lineUp_29 (by decide) (fun c => ?_) (fun c => ?_)
        · have h := z_t h c
          exact bk_129_1 (lp_X1_lineUp_Q_7 o_me_isles o_me_isles_now o_pool  N) ih v1 v2 v3 o_me o_me_machine _ _ _ h hw (lv_sub hl [0, 1, 2, 3] rfl)
        · have h := z_f h c
          refine lv_aload_n hx hb dX1_lineUp_32 rfl (lv_at hl 0 rfl) ?_
          refine xaload_n hx hb dX1_lineUp_33 rfl (lv_at hl 1 rfl) ?_
          refine lv_iload_n hx hb dX1_lineUp_34 rfl (lv_at hl 3 rfl) ?_
          refine lv_iload_n hx hb dX1_lineUp_35 rfl (lv_at hl 2 rfl) ?_
          obtain ⟨z4, ez4, h⟩ := z_bd h
          refine xj_i (xrV (As := [va_rf v1, .int v3, .int v2]) (rest := []) ⟨hx, hb, hml, hown, hts⟩ (m_X1_isBarred_Q l dC dI _ h_me h_me_isles h_me_machine h_me_isles_now q_me k_me q_me_isles k_me_isles q_me_isles_now k_me_isles_now q_me_machine k_me_machine o_me o_me_isles o_me_isles_now o_me_machine o_pool v1 v3 v2 z4 ez4) kw585 kw610 kw583 kw584 kw117 hd_X1_isBarred ⟨rfl, rfl⟩ rfl rfl ⟨rfl, rfl⟩ hX hK hw [0, 1, 2, 3, 4] (by decide) rfl rfl rfl rfl rfl hl.1 rfl rfl dX1_lineUp_36) hw hA [0, 1, 2, 3, 4] (by decide) rfl rfl (fun H locs hw => ?_)
          have hw : Wd dC dI A s.heap [wX1 h_me h_me_isles h_me_machine q_me k_me o_me, wX2 h_me_isles h_me_isles_now q_me_isles k_me_isles o_me_isles, wX4 h_me_isles_now q_me_isles_now k_me_isles_now o_me_isles_now, wX3 h_me_machine q_me_machine k_me_machine z4.2, wPL o_pool] H locs := hw
          refine lv_if_ne (tgt := 129) hx hb dX1_lineUp_39 (by decide) (fun c => ?_) (fun c => ?_)
          · have h := z_f h c
            exact bk_129_1 (lp_X1_lineUp_Q_7 o_me_isles o_me_isles_now o_pool  N) ih v1 v2 v3 o_me z4.2 _ _ _ h hw (lv_sub hl [0, 1, 2, 3] rfl)
          · have h := z_t h c
            refine lv_aload_n hx hb dX1_lineUp_42 rfl (lv_at hl 0 rfl) ?_
            refine fgX1_3 hx hb hts hown hK hw 0 rfl kw367 dX1_lineUp_43 ?_
            refine lv_iload_n hx hb dX1_lineUp_46 rfl (lv_at hl 3 rfl) ?_
            refine lv_aload_n hx hb dX1_lineUp_47 rfl (lv_at hl 0 rfl) ?_
            refine xaload_n hx hb dX1_lineUp_48 rfl (lv_at hl 1 rfl) ?_
            refine lv_iload_n hx hb dX1_lineUp_49 rfl (lv_at hl 3 rfl) ?_
            refine lv_iload_n hx hb dX1_lineUp_50 rfl (lv_at hl 2 rfl) ?_
            obtain ⟨z5, ez5, h⟩ := z_bd h
            refine xj_i (xrV (As := [va_rf v1, .int v3, .int v2]) (rest := [.int v3, .ref (q_me 3)]) ⟨hx, hb, hml, hown, hts⟩ (m_X1_runsBy_Q l dC dI _ h_me h_me_isles h_me_machine h_me_isles_now q_me k_me q_me_isles k_me_isles q_me_isles_now k_me_isles_now q_me_machine k_me_machine o_me o_me_isles o_me_isles_now z4.2 o_pool v1 v3 v2 z5 ez5) kw543 kw611 kw541 kw542 kw117 hd_X1_runsBy ⟨rfl, rfl⟩ rfl rfl ⟨rfl, rfl⟩ hX hK hw [0, 1, 2, 3, 4] (by decide) rfl rfl rfl rfl rfl hl.1 rfl rfl dX1_lineUp_51) hw hA [0, 1, 2, 3, 4] (by decide) rfl rfl (fun H locs hw => ?_)
            have hw : Wd dC dI A s.heap [wX1 h_me h_me_isles h_me_machine q_me k_me o_me, wX2 h_me_isles h_me_isles_now q_me_isles k_me_isles o_me_isles, wX4 h_me_isles_now q_me_isles_now k_me_isles_now o_me_isles_now, wX3 h_me_machine q_me_machine k_me_machine z5.2, wPL o_pool] H locs := hw
            obtain ⟨g6, h⟩ := z_gd h
            refine fbX1_3 hx hb hK hw 0 rfl rfl g6 dX1_lineUp_54 (fun H locs hw => ?_)
            obtain ⟨o7, eo7, h⟩ := z_lt h
            have hw : Wd dC dI A s.heap [wX1 h_me h_me_isles h_me_machine q_me k_me o7, wX2 h_me_isles h_me_isles_now q_me_isles k_me_isles o_me_isles, wX4 h_me_isles_now q_me_isles_now k_me_isles_now o_me_isles_now, wX3 h_me_machine q_me_machine k_me_machine z5.2, wPL o_pool] H locs := by rw [eo7]; exact hw
            refine lv_aload_n hx hb dX1_lineUp_55 rfl (lv_at hl 0 rfl) ?_
            refine fgX1_4 hx hb hts hown hK hw 0 rfl kw368 dX1_lineUp_56 ?_
            obtain ⟨x8, ex8, h⟩ := z_lt h
            refine lv_fi (v := x8) ex8.symm ?_
            refine lv_istore (lv' := [(4, .int x8), (0, .ref h_me), (1, va_rf v1), (2, .int v2), (3, .int v3)]) hx hb dX1_lineUp_59 hl (by decide) rfl (fun ls hl => ?_)
            exact lp_61_2 (lp_X1_lineUp_Q_7 o_me_isles o_me_isles_now o_pool  N) ih zfu v1 v2 v3 x8 o7 z5.2 _ _ _ h hw (lv_sub hl [1, 2, 3, 4, 0] rfl)
  unfold f_X1_lineUp_Q at h
  refine lv_aload_n hx hb dX1_lineUp_0 rfl (lv_at hl 0 rfl) ?_
  refine lv_iconst (v := 0) hx hb dX1_lineUp_1 (by decide) ?_
  refine fpX1_4 hx hb hts hown hK hw 0 rfl kw368 dX1_lineUp_2 (fun H locs hw => ?_)
  obtain ⟨o1, eo1, h⟩ := z_lt h
  have hw : Wd dC dI A s.heap [wX1 h_me h_me_isles h_me_machine q_me k_me o1, wX2 h_me_isles h_me_isles_now q_me_isles k_me_isles o_me_isles, wX4 h_me_isles_now q_me_isles_now k_me_isles_now o_me_isles_now, wX3 h_me_machine q_me_machine k_me_machine o_me_machine, wPL o_pool] H locs := by rw [eo1]; exact hw
  refine lv_iconst (v := 0) hx hb dX1_lineUp_5 (by decide) ?_
  refine lv_istore_n (lv' := [(3, .int (0 : Int32)), (0, .ref h_me), (1, va_rf p0), (2, .int p1)]) hx hb dX1_lineUp_6 rfl hl (by decide) rfl (fun ls hl => ?_)
  exact lp_7_0  zfu p0 p1 (0 : Int32) o1 o_me_machine _ _ _ h hw (lv_sub hl [1, 2, 3, 0] rfl)

def bk_X1_moved_N_142 (o_me_isles : Ob) (o_pool : List CR)  (v1 : Int32) (v2 : Int32) (o_me : Ob) (o_me_isles_now : Ob) (o_me_machine : Ob) : Option (Int32 × Ob × Ob × Ob) :=
  if v1 = (0 : Int32) then
  ((f_X1_heldRace o_me o_me_isles o_me_isles_now o_me_machine o_pool v2).bind fun z3 =>
  some (z3.1, o_me, z3.2.1, z3.2.2))
  else
  (if v1 = (1 : Int32) then
  ((f_X1_changedEntry o_me o_me_isles o_me_isles_now v2).bind fun z4 =>
  some (z4.1, o_me, z4.2, o_me_machine))
  else
  (if v1 = (2 : Int32) then
  ((f_X1_takenGap o_me o_me_isles o_me_isles_now v2).bind fun z5 =>
  some (z5.1, o_me, z5.2, o_me_machine))
  else
  ((f_X1_passedYear o_me o_me_isles o_me_isles_now o_me_machine o_pool).bind fun z6 =>
  some (z6.1, o_me, z6.2.1, z6.2.2))))
def bk_X1_moved_N_118 (o_me_isles : Ob) (o_pool : List CR)  (v1 : Int32) (v2 : Int32) (v4 : Int32) (o_me : Ob) (o_me_isles_now : Ob) (o_me_machine : Ob) : Option (Int32 × Ob × Ob × Ob) :=
  if v4 = (0 : Int32) then
  (bk_X1_moved_N_142 o_me_isles o_pool  v1 v2 o_me o_me_isles_now o_me_machine)
  else
  (some (v4, o_me, o_me_isles_now, o_me_machine))
def bk_X1_moved_N_116 (o_me_isles : Ob) (o_pool : List CR)  (v1 : Int32) (v2 : Int32) (s0 : Int32) (o_me : Ob) (o_me_isles_now : Ob) (o_me_machine : Ob) : Option (Int32 × Ob × Ob × Ob) :=
  bk_X1_moved_N_118 o_me_isles o_pool  v1 v2 s0 o_me o_me_isles_now o_me_machine
def bk_X1_moved_N_115 (o_me_isles : Ob) (o_pool : List CR)  (v1 : Int32) (v2 : Int32) (o_me : Ob) (o_me_isles_now : Ob) (o_me_machine : Ob) : Option (Int32 × Ob × Ob × Ob) :=
  bk_X1_moved_N_116 o_me_isles o_pool  v1 v2 (0 : Int32) o_me o_me_isles_now o_me_machine
def bk_X1_moved_N_71 (o_me_isles : Ob) (o_pool : List CR)  (v1 : Int32) (v2 : Int32) (s0 : Int32) (o_me : Ob) (o_me_isles_now : Ob) (o_me_machine : Ob) : Option (Int32 × Ob × Ob × Ob) :=
  bk_X1_moved_N_118 o_me_isles o_pool  v1 v2 s0 o_me o_me_isles_now o_me_machine
def bk_X1_moved_N_39 (o_me_isles : Ob) (o_pool : List CR)  (v1 : Int32) (v2 : Int32) (s0 : Int32) (o_me : Ob) (o_me_isles_now : Ob) (o_me_machine : Ob) : Option (Int32 × Ob × Ob × Ob) :=
  bk_X1_moved_N_118 o_me_isles o_pool  v1 v2 s0 o_me o_me_isles_now o_me_machine
def f_X1_moved_N (o_me : Ob) (o_me_isles : Ob) (o_me_isles_now : Ob) (o_me_machine : Ob) (o_pool : List CR) (p0 : Int32) (p1 : Int32) : Option (Int32 × Ob × Ob × Ob) :=
  if p0 = (0 : Int32) then
  ((f_X8_isRace p1).bind fun z7 =>
  if z7 = (0 : Int32) then
  (bk_X1_moved_N_39 o_me_isles o_pool  p0 p1 (-1 : Int32) o_me o_me_isles_now o_me_machine)
  else
  ((f_X2_lawInForce o_me_isles).bind fun z8 =>
  (f_X1_lineUp_Q o_me o_me_isles o_me_isles_now o_me_machine o_pool z8 p1).bind fun z9 =>
  if z9.1 = (0 : Int32) then
  (bk_X1_moved_N_39 o_me_isles o_pool  p0 p1 (-3 : Int32) z9.2.1 o_me_isles_now z9.2.2)
  else
  (bk_X1_moved_N_39 o_me_isles o_pool  p0 p1 (0 : Int32) z9.2.1 o_me_isles_now z9.2.2)))
  else
  (if p0 = (3 : Int32) then
  (if (gI o_me_isles_now 4) < (999 : Int32) then
  (bk_X1_moved_N_71 o_me_isles o_pool  p0 p1 (0 : Int32) o_me o_me_isles_now o_me_machine)
  else
  (bk_X1_moved_N_71 o_me_isles o_pool  p0 p1 (-3 : Int32) o_me o_me_isles_now o_me_machine))
  else
  ((f_X2_isPerson o_me_isles p1).bind fun z1 =>
  if z1 = (0 : Int32) then
  (bk_X1_moved_N_116 o_me_isles o_pool  p0 p1 (-2 : Int32) o_me o_me_isles_now o_me_machine)
  else
  (if p0 = (2 : Int32) then
  (if (gI o_me_isles_now 3) = (0 : Int32) then
  (bk_X1_moved_N_116 o_me_isles o_pool  p0 p1 (-3 : Int32) o_me o_me_isles_now o_me_machine)
  else
  (bk_X1_moved_N_115 o_me_isles o_pool  p0 p1 o_me o_me_isles_now o_me_machine))
  else
  (bk_X1_moved_N_115 o_me_isles o_pool  p0 p1 o_me o_me_isles_now o_me_machine))))
set_option maxHeartbeats 4000000 in
set_option maxRecDepth 100000 in
theorem m_X1_moved_N (l : Launch) (dC : Nat → ClassId) (dI : Nat → Nat → Nat) (sz : Nat) (h_me : Nat) (h_me_isles : Nat) (h_me_machine : Nat) (h_me_isles_now : Nat) (q_me : Nat → Nat) (k_me : Nat → ClassId) (q_me_isles : Nat → Nat) (k_me_isles : Nat → ClassId) (q_me_isles_now : Nat → Nat) (k_me_isles_now : Nat → ClassId) (q_me_machine : Nat → Nat) (k_me_machine : Nat → ClassId) (o_me : Ob) (o_me_isles : Ob) (o_me_isles_now : Ob) (o_me_machine : Ob) (o_pool : List CR) (p0 : Int32) (p1 : Int32) (y : Int32 × Ob × Ob × Ob) (h : f_X1_moved_N o_me o_me_isles o_me_isles_now o_me_machine o_pool p0 p1 = some y) : CI l yX1_moved cX1_moved 5 (some .int) ({ frames := 5, cells := 0, slots := 0, locals := 139 } : Room) dC dI sz [.ref h_me, .int p0, .int p1, .null] [wX1 h_me h_me_isles h_me_machine q_me k_me o_me, wX2 h_me_isles h_me_isles_now q_me_isles k_me_isles o_me_isles, wX4 h_me_isles_now q_me_isles_now k_me_isles_now o_me_isles_now, wX3 h_me_machine q_me_machine k_me_machine o_me_machine, wPL o_pool] [tX1 k_me, tX2 k_me_isles, tX4 k_me_isles_now, tX3 k_me_machine, tPL o_pool] y.1 [wX1 h_me h_me_isles h_me_machine q_me k_me y.2.1, wX2 h_me_isles h_me_isles_now q_me_isles k_me_isles o_me_isles, wX4 h_me_isles_now q_me_isles_now k_me_isles_now y.2.2.1, wX3 h_me_machine q_me_machine k_me_machine y.2.2.2, wPL o_pool] := by
  refine CC_of (by decide) (Nat.le_of_ble_eq_true rfl) ?_
  intro p e s m below meth c A ls hx hb hml hr hlk hnm hown hts hX hK hP hD hA hl
  have hl : lv_has ls 5 [(0, .ref h_me), (1, .int p0), (2, .int p1), (3, .null)] := hl
  have hown : s.vm.findClass RX1 = some m.cls := hown
  have hw : Wd dC dI A s.heap [wX1 h_me h_me_isles h_me_machine q_me k_me o_me, wX2 h_me_isles h_me_isles_now q_me_isles k_me_isles o_me_isles, wX4 h_me_isles_now q_me_isles_now k_me_isles_now o_me_isles_now, wX3 h_me_machine q_me_machine k_me_machine o_me_machine, wPL o_pool] s.heap [] := ⟨hP, hD, va_S.rf⟩
  generalize hQz : (MQ below (QI dC dI (fun r (_ : Unit) => r = y.1) (fun _ => Jn [wX1 h_me h_me_isles h_me_machine q_me k_me y.2.1, wX2 h_me_isles h_me_isles_now q_me_isles k_me_isles o_me_isles, wX4 h_me_isles_now q_me_isles_now k_me_isles_now y.2.2.1, wX3 h_me_machine q_me_machine k_me_machine y.2.2.2, wPL o_pool]) (fun _ => Jt [tX1 k_me, tX2 k_me_isles, tX4 k_me_isles_now, tX3 k_me_machine, tPL o_pool]) A) ([.ref h_me, .int p0, .int p1, .null] : List Value).toArray s 0 0 A) = Qz
  clear hP hD hnm
  have bk_142_3 : ∀ (v1 : Int32) (v2 : Int32) (o_me : Ob) (o_me_isles_now : Ob) (o_me_machine : Ob) (H : Heap) (locs : List Loc) (ls : Array Slot), bk_X1_moved_N_142 o_me_isles o_pool  v1 v2 o_me o_me_isles_now o_me_machine = some y → Wd dC dI A s.heap [wX1 h_me h_me_isles h_me_machine q_me k_me o_me, wX2 h_me_isles h_me_isles_now q_me_isles k_me_isles o_me_isles, wX4 h_me_isles_now q_me_isles_now k_me_isles_now o_me_isles_now, wX3 h_me_machine q_me_machine k_me_machine o_me_machine, wPL o_pool] H locs → lv_has ls 5 [(0, .ref h_me), (1, .int v1), (2, .int v2)] → W p l e ({ frames := 5, cells := 0, slots := 0, locals := 139 } : Room) s m ([.ref h_me, .int p0, .int p1, .null] : List Value).toArray below meth c H locs 0 0 Qz (F0 m 142 ls []) := by
    intro v1 v2 o_me o_me_isles_now o_me_machine H locs ls h hw hl
    unfold bk_X1_moved_N_142 at h
    refine lv_iload_n hx hb dX1_moved_142 rfl (lv_at hl 1 rfl) ?_
    rcases (show v1.toInt = 0 ∨ v1.toInt = 1 ∨ v1.toInt = 2 ∨ (v1.toInt < 0 ∨ 2 < v1.toInt) by omega) with c2 | c2 | c2 | c2
    · skip
      have ec2 : v1 = (0 : Int32) := Int32.toInt_inj.mp (c2.trans (by decide))
      have h := z_t h ec2
      refine lv_fi (v := 0) ec2 ?_
      refine lv_tableIn (tgt := 168) hx hb dX1_moved_143 (by decide) (by decide) rfl (by decide) ?_
      refine lv_aload_n hx hb dX1_moved_168 rfl (lv_at hl 0 rfl) ?_
      refine lv_iload_n hx hb dX1_moved_169 rfl (lv_at hl 2 rfl) ?_
      obtain ⟨z3, ez3, h⟩ := z_bd h
      refine xj_i (xrV (As := [.int v2]) (rest := []) ⟨hx, hb, hml, hown, hts⟩ (m_X1_heldRace l dC dI _ h_me h_me_isles h_me_machine h_me_isles_now q_me k_me q_me_isles k_me_isles q_me_isles_now k_me_isles_now q_me_machine k_me_machine o_me o_me_isles o_me_isles_now o_me_machine o_pool v2 z3 ez3) kw866 kw863 kw865 kw20 kw117 hd_X1_heldRace ⟨rfl, rfl⟩ rfl rfl ⟨rfl, rfl⟩ hX hK hw [0, 1, 2, 3, 4] (by decide) rfl rfl rfl rfl rfl hl.1 rfl rfl dX1_moved_170) hw hA [0, 1, 2, 3, 4] (by decide) rfl rfl (fun H locs hw => ?_)
      have hw : Wd dC dI A s.heap [wX1 h_me h_me_isles h_me_machine q_me k_me o_me, wX2 h_me_isles h_me_isles_now q_me_isles k_me_isles o_me_isles, wX4 h_me_isles_now q_me_isles_now k_me_isles_now z3.2.1, wX3 h_me_machine q_me_machine k_me_machine z3.2.2, wPL o_pool] H locs := hw
      have hy := Option.some.inj h
      rw [← hQz, ← hy]
      exact xr_i (v := z3.1) hx hb hr rfl hlk hK hw dX1_moved_173
    · skip
      have h := z_f h (fun e9 => by rw [e9] at c2; revert c2; decide)
      have ec2 : v1 = (1 : Int32) := Int32.toInt_inj.mp (c2.trans (by decide))
      have h := z_t h ec2
      refine lv_fi (v := 1) ec2 ?_
      refine lv_tableIn (tgt := 174) hx hb dX1_moved_143 (by decide) (by decide) rfl (by decide) ?_
      refine lv_aload_n hx hb dX1_moved_174 rfl (lv_at hl 0 rfl) ?_
      refine lv_iload_n hx hb dX1_moved_175 rfl (lv_at hl 2 rfl) ?_
      obtain ⟨z4, ez4, h⟩ := z_bd h
      refine xj_i (xrV (As := [.int v2]) (rest := []) ⟨hx, hb, hml, hown, hts⟩ (m_X1_changedEntry l dC dI _ h_me h_me_isles h_me_machine h_me_isles_now q_me k_me q_me_isles k_me_isles q_me_isles_now k_me_isles_now o_me o_me_isles o_me_isles_now v2 z4 ez4) kw885 kw882 kw884 kw22 kw117 hd_X1_changedEntry ⟨rfl, rfl⟩ rfl rfl ⟨rfl, rfl⟩ hX hK hw [0, 1, 2] (by decide) rfl rfl rfl rfl rfl hl.1 rfl rfl dX1_moved_176) hw hA [0, 1, 2] (by decide) rfl rfl (fun H locs hw => ?_)
      have hw : Wd dC dI A s.heap [wX1 h_me h_me_isles h_me_machine q_me k_me o_me, wX2 h_me_isles h_me_isles_now q_me_isles k_me_isles o_me_isles, wX4 h_me_isles_now q_me_isles_now k_me_isles_now z4.2, wX3 h_me_machine q_me_machine k_me_machine o_me_machine, wPL o_pool] H locs := hw
      have hy := Option.some.inj h
      rw [← hQz, ← hy]
      exact xr_i (v := z4.1) hx hb hr rfl hlk hK hw dX1_moved_179
    · skip
      have h := z_f h (fun e9 => by rw [e9] at c2; revert c2; decide)
      have h := z_f h (fun e9 => by rw [e9] at c2; revert c2; decide)
      have ec2 : v1 = (2 : Int32) := Int32.toInt_inj.mp (c2.trans (by decide))
      have h := z_t h ec2
      refine lv_fi (v := 2) ec2 ?_
      refine lv_tableIn (tgt := 180) hx hb dX1_moved_143 (by decide) (by decide) rfl (by decide) ?_
      refine lv_aload_n hx hb dX1_moved_180 rfl (lv_at hl 0 rfl) ?_
      refine lv_iload_n hx hb dX1_moved_181 rfl (lv_at hl 2 rfl) ?_
      obtain ⟨z5, ez5, h⟩ := z_bd h
      refine xj_i (xrV (As := [.int v2]) (rest := []) ⟨hx, hb, hml, hown, hts⟩ (m_X1_takenGap l dC dI _ h_me h_me_isles h_me_machine h_me_isles_now q_me k_me q_me_isles k_me_isles q_me_isles_now k_me_isles_now o_me o_me_isles o_me_isles_now v2 z5 ez5) kw889 kw886 kw888 kw23 kw117 hd_X1_takenGap ⟨rfl, rfl⟩ rfl rfl ⟨rfl, rfl⟩ hX hK hw [0, 1, 2] (by decide) rfl rfl rfl rfl rfl hl.1 rfl rfl dX1_moved_182) hw hA [0, 1, 2] (by decide) rfl rfl (fun H locs hw => ?_)
      have hw : Wd dC dI A s.heap [wX1 h_me h_me_isles h_me_machine q_me k_me o_me, wX2 h_me_isles h_me_isles_now q_me_isles k_me_isles o_me_isles, wX4 h_me_isles_now q_me_isles_now k_me_isles_now z5.2, wX3 h_me_machine q_me_machine k_me_machine o_me_machine, wPL o_pool] H locs := hw
      have hy := Option.some.inj h
      rw [← hQz, ← hy]
      exact xr_i (v := z5.1) hx hb hr rfl hlk hK hw dX1_moved_185
    · skip
      have h := z_f h (fun e9 => by rw [e9] at c2; revert c2; decide)
      have h := z_f h (fun e9 => by rw [e9] at c2; revert c2; decide)
      have h := z_f h (fun e9 => by rw [e9] at c2; revert c2; decide)
      refine lv_tableOut (tgt := 186) hx hb dX1_moved_143 c2 (by decide) ?_
      refine lv_aload_n hx hb dX1_moved_186 rfl (lv_at hl 0 rfl) ?_
      obtain ⟨z6, ez6, h⟩ := z_bd h
      refine xj_i (xrV (As := []) (rest := []) ⟨hx, hb, hml, hown, hts⟩ (m_X1_passedYear l dC dI _ h_me h_me_isles h_me_machine h_me_isles_now q_me k_me q_me_isles k_me_isles q_me_isles_now k_me_isles_now q_me_machine k_me_machine o_me o_me_isles o_me_isles_now o_me_machine o_pool z6 ez6) kw893 kw890 kw892 kw24 kw117 hd_X1_passedYear ⟨rfl, rfl⟩ rfl rfl ⟨rfl, rfl⟩ hX hK hw [0, 1, 2, 3, 4] (by decide) rfl rfl rfl rfl rfl hl.1 rfl rfl dX1_moved_187) hw hA [0, 1, 2, 3, 4] (by decide) rfl rfl (fun H locs hw => ?_)
      have hw : Wd dC dI A s.heap [wX1 h_me h_me_isles h_me_machine q_me k_me o_me, wX2 h_me_isles h_me_isles_now q_me_isles k_me_isles o_me_isles, wX4 h_me_isles_now q_me_isles_now k_me_isles_now z6.2.1, wX3 h_me_machine q_me_machine k_me_machine z6.2.2, wPL o_pool] H locs := hw
      have hy := Option.some.inj h
      rw [← hQz, ← hy]
      exact xr_i (v := z6.1) hx hb hr rfl hlk hK hw dX1_moved_190
  have bk_118_2 : ∀ (v1 : Int32) (v2 : Int32) (v4 : Int32) (o_me : Ob) (o_me_isles_now : Ob) (o_me_machine : Ob) (H : Heap) (locs : List Loc) (ls : Array Slot), bk_X1_moved_N_118 o_me_isles o_pool  v1 v2 v4 o_me o_me_isles_now o_me_machine = some y → Wd dC dI A s.heap [wX1 h_me h_me_isles h_me_machine q_me k_me o_me, wX2 h_me_isles h_me_isles_now q_me_isles k_me_isles o_me_isles, wX4 h_me_isles_now q_me_isles_now k_me_isles_now o_me_isles_now, wX3 h_me_machine q_me_machine k_me_machine o_me_machine, wPL o_pool] H locs → lv_has ls 5 [(0, .ref h_me), (1, .int v1), (2, .int v2), (3, .null), (4, .int v4)] → W p l e ({ frames := 5, cells := 0, slots := 0, locals := 139 } : Room) s m ([.ref h_me, .int p0, .int p1, .null] : List Value).toArray below meth c H locs 0 0 Qz (F0 m 118 ls []) := by
    intro v1 v2 v4 o_me o_me_isles_now o_me_machine H locs ls h hw hl
    unfold bk_X1_moved_N_118 at h
    refine lv_iload hx hb dX1_moved_118 (lv_at hl 4 rfl) ?_
    refine lv_if_eq (tgt := 126) hx hb dX1_moved_120 (by decide) (fun c => ?_) (fun c => ?_)
    · have h := z_t h c
      refine lv_aload_nN hx hb dX1_moved_126 rfl (lv_at hl 3 rfl) ?_
      refine lv_ifnullN (tgt := 142) hx hb dX1_moved_127 (by decide) ?_
      exact bk_142_3  v1 v2 o_me o_me_isles_now o_me_machine _ _ _ h hw (lv_sub hl [0, 1, 2] rfl)
    · have h := z_f h c
      refine lv_iload hx hb dX1_moved_123 (lv_at hl 4 rfl) ?_
      have hy := Option.some.inj h
      rw [← hQz, ← hy]
      exact xr_i (v := v4) hx hb hr rfl hlk hK hw dX1_moved_125
  have bk_116_1 : ∀ (v1 : Int32) (v2 : Int32) (s0 : Int32) (o_me : Ob) (o_me_isles_now : Ob) (o_me_machine : Ob) (H : Heap) (locs : List Loc) (ls : Array Slot), bk_X1_moved_N_116 o_me_isles o_pool  v1 v2 s0 o_me o_me_isles_now o_me_machine = some y → Wd dC dI A s.heap [wX1 h_me h_me_isles h_me_machine q_me k_me o_me, wX2 h_me_isles h_me_isles_now q_me_isles k_me_isles o_me_isles, wX4 h_me_isles_now q_me_isles_now k_me_isles_now o_me_isles_now, wX3 h_me_machine q_me_machine k_me_machine o_me_machine, wPL o_pool] H locs → lv_has ls 5 [(0, .ref h_me), (1, .int v1), (2, .int v2), (3, .null)] → W p l e ({ frames := 5, cells := 0, slots := 0, locals := 139 } : Room) s m ([.ref h_me, .int p0, .int p1, .null] : List Value).toArray below meth c H locs 0 0 Qz (F0 m 116 ls [.int s0]) := by
    intro v1 v2 s0 o_me o_me_isles_now o_me_machine H locs ls h hw hl
    unfold bk_X1_moved_N_116 at h
    refine lv_istore (lv' := [(4, .int s0), (0, .ref h_me), (1, .int v1), (2, .int v2), (3, .null)]) hx hb dX1_moved_116 hl (by decide) rfl (fun ls hl => ?_)
    exact bk_118_2  v1 v2 s0 o_me o_me_isles_now o_me_machine _ _ _ h hw (lv_sub hl [1, 2, 3, 4, 0] rfl)
  have bk_115_0 : ∀ (v1 : Int32) (v2 : Int32) (o_me : Ob) (o_me_isles_now : Ob) (o_me_machine : Ob) (H : Heap) (locs : List Loc) (ls : Array Slot), bk_X1_moved_N_115 o_me_isles o_pool  v1 v2 o_me o_me_isles_now o_me_machine = some y → Wd dC dI A s.heap [wX1 h_me h_me_isles h_me_machine q_me k_me o_me, wX2 h_me_isles h_me_isles_now q_me_isles k_me_isles o_me_isles, wX4 h_me_isles_now q_me_isles_now k_me_isles_now o_me_isles_now, wX3 h_me_machine q_me_machine k_me_machine o_me_machine, wPL o_pool] H locs → lv_has ls 5 [(0, .ref h_me), (1, .int v1), (2, .int v2), (3, .null)] → W p l e ({ frames := 5, cells := 0, slots := 0, locals := 139 } : Room) s m ([.ref h_me, .int p0, .int p1, .null] : List Value).toArray below meth c H locs 0 0 Qz (F0 m 115 ls []) := by
    intro v1 v2 o_me o_me_isles_now o_me_machine H locs ls h hw hl
    unfold bk_X1_moved_N_115 at h
    refine lv_iconst (v := 0) hx hb dX1_moved_115 (by decide) ?_
    exact bk_116_1  v1 v2 (0 : Int32) o_me o_me_isles_now o_me_machine _ _ _ h hw (lv_sub hl [0, 1, 2, 3] rfl)
  have bk_71_4 : ∀ (v1 : Int32) (v2 : Int32) (s0 : Int32) (o_me : Ob) (o_me_isles_now : Ob) (o_me_machine : Ob) (H : Heap) (locs : List Loc) (ls : Array Slot), bk_X1_moved_N_71 o_me_isles o_pool  v1 v2 s0 o_me o_me_isles_now o_me_machine = some y → Wd dC dI A s.heap [wX1 h_me h_me_isles h_me_machine q_me k_me o_me, wX2 h_me_isles h_me_isles_now q_me_isles k_me_isles o_me_isles, wX4 h_me_isles_now q_me_isles_now k_me_isles_now o_me_isles_now, wX3 h_me_machine q_me_machine k_me_machine o_me_machine, wPL o_pool] H locs → lv_has ls 5 [(0, .ref h_me), (1, .int v1), (2, .int v2), (3, .null)] → W p l e ({ frames := 5, cells := 0, slots := 0, locals := 139 } : Room) s m ([.ref h_me, .int p0, .int p1, .null] : List Value).toArray below meth c H locs 0 0 Qz (F0 m 71 ls [.int s0]) := by
    intro v1 v2 s0 o_me o_me_isles_now o_me_machine H locs ls h hw hl
    unfold bk_X1_moved_N_71 at h
    refine lv_istore (lv' := [(4, .int s0), (0, .ref h_me), (1, .int v1), (2, .int v2), (3, .null)]) hx hb dX1_moved_71 hl (by decide) rfl (fun ls hl => ?_)
    refine lv_goto (tgt := 118) hx hb dX1_moved_73 (by decide) ?_
    exact bk_118_2  v1 v2 s0 o_me o_me_isles_now o_me_machine _ _ _ h hw (lv_sub hl [1, 2, 3, 4, 0] rfl)
  have bk_39_5 : ∀ (v1 : Int32) (v2 : Int32) (s0 : Int32) (o_me : Ob) (o_me_isles_now : Ob) (o_me_machine : Ob) (H : Heap) (locs : List Loc) (ls : Array Slot), bk_X1_moved_N_39 o_me_isles o_pool  v1 v2 s0 o_me o_me_isles_now o_me_machine = some y → Wd dC dI A s.heap [wX1 h_me h_me_isles h_me_machine q_me k_me o_me, wX2 h_me_isles h_me_isles_now q_me_isles k_me_isles o_me_isles, wX4 h_me_isles_now q_me_isles_now k_me_isles_now o_me_isles_now, wX3 h_me_machine q_me_machine k_me_machine o_me_machine, wPL o_pool] H locs → lv_has ls 5 [(0, .ref h_me), (1, .int v1), (2, .int v2), (3, .null)] → W p l e ({ frames := 5, cells := 0, slots := 0, locals := 139 } : Room) s m ([.ref h_me, .int p0, .int p1, .null] : List Value).toArray below meth c H locs 0 0 Qz (F0 m 39 ls [.int s0]) := by
    intro v1 v2 s0 o_me o_me_isles_now o_me_machine H locs ls h hw hl
    unfold bk_X1_moved_N_39 at h
    refine lv_istore (lv' := [(4, .int s0), (0, .ref h_me), (1, .int v1), (2, .int v2), (3, .null)]) hx hb dX1_moved_39 hl (by decide) rfl (fun ls hl => ?_)
    refine lv_goto (tgt := 118) hx hb dX1_moved_41 (by decide) ?_
    exact bk_118_2  v1 v2 s0 o_me o_me_isles_now o_me_machine _ _ _ h hw (lv_sub hl [1, 2, 3, 4, 0] rfl)
  unfold f_X1_moved_N at h
  refine lv_iconst (v := 0) hx hb dX1_moved_0 (by decide) ?_
  refine lv_istore (lv' := [(4, .int (0 : Int32)), (0, .ref h_me), (1, .int p0), (2, .int p1), (3, .null)]) hx hb dX1_moved_1 hl (by decide) rfl (fun ls hl => ?_)
  refine lv_iload_n hx hb dX1_moved_3 rfl (lv_at hl 2 rfl) ?_
  refine lv_if_ne (tgt := 44) hx hb dX1_moved_4 (by decide) (fun c => ?_) (fun c => ?_)
  · have h := z_f h c
    refine lv_iload_n hx hb dX1_moved_44 rfl (lv_at hl 2 rfl) ?_
    refine lv_iconst (v := 3) hx hb dX1_moved_45 (by decide) ?_
    refine lv_icmp_ne (tgt := 76) hx hb dX1_moved_46 (by decide) (fun c => ?_) (fun c => ?_)
    · have h := z_f h c
      refine lv_aload_n hx hb dX1_moved_76 rfl (lv_at hl 1 rfl) ?_
      refine fgX1_0 hx hb hts hown hK hw 0 rfl kw363 dX1_moved_77 ?_
      refine lv_iload_n hx hb dX1_moved_80 rfl (lv_at hl 3 rfl) ?_
      obtain ⟨z1, ez1, h⟩ := z_bd h
      refine xj_i (xrV (As := [.int p1]) (rest := []) ⟨hx, hb, hml, hown, hts⟩ (m_X2_isPerson l dC dI _ h_me_isles h_me_isles_now q_me_isles k_me_isles o_me_isles p1 z1 ez1) kw504 kw548 kw502 kw503 kw115 hd_X2_isPerson ⟨rfl, rfl⟩ rfl rfl ⟨rfl, rfl⟩ hX hK hw [1] (by decide) rfl rfl rfl rfl rfl hl.1 rfl rfl dX1_moved_81) hw hA [1] (by decide) rfl rfl (fun H locs hw => ?_)
      have hw : Wd dC dI A s.heap [wX1 h_me h_me_isles h_me_machine q_me k_me o_me, wX2 h_me_isles h_me_isles_now q_me_isles k_me_isles o_me_isles, wX4 h_me_isles_now q_me_isles_now k_me_isles_now o_me_isles_now, wX3 h_me_machine q_me_machine k_me_machine o_me_machine, wPL o_pool] H locs := hw
      refine lv_if_ne (tgt := 92) hx hb dX1_moved_84 (by decide) (fun c => ?_) (fun c => ?_)
      · have h := z_f h c
        refine lv_iload_n hx hb dX1_moved_92 rfl (lv_at hl 2 rfl) ?_
        refine lv_iconst (v := 2) hx hb dX1_moved_93 (by decide) ?_
        refine lv_icmp_ne (tgt := 115) hx hb dX1_moved_94 (by decide) (fun c => ?_) (fun c => ?_)
        · have h := z_f h c
          exact bk_115_0  p0 p1 o_me o_me_isles_now o_me_machine _ _ _ h hw (lv_sub hl [1, 2, 3, 4] rfl)
        · have h := z_t h c
          refine lv_aload_n hx hb dX1_moved_97 rfl (lv_at hl 1 rfl) ?_
          refine fgX1_0 hx hb hts hown hK hw 0 rfl kw363 dX1_moved_98 ?_
          refine fgX2_0 hx hb hts hown hK hw 1 rfl kw299 dX1_moved_101 ?_
          refine fgX4_3 hx hb hts hown hK hw 2 rfl kw275 dX1_moved_104 ?_
          refine lv_if_ne (tgt := 115) hx hb dX1_moved_107 (by decide) (fun c => ?_) (fun c => ?_)
          · have h := z_f h c
            exact bk_115_0  p0 p1 o_me o_me_isles_now o_me_machine _ _ _ h hw (lv_sub hl [1, 2, 3, 4] rfl)
          · have h := z_t h c
            refine lv_bipush (v := (-3)) hx hb dX1_moved_110 (by decide) ?_
            refine lv_goto (tgt := 116) hx hb dX1_moved_112 (by decide) ?_
            exact bk_116_1  p0 p1 (-3 : Int32) o_me o_me_isles_now o_me_machine _ _ _ h hw (lv_sub hl [1, 2, 3, 4] rfl)
      · have h := z_t h c
        refine lv_bipush (v := (-2)) hx hb dX1_moved_87 (by decide) ?_
        refine lv_goto (tgt := 116) hx hb dX1_moved_89 (by decide) ?_
        exact bk_116_1  p0 p1 (-2 : Int32) o_me o_me_isles_now o_me_machine _ _ _ h hw (lv_sub hl [1, 2, 3, 4] rfl)
    · have h := z_t h c
      refine lv_aload_n hx hb dX1_moved_49 rfl (lv_at hl 1 rfl) ?_
      refine fgX1_0 hx hb hts hown hK hw 0 rfl kw363 dX1_moved_50 ?_
      refine fgX2_0 hx hb hts hown hK hw 1 rfl kw299 dX1_moved_53 ?_
      refine fgX4_4 hx hb hts hown hK hw 2 rfl kw280 dX1_moved_56 ?_
      refine lv_sipush (v := 999) hx hb dX1_moved_59 (by decide) ?_
      refine lv_icmp_lt (tgt := 70) hx hb dX1_moved_62 (by decide) (fun c => ?_) (fun c => ?_)
      · have h := z_t h c
        refine lv_iconst (v := 0) hx hb dX1_moved_70 (by decide) ?_
        exact bk_71_4  p0 p1 (0 : Int32) o_me o_me_isles_now o_me_machine _ _ _ h hw (lv_sub hl [1, 2, 3, 4] rfl)
      · have h := z_f h c
        refine lv_bipush (v := (-3)) hx hb dX1_moved_65 (by decide) ?_
        refine lv_goto (tgt := 71) hx hb dX1_moved_67 (by decide) ?_
        exact bk_71_4  p0 p1 (-3 : Int32) o_me o_me_isles_now o_me_machine _ _ _ h hw (lv_sub hl [1, 2, 3, 4] rfl)
  · have h := z_t h c
    refine lv_iload_n hx hb dX1_moved_7 rfl (lv_at hl 3 rfl) ?_
    obtain ⟨z7, ez7, h⟩ := z_bd h
    refine xj_i (xrSN (As := [.int p1]) (rest := []) ⟨hx, hb, hml, hown, hts⟩ (m_X8_isRace l dC dI _  p1 z7 ez7) kw527 (hX.1.2.2.2.2.2.2.1) kw526 kw110 hd_X8_isRace ⟨rfl, rfl⟩ rfl rfl ⟨rfl, rfl⟩ hX hK hw [] (by decide) rfl rfl hl.1 rfl rfl dX1_moved_8) hw hA [] (by decide) rfl rfl (fun H locs hw => ?_)
    refine lv_if_ne (tgt := 18) hx hb dX1_moved_11 (by decide) (fun c => ?_) (fun c => ?_)
    · have h := z_f h c
      refine lv_aload_n hx hb dX1_moved_18 rfl (lv_at hl 1 rfl) ?_
      refine lv_aload_n hx hb dX1_moved_19 rfl (lv_at hl 1 rfl) ?_
      refine fgX1_0 hx hb hts hown hK hw 0 rfl kw363 dX1_moved_20 ?_
      obtain ⟨z8, ez8, h⟩ := z_bd h
      refine xj_q (xrV (As := []) (rest := [.ref h_me]) ⟨hx, hb, hml, hown, hts⟩ (m_X2_lawInForce l dC dI _ h_me_isles h_me_isles_now q_me_isles k_me_isles o_me_isles z8 ez8) kw531 kw853 kw529 kw530 kw115 hd_X2_lawInForce ⟨rfl, rfl⟩ rfl rfl ⟨rfl, rfl⟩ hX hK hw [1] (by decide) rfl rfl rfl rfl rfl hl.1 rfl rfl dX1_moved_23) hw hA [1] (by decide) rfl rfl (fun H locs hw => ?_)
      have hw : Wd dC dI A s.heap [wX1 h_me h_me_isles h_me_machine q_me k_me o_me, wX2 h_me_isles h_me_isles_now q_me_isles k_me_isles o_me_isles, wX4 h_me_isles_now q_me_isles_now k_me_isles_now o_me_isles_now, wX3 h_me_machine q_me_machine k_me_machine o_me_machine, wPL o_pool] H locs := hw
      refine lv_iload_n hx hb dX1_moved_26 rfl (lv_at hl 3 rfl) ?_
      obtain ⟨z9, ez9, h⟩ := z_bd h
      refine xj_i (xrV (As := [va_rf z8, .int p1]) (rest := []) ⟨hx, hb, hml, hown, hts⟩ (m_X1_lineUp_Q l dC dI _ h_me h_me_isles h_me_machine h_me_isles_now q_me k_me q_me_isles k_me_isles q_me_isles_now k_me_isles_now q_me_machine k_me_machine o_me o_me_isles o_me_isles_now o_me_machine o_pool z8 p1 z9 ez9) kw605 kw854 kw603 kw604 kw117 hd_X1_lineUp ⟨rfl, rfl⟩ rfl rfl ⟨rfl, rfl⟩ hX hK hw [0, 1, 2, 3, 4] (by decide) rfl rfl rfl rfl rfl hl.1 rfl rfl dX1_moved_27) hw hA [0, 1, 2, 3, 4] (by decide) rfl rfl (fun H locs hw => ?_)
      have hw : Wd dC dI A s.heap [wX1 h_me h_me_isles h_me_machine q_me k_me z9.2.1, wX2 h_me_isles h_me_isles_now q_me_isles k_me_isles o_me_isles, wX4 h_me_isles_now q_me_isles_now k_me_isles_now o_me_isles_now, wX3 h_me_machine q_me_machine k_me_machine z9.2.2, wPL o_pool] H locs := hw
      refine lv_if_ne (tgt := 38) hx hb dX1_moved_30 (by decide) (fun c => ?_) (fun c => ?_)
      · have h := z_f h c
        refine lv_iconst (v := 0) hx hb dX1_moved_38 (by decide) ?_
        exact bk_39_5  p0 p1 (0 : Int32) z9.2.1 o_me_isles_now z9.2.2 _ _ _ h hw (lv_sub hl [1, 2, 3, 4] rfl)
      · have h := z_t h c
        refine lv_bipush (v := (-3)) hx hb dX1_moved_33 (by decide) ?_
        refine lv_goto (tgt := 39) hx hb dX1_moved_35 (by decide) ?_
        exact bk_39_5  p0 p1 (-3 : Int32) z9.2.1 o_me_isles_now z9.2.2 _ _ _ h hw (lv_sub hl [1, 2, 3, 4] rfl)
    · have h := z_t h c
      refine lv_iconst (v := (-1)) hx hb dX1_moved_14 (by decide) ?_
      refine lv_goto (tgt := 39) hx hb dX1_moved_15 (by decide) ?_
      exact bk_39_5  p0 p1 (-1 : Int32) o_me o_me_isles_now o_me_machine _ _ _ h hw (lv_sub hl [1, 2, 3, 4] rfl)

def bk_X8_centuries_22 (o_me_isles : Ob) (o_me_isles_now : Ob) (o_pool : List CR)  (o_me : Ob) (o_me_machine : Ob) (o_me_paper : Ob) (o_me_paper_now : Ob) (o_me_paperCourt : Ob) : Option (Int32 × Ob × Ob × Ob × Ob × Ob) :=
  (f_X8_refuse o_me (-1 : Int32)).bind fun z1 =>
  some (z1.1, z1.2, o_me_machine, o_me_paper, o_me_paper_now, o_me_paperCourt)
def bk_X8_centuries_194 (o_me_isles : Ob) (o_me_isles_now : Ob) (o_pool : List CR)  (v4 : Int32) (o_me : Ob) (o_me_machine : Ob) (o_me_paper : Ob) (o_me_paper_now : Ob) (o_me_paperCourt : Ob) : Option (Int32 × Ob × Ob × Ob × Ob × Ob) :=
  (f_X8_grant o_me v4).bind fun z3 =>
  some (z3.1, z3.2, o_me_machine, o_me_paper, o_me_paper_now, o_me_paperCourt)
def bk_X8_centuries_177 (o_me_isles : Ob) (o_me_isles_now : Ob) (o_pool : List CR) (rec_64_1 : Int32 × Int32 × Int32 × Int32 × Ob × Ob × Ob × Ob × Ob → Option (Int32 × Ob × Ob × Ob × Ob × Ob)) (v2 : Int32) (v3 : Int32) (v4 : Int32) (v5 : Int32) (o_me : Ob) (o_me_machine : Ob) (o_me_paper : Ob) (o_me_paper_now : Ob) (o_me_paperCourt : Ob) : Option (Int32 × Ob × Ob × Ob × Ob × Ob) :=
  (f_X1_moved_N o_me_paperCourt o_me_paper o_me_paper_now o_me_machine o_pool (3 : Int32) (0 : Int32)).bind fun z9 =>
  zlt (v5 + (1 : Int32)) fun x10 =>
  rec_64_1 (v2, v3, v4, x10, o_me, z9.2.2.2, o_me_paper, z9.2.2.1, z9.2.1)
def bk_X8_centuries_158 (o_me_isles : Ob) (o_me_isles_now : Ob) (o_pool : List CR) (rec_64_1 : Int32 × Int32 × Int32 × Int32 × Ob × Ob × Ob × Ob × Ob → Option (Int32 × Ob × Ob × Ob × Ob × Ob)) (v2 : Int32) (v3 : Int32) (v4 : Int32) (v5 : Int32) (v8 : Int32) (s0 : Int32) (s1 : Int32) (o_me : Ob) (o_me_machine : Ob) (o_me_paper : Ob) (o_me_paper_now : Ob) (o_me_paperCourt : Ob) : Option (Int32 × Ob × Ob × Ob × Ob × Ob) :=
  (f_X1_moved_N o_me_paperCourt o_me_paper o_me_paper_now o_me_machine o_pool s1 s0).bind fun z8 =>
  if v8 = (0 : Int32) then
  (if z8.1 < (0 : Int32) then
  (bk_X8_centuries_177 o_me_isles o_me_isles_now o_pool rec_64_1 v2 v3 v4 v5 o_me z8.2.2.2 o_me_paper z8.2.2.1 z8.2.1)
  else
  (zlt (v4 + (1 : Int32)) fun x11 =>
  bk_X8_centuries_177 o_me_isles o_me_isles_now o_pool rec_64_1 v2 v3 x11 v5 o_me z8.2.2.2 o_me_paper z8.2.2.1 z8.2.1))
  else
  (bk_X8_centuries_177 o_me_isles o_me_isles_now o_pool rec_64_1 v2 v3 v4 v5 o_me z8.2.2.2 o_me_paper z8.2.2.1 z8.2.1)
def bk_X8_centuries_128 (o_me_isles : Ob) (o_me_isles_now : Ob) (o_pool : List CR) (rec_64_1 : Int32 × Int32 × Int32 × Int32 × Ob × Ob × Ob × Ob × Ob → Option (Int32 × Ob × Ob × Ob × Ob × Ob)) (v2 : Int32) (v3 : Int32) (v4 : Int32) (v5 : Int32) (v6 : Int32) (v7 : Int32) (s0 : Int32) (o_me : Ob) (o_me_machine : Ob) (o_me_paper : Ob) (o_me_paper_now : Ob) (o_me_paperCourt : Ob) : Option (Int32 × Ob × Ob × Ob × Ob × Ob) :=
  if s0 = (0 : Int32) then
  (bk_X8_centuries_158 o_me_isles o_me_isles_now o_pool rec_64_1 v2 v3 v4 v5 s0 (v7 - v7 / (4 : Int32) * (4 : Int32)) s0 o_me o_me_machine o_me_paper o_me_paper_now o_me_paperCourt)
  else
  (zgd (decide (¬ (gI o_me_isles 7) = 0)) <|
  bk_X8_centuries_158 o_me_isles o_me_isles_now o_pool rec_64_1 v2 v3 v4 v5 s0 (v6 - v6 / (gI o_me_isles 7) * (gI o_me_isles 7)) s0 o_me o_me_machine o_me_paper o_me_paper_now o_me_paperCourt)
def lb_X8_centuries_64 (o_me_isles : Ob) (o_me_isles_now : Ob) (o_pool : List CR)  (rec_64_1 : Int32 × Int32 × Int32 × Int32 × Ob × Ob × Ob × Ob × Ob → Option (Int32 × Ob × Ob × Ob × Ob × Ob)) (v2 : Int32) (v3 : Int32) (v4 : Int32) (v5 : Int32) (o_me : Ob) (o_me_machine : Ob) (o_me_paper : Ob) (o_me_paper_now : Ob) (o_me_paperCourt : Ob) : Option (Int32 × Ob × Ob × Ob × Ob × Ob) :=
  if v2 ≤ v5 then
  (bk_X8_centuries_194 o_me_isles o_me_isles_now o_pool  v4 o_me o_me_machine o_me_paper o_me_paper_now o_me_paperCourt)
  else
  (if (999 : Int32) ≤ (gI o_me_paper_now 4) then
  (bk_X8_centuries_194 o_me_isles o_me_isles_now o_pool  v4 o_me o_me_machine o_me_paper o_me_paper_now o_me_paperCourt)
  else
  ((f_X8_nextDraw v3).bind fun z4 =>
  (f_X8_nextDraw z4).bind fun z5 =>
  (f_X8_nextDraw z5).bind fun z6 =>
  if (2 : Int32) ≤ (z6 - z6 / (4 : Int32) * (4 : Int32)) then
  (if (z6 - z6 / (4 : Int32) * (4 : Int32)) = (2 : Int32) then
  (bk_X8_centuries_128 o_me_isles o_me_isles_now o_pool rec_64_1 v2 z6 v4 v5 z4 z5 (0 : Int32) o_me o_me_machine o_me_paper o_me_paper_now o_me_paperCourt)
  else
  (bk_X8_centuries_128 o_me_isles o_me_isles_now o_pool rec_64_1 v2 z6 v4 v5 z4 z5 (2 : Int32) o_me o_me_machine o_me_paper o_me_paper_now o_me_paperCourt))
  else
  (bk_X8_centuries_128 o_me_isles o_me_isles_now o_pool rec_64_1 v2 z6 v4 v5 z4 z5 (1 : Int32) o_me o_me_machine o_me_paper o_me_paper_now o_me_paperCourt)))
def lp_X8_centuries_64 (o_me_isles : Ob) (o_me_isles_now : Ob) (o_pool : List CR)  : Nat → (Int32 × Int32 × Int32 × Int32 × Ob × Ob × Ob × Ob × Ob) → Option (Int32 × Ob × Ob × Ob × Ob × Ob) := zit (fun rec a => lb_X8_centuries_64 o_me_isles o_me_isles_now o_pool  rec a.1 a.2.1 a.2.2.1 a.2.2.2.1 a.2.2.2.2.1 a.2.2.2.2.2.1 a.2.2.2.2.2.2.1 a.2.2.2.2.2.2.2.1 a.2.2.2.2.2.2.2.2)
def f_X8_centuries (o_me : Ob) (o_me_machine : Ob) (o_me_isles : Ob) (o_me_isles_now : Ob) (o_me_paper : Ob) (o_me_paper_now : Ob) (o_me_paperCourt : Ob) (o_pool : List CR) (p0 : Int32) (p1 : Int32) : Option (Int32 × Ob × Ob × Ob × Ob × Ob) :=
  if p0 < (0 : Int32) then
  (bk_X8_centuries_22 o_me_isles o_me_isles_now o_pool  o_me o_me_machine o_me_paper o_me_paper_now o_me_paperCourt)
  else
  (if (1000000 : Int32) < p0 then
  (bk_X8_centuries_22 o_me_isles o_me_isles_now o_pool  o_me o_me_machine o_me_paper o_me_paper_now o_me_paperCourt)
  else
  (if p1 < (1 : Int32) then
  (bk_X8_centuries_22 o_me_isles o_me_isles_now o_pool  o_me o_me_machine o_me_paper o_me_paper_now o_me_paperCourt)
  else
  (if p1 ≤ (60 : Int32) then
  (if (gI o_me_isles 7) = (0 : Int32) then
  ((f_X8_refuse o_me (-3 : Int32)).bind fun z12 =>
  some (z12.1, z12.2, o_me_machine, o_me_paper, o_me_paper_now, o_me_paperCourt))
  else
  ((f_X2_set_O o_me_paper o_me_paper_now o_pool o_me_isles o_me_isles_now).bind fun z2 =>
  lp_X8_centuries_64 o_me_isles o_me_isles_now o_pool  zfu (p1, p0, (0 : Int32), (0 : Int32), o_me, o_me_machine, z2.1, z2.2, o_me_paperCourt)))
  else
  (bk_X8_centuries_22 o_me_isles o_me_isles_now o_pool  o_me o_me_machine o_me_paper o_me_paper_now o_me_paperCourt))))
set_option maxHeartbeats 4000000 in
set_option maxRecDepth 100000 in
theorem m_X8_centuries (l : Launch) (dC : Nat → ClassId) (dI : Nat → Nat → Nat) (sz : Nat) (h_me : Nat) (h_me_reader : Nat) (h_me_machine : Nat) (h_me_isles : Nat) (h_me_court : Nat) (h_me_study : Nat) (h_me_paper : Nat) (h_me_paperCourt : Nat) (h_me_past : Nat) (h_me_pastAhead : Nat) (h_me_movingAhead : Nat) (h_me_isles_now : Nat) (h_me_paper_now : Nat) (q_me : Nat → Nat) (k_me : Nat → ClassId) (q_me_machine : Nat → Nat) (k_me_machine : Nat → ClassId) (q_me_isles : Nat → Nat) (k_me_isles : Nat → ClassId) (q_me_isles_now : Nat → Nat) (k_me_isles_now : Nat → ClassId) (q_me_paper : Nat → Nat) (k_me_paper : Nat → ClassId) (q_me_paper_now : Nat → Nat) (k_me_paper_now : Nat → ClassId) (q_me_paperCourt : Nat → Nat) (k_me_paperCourt : Nat → ClassId) (o_me : Ob) (o_me_machine : Ob) (o_me_isles : Ob) (o_me_isles_now : Ob) (o_me_paper : Ob) (o_me_paper_now : Ob) (o_me_paperCourt : Ob) (o_pool : List CR) (p0 : Int32) (p1 : Int32) (y : Int32 × Ob × Ob × Ob × Ob × Ob) (h : f_X8_centuries o_me o_me_machine o_me_isles o_me_isles_now o_me_paper o_me_paper_now o_me_paperCourt o_pool p0 p1 = some y) : CI l yX8_centuries cX8_centuries 10 (some .int) ({ frames := 6, cells := 0, slots := 0, locals := 163 } : Room) dC dI sz [.ref h_me, .int p0, .int p1] [wX8 h_me h_me_reader h_me_machine h_me_isles h_me_court h_me_study h_me_paper h_me_paperCourt h_me_past h_me_pastAhead h_me_movingAhead q_me k_me o_me, wX3 h_me_machine q_me_machine k_me_machine o_me_machine, wX2 h_me_isles h_me_isles_now q_me_isles k_me_isles o_me_isles, wX4 h_me_isles_now q_me_isles_now k_me_isles_now o_me_isles_now, wX2 h_me_paper h_me_paper_now q_me_paper k_me_paper o_me_paper, wX4 h_me_paper_now q_me_paper_now k_me_paper_now o_me_paper_now, wX1 h_me_paperCourt h_me_paper h_me_machine q_me_paperCourt k_me_paperCourt o_me_paperCourt, wPL o_pool] [tX8 k_me, tX3 k_me_machine, tX2 k_me_isles, tX4 k_me_isles_now, tX2 k_me_paper, tX4 k_me_paper_now, tX1 k_me_paperCourt, tPL o_pool] y.1 [wX8 h_me h_me_reader h_me_machine h_me_isles h_me_court h_me_study h_me_paper h_me_paperCourt h_me_past h_me_pastAhead h_me_movingAhead q_me k_me y.2.1, wX3 h_me_machine q_me_machine k_me_machine y.2.2.1, wX2 h_me_isles h_me_isles_now q_me_isles k_me_isles o_me_isles, wX4 h_me_isles_now q_me_isles_now k_me_isles_now o_me_isles_now, wX2 h_me_paper h_me_paper_now q_me_paper k_me_paper y.2.2.2.1, wX4 h_me_paper_now q_me_paper_now k_me_paper_now y.2.2.2.2.1, wX1 h_me_paperCourt h_me_paper h_me_machine q_me_paperCourt k_me_paperCourt y.2.2.2.2.2, wPL o_pool] := by
  refine CC_of (by decide) (Nat.le_of_ble_eq_true rfl) ?_
  intro p e s m below meth c A ls hx hb hml hr hlk hnm hown hts hX hK hP hD hA hl
  have hl : lv_has ls 10 [(0, .ref h_me), (1, .int p0), (2, .int p1)] := hl
  have hown : s.vm.findClass RX8 = some m.cls := hown
  have hw : Wd dC dI A s.heap [wX8 h_me h_me_reader h_me_machine h_me_isles h_me_court h_me_study h_me_paper h_me_paperCourt h_me_past h_me_pastAhead h_me_movingAhead q_me k_me o_me, wX3 h_me_machine q_me_machine k_me_machine o_me_machine, wX2 h_me_isles h_me_isles_now q_me_isles k_me_isles o_me_isles, wX4 h_me_isles_now q_me_isles_now k_me_isles_now o_me_isles_now, wX2 h_me_paper h_me_paper_now q_me_paper k_me_paper o_me_paper, wX4 h_me_paper_now q_me_paper_now k_me_paper_now o_me_paper_now, wX1 h_me_paperCourt h_me_paper h_me_machine q_me_paperCourt k_me_paperCourt o_me_paperCourt, wPL o_pool] s.heap [] := ⟨hP, hD, va_S.rf⟩
  generalize hQz : (MQ below (QI dC dI (fun r (_ : Unit) => r = y.1) (fun _ => Jn [wX8 h_me h_me_reader h_me_machine h_me_isles h_me_court h_me_study h_me_paper h_me_paperCourt h_me_past h_me_pastAhead h_me_movingAhead q_me k_me y.2.1, wX3 h_me_machine q_me_machine k_me_machine y.2.2.1, wX2 h_me_isles h_me_isles_now q_me_isles k_me_isles o_me_isles, wX4 h_me_isles_now q_me_isles_now k_me_isles_now o_me_isles_now, wX2 h_me_paper h_me_paper_now q_me_paper k_me_paper y.2.2.2.1, wX4 h_me_paper_now q_me_paper_now k_me_paper_now y.2.2.2.2.1, wX1 h_me_paperCourt h_me_paper h_me_machine q_me_paperCourt k_me_paperCourt y.2.2.2.2.2, wPL o_pool]) (fun _ => Jt [tX8 k_me, tX3 k_me_machine, tX2 k_me_isles, tX4 k_me_isles_now, tX2 k_me_paper, tX4 k_me_paper_now, tX1 k_me_paperCourt, tPL o_pool]) A) ([.ref h_me, .int p0, .int p1] : List Value).toArray s 0 0 A) = Qz
  clear hP hD hnm
  have bk_22_0 : ∀ (o_me : Ob) (o_me_machine : Ob) (o_me_paper : Ob) (o_me_paper_now : Ob) (o_me_paperCourt : Ob) (H : Heap) (locs : List Loc) (ls : Array Slot), bk_X8_centuries_22 o_me_isles o_me_isles_now o_pool  o_me o_me_machine o_me_paper o_me_paper_now o_me_paperCourt = some y → Wd dC dI A s.heap [wX8 h_me h_me_reader h_me_machine h_me_isles h_me_court h_me_study h_me_paper h_me_paperCourt h_me_past h_me_pastAhead h_me_movingAhead q_me k_me o_me, wX3 h_me_machine q_me_machine k_me_machine o_me_machine, wX2 h_me_isles h_me_isles_now q_me_isles k_me_isles o_me_isles, wX4 h_me_isles_now q_me_isles_now k_me_isles_now o_me_isles_now, wX2 h_me_paper h_me_paper_now q_me_paper k_me_paper o_me_paper, wX4 h_me_paper_now q_me_paper_now k_me_paper_now o_me_paper_now, wX1 h_me_paperCourt h_me_paper h_me_machine q_me_paperCourt k_me_paperCourt o_me_paperCourt, wPL o_pool] H locs → lv_has ls 10 [(0, .ref h_me)] → W p l e ({ frames := 6, cells := 0, slots := 0, locals := 163 } : Room) s m ([.ref h_me, .int p0, .int p1] : List Value).toArray below meth c H locs 0 0 Qz (F0 m 22 ls []) := by
    intro o_me o_me_machine o_me_paper o_me_paper_now o_me_paperCourt H locs ls h hw hl
    unfold bk_X8_centuries_22 at h
    refine lv_aload_n hx hb dX8_centuries_22 rfl (lv_at hl 0 rfl) ?_
    refine lv_iconst (v := (-1)) hx hb dX8_centuries_23 (by decide) ?_
    obtain ⟨z1, ez1, h⟩ := z_bd h
    refine xj_i (xrV (As := [.int (-1 : Int32)]) (rest := []) ⟨hx, hb, hml, hown, hts⟩ (m_X8_refuse l dC dI _ h_me h_me_reader h_me_machine h_me_isles h_me_court h_me_study h_me_paper h_me_paperCourt h_me_past h_me_pastAhead h_me_movingAhead q_me k_me o_me (-1 : Int32) z1 ez1) kw508 kw505 kw507 kw0 kw110 hd_X8_refuse ⟨rfl, rfl⟩ rfl rfl ⟨rfl, rfl⟩ hX hK hw [0] (by decide) rfl rfl rfl rfl rfl hl.1 rfl rfl dX8_centuries_24) hw hA [0] (by decide) rfl rfl (fun H locs hw => ?_)
    have hw : Wd dC dI A s.heap [wX8 h_me h_me_reader h_me_machine h_me_isles h_me_court h_me_study h_me_paper h_me_paperCourt h_me_past h_me_pastAhead h_me_movingAhead q_me k_me z1.2, wX3 h_me_machine q_me_machine k_me_machine o_me_machine, wX2 h_me_isles h_me_isles_now q_me_isles k_me_isles o_me_isles, wX4 h_me_isles_now q_me_isles_now k_me_isles_now o_me_isles_now, wX2 h_me_paper h_me_paper_now q_me_paper k_me_paper o_me_paper, wX4 h_me_paper_now q_me_paper_now k_me_paper_now o_me_paper_now, wX1 h_me_paperCourt h_me_paper h_me_machine q_me_paperCourt k_me_paperCourt o_me_paperCourt, wPL o_pool] H locs := hw
    have hy := Option.some.inj h
    rw [← hQz, ← hy]
    exact xr_i (v := z1.1) hx hb hr rfl hlk hK hw dX8_centuries_27
  have bk_194_2 : ∀ (v4 : Int32) (o_me : Ob) (o_me_machine : Ob) (o_me_paper : Ob) (o_me_paper_now : Ob) (o_me_paperCourt : Ob) (H : Heap) (locs : List Loc) (ls : Array Slot), bk_X8_centuries_194 o_me_isles o_me_isles_now o_pool  v4 o_me o_me_machine o_me_paper o_me_paper_now o_me_paperCourt = some y → Wd dC dI A s.heap [wX8 h_me h_me_reader h_me_machine h_me_isles h_me_court h_me_study h_me_paper h_me_paperCourt h_me_past h_me_pastAhead h_me_movingAhead q_me k_me o_me, wX3 h_me_machine q_me_machine k_me_machine o_me_machine, wX2 h_me_isles h_me_isles_now q_me_isles k_me_isles o_me_isles, wX4 h_me_isles_now q_me_isles_now k_me_isles_now o_me_isles_now, wX2 h_me_paper h_me_paper_now q_me_paper k_me_paper o_me_paper, wX4 h_me_paper_now q_me_paper_now k_me_paper_now o_me_paper_now, wX1 h_me_paperCourt h_me_paper h_me_machine q_me_paperCourt k_me_paperCourt o_me_paperCourt, wPL o_pool] H locs → lv_has ls 10 [(0, .ref h_me), (4, .int v4)] → W p l e ({ frames := 6, cells := 0, slots := 0, locals := 163 } : Room) s m ([.ref h_me, .int p0, .int p1] : List Value).toArray below meth c H locs 0 0 Qz (F0 m 194 ls []) := by
    intro v4 o_me o_me_machine o_me_paper o_me_paper_now o_me_paperCourt H locs ls h hw hl
    unfold bk_X8_centuries_194 at h
    refine lv_aload_n hx hb dX8_centuries_194 rfl (lv_at hl 0 rfl) ?_
    refine lv_iload hx hb dX8_centuries_195 (lv_at hl 1 rfl) ?_
    obtain ⟨z3, ez3, h⟩ := z_bd h
    refine xj_i (xrV (As := [.int v4]) (rest := []) ⟨hx, hb, hml, hown, hts⟩ (m_X8_grant l dC dI _ h_me h_me_reader h_me_machine h_me_isles h_me_court h_me_study h_me_paper h_me_paperCourt h_me_past h_me_pastAhead h_me_movingAhead q_me k_me o_me v4 z3 ez3) kw520 kw517 kw519 kw1 kw110 hd_X8_grant ⟨rfl, rfl⟩ rfl rfl ⟨rfl, rfl⟩ hX hK hw [0] (by decide) rfl rfl rfl rfl rfl hl.1 rfl rfl dX8_centuries_197) hw hA [0] (by decide) rfl rfl (fun H locs hw => ?_)
    have hw : Wd dC dI A s.heap [wX8 h_me h_me_reader h_me_machine h_me_isles h_me_court h_me_study h_me_paper h_me_paperCourt h_me_past h_me_pastAhead h_me_movingAhead q_me k_me z3.2, wX3 h_me_machine q_me_machine k_me_machine o_me_machine, wX2 h_me_isles h_me_isles_now q_me_isles k_me_isles o_me_isles, wX4 h_me_isles_now q_me_isles_now k_me_isles_now o_me_isles_now, wX2 h_me_paper h_me_paper_now q_me_paper k_me_paper o_me_paper, wX4 h_me_paper_now q_me_paper_now k_me_paper_now o_me_paper_now, wX1 h_me_paperCourt h_me_paper h_me_machine q_me_paperCourt k_me_paperCourt o_me_paperCourt, wPL o_pool] H locs := hw
    have hy := Option.some.inj h
    rw [← hQz, ← hy]
    exact xr_i (v := z3.1) hx hb hr rfl hlk hK hw dX8_centuries_200
  have bk_177_5 : ∀ (rec_64_1 : Int32 × Int32 × Int32 × Int32 × Ob × Ob × Ob × Ob × Ob → Option (Int32 × Ob × Ob × Ob × Ob × Ob)) (hrec_64_1 : ∀ (v2 : Int32) (v3 : Int32) (v4 : Int32) (v5 : Int32) (o_me : Ob) (o_me_machine : Ob) (o_me_paper : Ob) (o_me_paper_now : Ob) (o_me_paperCourt : Ob) (H : Heap) (locs : List Loc) (ls : Array Slot), rec_64_1 (v2, v3, v4, v5, o_me, o_me_machine, o_me_paper, o_me_paper_now, o_me_paperCourt) = some y → Wd dC dI A s.heap [wX8 h_me h_me_reader h_me_machine h_me_isles h_me_court h_me_study h_me_paper h_me_paperCourt h_me_past h_me_pastAhead h_me_movingAhead q_me k_me o_me, wX3 h_me_machine q_me_machine k_me_machine o_me_machine, wX2 h_me_isles h_me_isles_now q_me_isles k_me_isles o_me_isles, wX4 h_me_isles_now q_me_isles_now k_me_isles_now o_me_isles_now, wX2 h_me_paper h_me_paper_now q_me_paper k_me_paper o_me_paper, wX4 h_me_paper_now q_me_paper_now k_me_paper_now o_me_paper_now, wX1 h_me_paperCourt h_me_paper h_me_machine q_me_paperCourt k_me_paperCourt o_me_paperCourt, wPL o_pool] H locs → lv_has ls 10 [(0, .ref h_me), (2, .int v2), (3, .int v3), (4, .int v4), (5, .int v5)] → W p l e ({ frames := 6, cells := 0, slots := 0, locals := 163 } : Room) s m ([.ref h_me, .int p0, .int p1] : List Value).toArray below meth c H locs 0 0 Qz (F0 m 64 ls [])), ∀ (v2 : Int32) (v3 : Int32) (v4 : Int32) (v5 : Int32) (o_me : Ob) (o_me_machine : Ob) (o_me_paper : Ob) (o_me_paper_now : Ob) (o_me_paperCourt : Ob) (H : Heap) (locs : List Loc) (ls : Array Slot), bk_X8_centuries_177 o_me_isles o_me_isles_now o_pool rec_64_1 v2 v3 v4 v5 o_me o_me_machine o_me_paper o_me_paper_now o_me_paperCourt = some y → Wd dC dI A s.heap [wX8 h_me h_me_reader h_me_machine h_me_isles h_me_court h_me_study h_me_paper h_me_paperCourt h_me_past h_me_pastAhead h_me_movingAhead q_me k_me o_me, wX3 h_me_machine q_me_machine k_me_machine o_me_machine, wX2 h_me_isles h_me_isles_now q_me_isles k_me_isles o_me_isles, wX4 h_me_isles_now q_me_isles_now k_me_isles_now o_me_isles_now, wX2 h_me_paper h_me_paper_now q_me_paper k_me_paper o_me_paper, wX4 h_me_paper_now q_me_paper_now k_me_paper_now o_me_paper_now, wX1 h_me_paperCourt h_me_paper h_me_machine q_me_paperCourt k_me_paperCourt o_me_paperCourt, wPL o_pool] H locs → lv_has ls 10 [(0, .ref h_me), (2, .int v2), (3, .int v3), (4, .int v4), (5, .int v5)] → W p l e ({ frames := 6, cells := 0, slots := 0, locals := 163 } : Room) s m ([.ref h_me, .int p0, .int p1] : List Value).toArray below meth c H locs 0 0 Qz (F0 m 177 ls []) := by
    intro rec_64_1 hrec_64_1
    intro v2 v3 v4 v5 o_me o_me_machine o_me_paper o_me_paper_now o_me_paperCourt H locs ls h hw hl
    unfold bk_X8_centuries_177 at h
    refine lv_aload_n hx hb dX8_centuries_177 rfl (lv_at hl 0 rfl) ?_
    refine fgX8_6 hx hb hts hown hK hw 0 rfl kw448 dX8_centuries_178 ?_
    refine lv_iconst (v := 3) hx hb dX8_centuries_181 (by decide) ?_
    refine lv_iconst (v := 0) hx hb dX8_centuries_182 (by decide) ?_
    refine lv_null hx hb dX8_centuries_183 ?_
    obtain ⟨z9, ez9, h⟩ := z_bd h
    refine xj_i (xrV (As := [.int (3 : Int32), .int (0 : Int32), .null]) (rest := []) ⟨hx, hb, hml, hown, hts⟩ (m_X1_moved_N l dC dI _ h_me_paperCourt h_me_paper h_me_machine h_me_paper_now q_me_paperCourt k_me_paperCourt q_me_paper k_me_paper q_me_paper_now k_me_paper_now q_me_machine k_me_machine o_me_paperCourt o_me_paper o_me_paper_now o_me_machine o_pool (3 : Int32) (0 : Int32) z9 ez9) kw852 kw849 kw850 kw851 kw117 hd_X1_moved ⟨rfl, rfl⟩ rfl rfl ⟨rfl, rfl⟩ hX hK hw [6, 4, 5, 1, 7] (by decide) rfl rfl rfl rfl rfl hl.1 rfl rfl dX8_centuries_184) hw hA [6, 4, 5, 1, 7] (by decide) rfl rfl (fun H locs hw => ?_)
    have hw : Wd dC dI A s.heap [wX8 h_me h_me_reader h_me_machine h_me_isles h_me_court h_me_study h_me_paper h_me_paperCourt h_me_past h_me_pastAhead h_me_movingAhead q_me k_me o_me, wX3 h_me_machine q_me_machine k_me_machine z9.2.2.2, wX2 h_me_isles h_me_isles_now q_me_isles k_me_isles o_me_isles, wX4 h_me_isles_now q_me_isles_now k_me_isles_now o_me_isles_now, wX2 h_me_paper h_me_paper_now q_me_paper k_me_paper o_me_paper, wX4 h_me_paper_now q_me_paper_now k_me_paper_now z9.2.2.1, wX1 h_me_paperCourt h_me_paper h_me_machine q_me_paperCourt k_me_paperCourt z9.2.1, wPL o_pool] H locs := hw
    refine lv_pop hx hb dX8_centuries_187 rfl ?_
    obtain ⟨x10, ex10, h⟩ := z_lt h
    refine lv_iinc (v := x10) (lv' := [(5, .int x10), (0, .ref h_me), (2, .int v2), (3, .int v3), (4, .int v4)]) hx hb dX8_centuries_188 hl (k := 4) rfl ((congrArg (v5 + ·) (show Int32.ofInt 1 = (1 : Int32) from by decide)).trans ex10.symm) (by decide) rfl (fun ls hl => ?_)
    refine lv_goto (tgt := 64) hx hb dX8_centuries_191 (by decide) ?_
    exact hrec_64_1 v2 v3 v4 x10 o_me z9.2.2.2 o_me_paper z9.2.2.1 z9.2.1 _ _ _ h hw (lv_sub hl [1, 2, 3, 4, 0] rfl)
  have bk_158_4 : ∀ (rec_64_1 : Int32 × Int32 × Int32 × Int32 × Ob × Ob × Ob × Ob × Ob → Option (Int32 × Ob × Ob × Ob × Ob × Ob)) (hrec_64_1 : ∀ (v2 : Int32) (v3 : Int32) (v4 : Int32) (v5 : Int32) (o_me : Ob) (o_me_machine : Ob) (o_me_paper : Ob) (o_me_paper_now : Ob) (o_me_paperCourt : Ob) (H : Heap) (locs : List Loc) (ls : Array Slot), rec_64_1 (v2, v3, v4, v5, o_me, o_me_machine, o_me_paper, o_me_paper_now, o_me_paperCourt) = some y → Wd dC dI A s.heap [wX8 h_me h_me_reader h_me_machine h_me_isles h_me_court h_me_study h_me_paper h_me_paperCourt h_me_past h_me_pastAhead h_me_movingAhead q_me k_me o_me, wX3 h_me_machine q_me_machine k_me_machine o_me_machine, wX2 h_me_isles h_me_isles_now q_me_isles k_me_isles o_me_isles, wX4 h_me_isles_now q_me_isles_now k_me_isles_now o_me_isles_now, wX2 h_me_paper h_me_paper_now q_me_paper k_me_paper o_me_paper, wX4 h_me_paper_now q_me_paper_now k_me_paper_now o_me_paper_now, wX1 h_me_paperCourt h_me_paper h_me_machine q_me_paperCourt k_me_paperCourt o_me_paperCourt, wPL o_pool] H locs → lv_has ls 10 [(0, .ref h_me), (2, .int v2), (3, .int v3), (4, .int v4), (5, .int v5)] → W p l e ({ frames := 6, cells := 0, slots := 0, locals := 163 } : Room) s m ([.ref h_me, .int p0, .int p1] : List Value).toArray below meth c H locs 0 0 Qz (F0 m 64 ls [])), ∀ (v2 : Int32) (v3 : Int32) (v4 : Int32) (v5 : Int32) (v8 : Int32) (s0 : Int32) (s1 : Int32) (o_me : Ob) (o_me_machine : Ob) (o_me_paper : Ob) (o_me_paper_now : Ob) (o_me_paperCourt : Ob) (H : Heap) (locs : List Loc) (ls : Array Slot), bk_X8_centuries_158 o_me_isles o_me_isles_now o_pool rec_64_1 v2 v3 v4 v5 v8 s0 s1 o_me o_me_machine o_me_paper o_me_paper_now o_me_paperCourt = some y → Wd dC dI A s.heap [wX8 h_me h_me_reader h_me_machine h_me_isles h_me_court h_me_study h_me_paper h_me_paperCourt h_me_past h_me_pastAhead h_me_movingAhead q_me k_me o_me, wX3 h_me_machine q_me_machine k_me_machine o_me_machine, wX2 h_me_isles h_me_isles_now q_me_isles k_me_isles o_me_isles, wX4 h_me_isles_now q_me_isles_now k_me_isles_now o_me_isles_now, wX2 h_me_paper h_me_paper_now q_me_paper k_me_paper o_me_paper, wX4 h_me_paper_now q_me_paper_now k_me_paper_now o_me_paper_now, wX1 h_me_paperCourt h_me_paper h_me_machine q_me_paperCourt k_me_paperCourt o_me_paperCourt, wPL o_pool] H locs → lv_has ls 10 [(0, .ref h_me), (2, .int v2), (3, .int v3), (4, .int v4), (5, .int v5), (8, .int v8)] → W p l e ({ frames := 6, cells := 0, slots := 0, locals := 163 } : Room) s m ([.ref h_me, .int p0, .int p1] : List Value).toArray below meth c H locs 0 0 Qz (F0 m 158 ls [.int s0, .int s1, .ref h_me_paperCourt]) := by
    intro rec_64_1 hrec_64_1
    intro v2 v3 v4 v5 v8 s0 s1 o_me o_me_machine o_me_paper o_me_paper_now o_me_paperCourt H locs ls h hw hl
    unfold bk_X8_centuries_158 at h
    refine lv_null hx hb dX8_centuries_158 ?_
    obtain ⟨z8, ez8, h⟩ := z_bd h
    refine xj_i (xrV (As := [.int s1, .int s0, .null]) (rest := []) ⟨hx, hb, hml, hown, hts⟩ (m_X1_moved_N l dC dI _ h_me_paperCourt h_me_paper h_me_machine h_me_paper_now q_me_paperCourt k_me_paperCourt q_me_paper k_me_paper q_me_paper_now k_me_paper_now q_me_machine k_me_machine o_me_paperCourt o_me_paper o_me_paper_now o_me_machine o_pool s1 s0 z8 ez8) kw852 kw849 kw850 kw851 kw117 hd_X1_moved ⟨rfl, rfl⟩ rfl rfl ⟨rfl, rfl⟩ hX hK hw [6, 4, 5, 1, 7] (by decide) rfl rfl rfl rfl rfl hl.1 rfl rfl dX8_centuries_159) hw hA [6, 4, 5, 1, 7] (by decide) rfl rfl (fun H locs hw => ?_)
    have hw : Wd dC dI A s.heap [wX8 h_me h_me_reader h_me_machine h_me_isles h_me_court h_me_study h_me_paper h_me_paperCourt h_me_past h_me_pastAhead h_me_movingAhead q_me k_me o_me, wX3 h_me_machine q_me_machine k_me_machine z8.2.2.2, wX2 h_me_isles h_me_isles_now q_me_isles k_me_isles o_me_isles, wX4 h_me_isles_now q_me_isles_now k_me_isles_now o_me_isles_now, wX2 h_me_paper h_me_paper_now q_me_paper k_me_paper o_me_paper, wX4 h_me_paper_now q_me_paper_now k_me_paper_now z8.2.2.1, wX1 h_me_paperCourt h_me_paper h_me_machine q_me_paperCourt k_me_paperCourt z8.2.1, wPL o_pool] H locs := hw
    refine lv_istore (lv' := [(9, .int z8.1), (0, .ref h_me), (2, .int v2), (3, .int v3), (4, .int v4), (5, .int v5), (8, .int v8)]) hx hb dX8_centuries_162 hl (by decide) rfl (fun ls hl => ?_)
    refine lv_iload hx hb dX8_centuries_164 (lv_at hl 6 rfl) ?_
    refine lv_if_ne (tgt := 177) hx hb dX8_centuries_166 (by decide) (fun c => ?_) (fun c => ?_)
    · have h := z_f h c
      exact bk_177_5 rec_64_1 hrec_64_1 v2 v3 v4 v5 o_me z8.2.2.2 o_me_paper z8.2.2.1 z8.2.1 _ _ _ h hw (lv_sub hl [1, 2, 3, 4, 5] rfl)
    · have h := z_t h c
      refine lv_iload hx hb dX8_centuries_169 (lv_at hl 0 rfl) ?_
      refine lv_if_lt (tgt := 177) hx hb dX8_centuries_171 (by decide) (fun c => ?_) (fun c => ?_)
      · have h := z_t h c
        exact bk_177_5 rec_64_1 hrec_64_1 v2 v3 v4 v5 o_me z8.2.2.2 o_me_paper z8.2.2.1 z8.2.1 _ _ _ h hw (lv_sub hl [1, 2, 3, 4, 5] rfl)
      · have h := z_f h c
        obtain ⟨x11, ex11, h⟩ := z_lt h
        refine lv_iinc (v := x11) (lv' := [(4, .int x11), (9, .int z8.1), (0, .ref h_me), (2, .int v2), (3, .int v3), (5, .int v5), (8, .int v8)]) hx hb dX8_centuries_174 hl (k := 4) rfl ((congrArg (v4 + ·) (show Int32.ofInt 1 = (1 : Int32) from by decide)).trans ex11.symm) (by decide) rfl (fun ls hl => ?_)
        exact bk_177_5 rec_64_1 hrec_64_1 v2 v3 x11 v5 o_me z8.2.2.2 o_me_paper z8.2.2.1 z8.2.1 _ _ _ h hw (lv_sub hl [2, 3, 4, 0, 5] rfl)
  have bk_128_3 : ∀ (rec_64_1 : Int32 × Int32 × Int32 × Int32 × Ob × Ob × Ob × Ob × Ob → Option (Int32 × Ob × Ob × Ob × Ob × Ob)) (hrec_64_1 : ∀ (v2 : Int32) (v3 : Int32) (v4 : Int32) (v5 : Int32) (o_me : Ob) (o_me_machine : Ob) (o_me_paper : Ob) (o_me_paper_now : Ob) (o_me_paperCourt : Ob) (H : Heap) (locs : List Loc) (ls : Array Slot), rec_64_1 (v2, v3, v4, v5, o_me, o_me_machine, o_me_paper, o_me_paper_now, o_me_paperCourt) = some y → Wd dC dI A s.heap [wX8 h_me h_me_reader h_me_machine h_me_isles h_me_court h_me_study h_me_paper h_me_paperCourt h_me_past h_me_pastAhead h_me_movingAhead q_me k_me o_me, wX3 h_me_machine q_me_machine k_me_machine o_me_machine, wX2 h_me_isles h_me_isles_now q_me_isles k_me_isles o_me_isles, wX4 h_me_isles_now q_me_isles_now k_me_isles_now o_me_isles_now, wX2 h_me_paper h_me_paper_now q_me_paper k_me_paper o_me_paper, wX4 h_me_paper_now q_me_paper_now k_me_paper_now o_me_paper_now, wX1 h_me_paperCourt h_me_paper h_me_machine q_me_paperCourt k_me_paperCourt o_me_paperCourt, wPL o_pool] H locs → lv_has ls 10 [(0, .ref h_me), (2, .int v2), (3, .int v3), (4, .int v4), (5, .int v5)] → W p l e ({ frames := 6, cells := 0, slots := 0, locals := 163 } : Room) s m ([.ref h_me, .int p0, .int p1] : List Value).toArray below meth c H locs 0 0 Qz (F0 m 64 ls [])), ∀ (v2 : Int32) (v3 : Int32) (v4 : Int32) (v5 : Int32) (v6 : Int32) (v7 : Int32) (s0 : Int32) (o_me : Ob) (o_me_machine : Ob) (o_me_paper : Ob) (o_me_paper_now : Ob) (o_me_paperCourt : Ob) (H : Heap) (locs : List Loc) (ls : Array Slot), bk_X8_centuries_128 o_me_isles o_me_isles_now o_pool rec_64_1 v2 v3 v4 v5 v6 v7 s0 o_me o_me_machine o_me_paper o_me_paper_now o_me_paperCourt = some y → Wd dC dI A s.heap [wX8 h_me h_me_reader h_me_machine h_me_isles h_me_court h_me_study h_me_paper h_me_paperCourt h_me_past h_me_pastAhead h_me_movingAhead q_me k_me o_me, wX3 h_me_machine q_me_machine k_me_machine o_me_machine, wX2 h_me_isles h_me_isles_now q_me_isles k_me_isles o_me_isles, wX4 h_me_isles_now q_me_isles_now k_me_isles_now o_me_isles_now, wX2 h_me_paper h_me_paper_now q_me_paper k_me_paper o_me_paper, wX4 h_me_paper_now q_me_paper_now k_me_paper_now o_me_paper_now, wX1 h_me_paperCourt h_me_paper h_me_machine q_me_paperCourt k_me_paperCourt o_me_paperCourt, wPL o_pool] H locs → lv_has ls 10 [(0, .ref h_me), (2, .int v2), (3, .int v3), (4, .int v4), (5, .int v5), (6, .int v6), (7, .int v7)] → W p l e ({ frames := 6, cells := 0, slots := 0, locals := 163 } : Room) s m ([.ref h_me, .int p0, .int p1] : List Value).toArray below meth c H locs 0 0 Qz (F0 m 128 ls [.int s0]) := by
    intro rec_64_1 hrec_64_1
    intro v2 v3 v4 v5 v6 v7 s0 o_me o_me_machine o_me_paper o_me_paper_now o_me_paperCourt H locs ls h hw hl
    unfold bk_X8_centuries_128 at h
    refine lv_istore (lv' := [(8, .int s0), (0, .ref h_me), (2, .int v2), (3, .int v3), (4, .int v4), (5, .int v5), (6, .int v6), (7, .int v7)]) hx hb dX8_centuries_128 hl (by decide) rfl (fun ls hl => ?_)
    refine lv_aload_n hx hb dX8_centuries_130 rfl (lv_at hl 1 rfl) ?_
    refine fgX8_6 hx hb hts hown hK hw 0 rfl kw448 dX8_centuries_131 ?_
    refine lv_iload hx hb dX8_centuries_134 (lv_at hl 0 rfl) ?_
    refine lv_iload hx hb dX8_centuries_136 (lv_at hl 0 rfl) ?_
    refine lv_if_ne (tgt := 148) hx hb dX8_centuries_138 (by decide) (fun c => ?_) (fun c => ?_)
    · have h := z_f h c
      refine lv_iload hx hb dX8_centuries_148 (lv_at hl 6 rfl) ?_
      refine lv_aload_n hx hb dX8_centuries_150 rfl (lv_at hl 1 rfl) ?_
      refine fgX8_2 hx hb hts hown hK hw 0 rfl kw444 dX8_centuries_151 ?_
      refine fgX2_7 hx hb hts hown hK hw 2 rfl kw317 dX8_centuries_154 ?_
      obtain ⟨g7, h⟩ := z_gd h
      refine lv_irem hx hb dX8_centuries_157 (of_decide_eq_true g7) ?_
      exact bk_158_4 rec_64_1 hrec_64_1 v2 v3 v4 v5 s0 (v6 - v6 / (gI o_me_isles 7) * (gI o_me_isles 7)) s0 o_me o_me_machine o_me_paper o_me_paper_now o_me_paperCourt _ _ _ h hw (lv_sub hl [1, 2, 3, 4, 5, 0] rfl)
    · have h := z_t h c
      refine lv_iload hx hb dX8_centuries_141 (lv_at hl 7 rfl) ?_
      refine lv_iconst (v := 4) hx hb dX8_centuries_143 (by decide) ?_
      refine lv_irem hx hb dX8_centuries_144 (by decide) ?_
      refine lv_goto (tgt := 158) hx hb dX8_centuries_145 (by decide) ?_
      exact bk_158_4 rec_64_1 hrec_64_1 v2 v3 v4 v5 s0 (v7 - v7 / (4 : Int32) * (4 : Int32)) s0 o_me o_me_machine o_me_paper o_me_paper_now o_me_paperCourt _ _ _ h hw (lv_sub hl [1, 2, 3, 4, 5, 0] rfl)
  have lp_64_1 : ∀ (N : Nat), ∀ (v2 : Int32) (v3 : Int32) (v4 : Int32) (v5 : Int32) (o_me : Ob) (o_me_machine : Ob) (o_me_paper : Ob) (o_me_paper_now : Ob) (o_me_paperCourt : Ob) (H : Heap) (locs : List Loc) (ls : Array Slot), lp_X8_centuries_64 o_me_isles o_me_isles_now o_pool  N (v2, v3, v4, v5, o_me, o_me_machine, o_me_paper, o_me_paper_now, o_me_paperCourt) = some y → Wd dC dI A s.heap [wX8 h_me h_me_reader h_me_machine h_me_isles h_me_court h_me_study h_me_paper h_me_paperCourt h_me_past h_me_pastAhead h_me_movingAhead q_me k_me o_me, wX3 h_me_machine q_me_machine k_me_machine o_me_machine, wX2 h_me_isles h_me_isles_now q_me_isles k_me_isles o_me_isles, wX4 h_me_isles_now q_me_isles_now k_me_isles_now o_me_isles_now, wX2 h_me_paper h_me_paper_now q_me_paper k_me_paper o_me_paper, wX4 h_me_paper_now q_me_paper_now k_me_paper_now o_me_paper_now, wX1 h_me_paperCourt h_me_paper h_me_machine q_me_paperCourt k_me_paperCourt o_me_paperCourt, wPL o_pool] H locs → lv_has ls 10 [(0, .ref h_me), (2, .int v2), (3, .int v3), (4, .int v4), (5, .int v5)] → W p l e ({ frames := 6, cells := 0, slots := 0, locals := 163 } : Room) s m ([.ref h_me, .int p0, .int p1] : List Value).toArray below meth c H locs 0 0 Qz (F0 m 64 ls []) := by
    intro N
    induction N with
    | zero =>
      intro v2 v3 v4 v5 o_me o_me_machine o_me_paper o_me_paper_now o_me_paperCourt H locs ls h hw hl
      exact absurd (show (none : Option (Int32 × Ob × Ob × Ob × Ob × Ob)) = some y from h) (by simp)
    | succ N ih =>
      intro v2 v3 v4 v5 o_me o_me_machine o_me_paper o_me_paper_now o_me_paperCourt H locs ls h hw hl
      have h : lb_X8_centuries_64 o_me_isles o_me_isles_now o_pool  (lp_X8_centuries_64 o_me_isles o_me_isles_now o_pool  N) v2 v3 v4 v5 o_me o_me_machine o_me_paper o_me_paper_now o_me_paperCourt = some y := h
      unfold lb_X8_centuries_64 at h
      refine lv_iload hx hb dX8_centuries_64 (lv_at hl 4 rfl) ?_
      refine lv_iload_n hx hb dX8_centuries_66 rfl (lv_at hl 1 rfl) ?_
      refine lv_icmp_ge (tgt := 194) hx hb dX8_centuries_67 (by decide) (fun c => ?_) (fun c => ?_)
      · have h := z_t h c
        exact bk_194_2  v4 o_me o_me_machine o_me_paper o_me_paper_now o_me_paperCourt _ _ _ h hw (lv_sub hl [0, 3] rfl)
      · have h := z_f h c
        refine lv_aload_n hx hb dX8_centuries_70 rfl (lv_at hl 0 rfl) ?_
        refine fgX8_5 hx hb hts hown hK hw 0 rfl kw447 dX8_centuries_71 ?_
        refine fgX2_0 hx hb hts hown hK hw 4 rfl kw297 dX8_centuries_74 ?_
        refine fgX4_4 hx hb hts hown hK hw 5 rfl kw281 dX8_centuries_77 ?_
        refine lv_sipush (v := 999) hx hb dX8_centuries_80 (by decide) ?_
        refine lv_icmp_ge (tgt := 194) hx hb dX8_centuries_83 (by decide) (fun c => ?_) (fun c => ?_)
        · have h := z_t h c
          exact bk_194_2  v4 o_me o_me_machine o_me_paper o_me_paper_now o_me_paperCourt _ _ _ h hw (lv_sub hl [0, 3] rfl)
        · have h := z_f h c
          refine lv_iload_n hx hb dX8_centuries_86 rfl (lv_at hl 2 rfl) ?_
          obtain ⟨z4, ez4, h⟩ := z_bd h
          refine xj_i (xrS (As := [.int v3]) (rest := []) ⟨hx, hb, hml, hown, hts⟩ (m_X8_nextDraw l dC dI _  v3 z4 ez4) kw1123 kw1121 kw1122 kw110 hd_X8_nextDraw ⟨rfl, rfl⟩ rfl rfl ⟨rfl, rfl⟩ hX hK hw [] (by decide) rfl rfl hl.1 rfl rfl dX8_centuries_87) hw hA [] (by decide) rfl rfl (fun H locs hw => ?_)
          refine lv_istore (lv' := [(6, .int z4), (0, .ref h_me), (2, .int v2), (3, .int v3), (4, .int v4), (5, .int v5)]) hx hb dX8_centuries_90 hl (by decide) rfl (fun ls hl => ?_)
          refine lv_iload hx hb dX8_centuries_92 (lv_at hl 0 rfl) ?_
          obtain ⟨z5, ez5, h⟩ := z_bd h
          refine xj_i (xrS (As := [.int z4]) (rest := []) ⟨hx, hb, hml, hown, hts⟩ (m_X8_nextDraw l dC dI _  z4 z5 ez5) kw1123 kw1121 kw1122 kw110 hd_X8_nextDraw ⟨rfl, rfl⟩ rfl rfl ⟨rfl, rfl⟩ hX hK hw [] (by decide) rfl rfl hl.1 rfl rfl dX8_centuries_94) hw hA [] (by decide) rfl rfl (fun H locs hw => ?_)
          refine lv_istore (lv' := [(7, .int z5), (6, .int z4), (0, .ref h_me), (2, .int v2), (3, .int v3), (4, .int v4), (5, .int v5)]) hx hb dX8_centuries_97 hl (by decide) rfl (fun ls hl => ?_)
          refine lv_iload hx hb dX8_centuries_99 (lv_at hl 0 rfl) ?_
          obtain ⟨z6, ez6, h⟩ := z_bd h
          refine xj_i (xrS (As := [.int z5]) (rest := []) ⟨hx, hb, hml, hown, hts⟩ (m_X8_nextDraw l dC dI _  z5 z6 ez6) kw1123 kw1121 kw1122 kw110 hd_X8_nextDraw ⟨rfl, rfl⟩ rfl rfl ⟨rfl, rfl⟩ hX hK hw [] (by decide) rfl rfl hl.1 rfl rfl dX8_centuries_101) hw hA [] (by decide) rfl rfl (fun H locs hw => ?_)
          refine lv_istore_n (lv' := [(3, .int z6), (7, .int z5), (6, .int z4), (0, .ref h_me), (2, .int v2), (4, .int v4), (5, .int v5)]) hx hb dX8_centuries_104 rfl hl (by decide) rfl (fun ls hl => ?_)
          refine lv_iload_n hx hb dX8_centuries_105 rfl (lv_at hl 0 rfl) ?_
          refine lv_iconst (v := 4) hx hb dX8_centuries_106 (by decide) ?_
          refine lv_irem hx hb dX8_centuries_107 (by decide) ?_
          refine lv_iconst (v := 2) hx hb dX8_centuries_108 (by decide) ?_
          refine lv_icmp_ge (tgt := 116) hx hb dX8_centuries_109 (by decide) (fun c => ?_) (fun c => ?_)
          · have h := z_t h c
            refine lv_iload_n hx hb dX8_centuries_116 rfl (lv_at hl 0 rfl) ?_
            refine lv_iconst (v := 4) hx hb dX8_centuries_117 (by decide) ?_
            refine lv_irem hx hb dX8_centuries_118 (by decide) ?_
            refine lv_iconst (v := 2) hx hb dX8_centuries_119 (by decide) ?_
            refine lv_icmp_ne (tgt := 127) hx hb dX8_centuries_120 (by decide) (fun c => ?_) (fun c => ?_)
            · have h := z_f h c
              refine lv_iconst (v := 2) hx hb dX8_centuries_127 (by decide) ?_
              exact bk_128_3 (lp_X8_centuries_64 o_me_isles o_me_isles_now o_pool  N) ih v2 z6 v4 v5 z4 z5 (2 : Int32) o_me o_me_machine o_me_paper o_me_paper_now o_me_paperCourt _ _ _ h hw (lv_sub hl [3, 4, 0, 5, 6, 2, 1] rfl)
            · have h := z_t h c
              refine lv_iconst (v := 0) hx hb dX8_centuries_123 (by decide) ?_
              refine lv_goto (tgt := 128) hx hb dX8_centuries_124 (by decide) ?_
              exact bk_128_3 (lp_X8_centuries_64 o_me_isles o_me_isles_now o_pool  N) ih v2 z6 v4 v5 z4 z5 (0 : Int32) o_me o_me_machine o_me_paper o_me_paper_now o_me_paperCourt _ _ _ h hw (lv_sub hl [3, 4, 0, 5, 6, 2, 1] rfl)
          · have h := z_f h c
            refine lv_iconst (v := 1) hx hb dX8_centuries_112 (by decide) ?_
            refine lv_goto (tgt := 128) hx hb dX8_centuries_113 (by decide) ?_
            exact bk_128_3 (lp_X8_centuries_64 o_me_isles o_me_isles_now o_pool  N) ih v2 z6 v4 v5 z4 z5 (1 : Int32) o_me o_me_machine o_me_paper o_me_paper_now o_me_paperCourt _ _ _ h hw (lv_sub hl [3, 4, 0, 5, 6, 2, 1] rfl)
  unfold f_X8_centuries at h
  refine lv_iload_n hx hb dX8_centuries_0 rfl (lv_at hl 1 rfl) ?_
  refine lv_if_lt (tgt := 22) hx hb dX8_centuries_1 (by decide) (fun c => ?_) (fun c => ?_)
  · have h := z_t h c
    exact bk_22_0  o_me o_me_machine o_me_paper o_me_paper_now o_me_paperCourt _ _ _ h hw (lv_sub hl [0] rfl)
  · have h := z_f h c
    refine lv_iload_n hx hb dX8_centuries_4 rfl (lv_at hl 1 rfl) ?_
    refine lv_ldcw (v := 1000000) hx hb hown (hts _ kw1114) dX8_centuries_5 ?_
    refine lv_icmp_gt (tgt := 22) hx hb dX8_centuries_8 (by decide) (fun c => ?_) (fun c => ?_)
    · have h := z_t h c
      exact bk_22_0  o_me o_me_machine o_me_paper o_me_paper_now o_me_paperCourt _ _ _ h hw (lv_sub hl [0] rfl)
    · have h := z_f h c
      refine lv_iload_n hx hb dX8_centuries_11 rfl (lv_at hl 2 rfl) ?_
      refine lv_iconst (v := 1) hx hb dX8_centuries_12 (by decide) ?_
      refine lv_icmp_lt (tgt := 22) hx hb dX8_centuries_13 (by decide) (fun c => ?_) (fun c => ?_)
      · have h := z_t h c
        exact bk_22_0  o_me o_me_machine o_me_paper o_me_paper_now o_me_paperCourt _ _ _ h hw (lv_sub hl [0] rfl)
      · have h := z_f h c
        refine lv_iload_n hx hb dX8_centuries_16 rfl (lv_at hl 2 rfl) ?_
        refine lv_bipush (v := 60) hx hb dX8_centuries_17 (by decide) ?_
        refine lv_icmp_le (tgt := 28) hx hb dX8_centuries_19 (by decide) (fun c => ?_) (fun c => ?_)
        · have h := z_t h c
          refine lv_aload_n hx hb dX8_centuries_28 rfl (lv_at hl 0 rfl) ?_
          refine fgX8_2 hx hb hts hown hK hw 0 rfl kw444 dX8_centuries_29 ?_
          refine fgX2_7 hx hb hts hown hK hw 2 rfl kw317 dX8_centuries_32 ?_
          refine lv_if_ne (tgt := 45) hx hb dX8_centuries_35 (by decide) (fun c => ?_) (fun c => ?_)
          · have h := z_f h c
            refine lv_aload_n hx hb dX8_centuries_45 rfl (lv_at hl 0 rfl) ?_
            refine fgX8_5 hx hb hts hown hK hw 0 rfl kw447 dX8_centuries_46 ?_
            refine lv_aload_n hx hb dX8_centuries_49 rfl (lv_at hl 0 rfl) ?_
            refine fgX8_2 hx hb hts hown hK hw 0 rfl kw444 dX8_centuries_50 ?_
            obtain ⟨z2, ez2, h⟩ := z_bd h
            refine xj_v (xrV (As := [.ref h_me_isles]) (rest := []) ⟨hx, hb, hml, hown, hts⟩ (m_X2_set_O l dC dI _ h_me_paper h_me_paper_now h_me_isles h_me_isles_now q_me_paper k_me_paper q_me_paper_now k_me_paper_now q_me_isles k_me_isles q_me_isles_now k_me_isles_now o_me_paper o_me_paper_now o_pool o_me_isles o_me_isles_now z2 ez2) kw1118 kw1115 kw1116 kw1117 kw115 hd_X2_set ⟨rfl, rfl⟩ rfl rfl ⟨rfl, rfl⟩ hX hK hw [4, 5, 7, 2, 3] (by decide) rfl rfl rfl rfl rfl hl.1 rfl rfl dX8_centuries_53) hw hA [4, 5, 7, 2, 3] (by decide) rfl rfl (fun H locs hw => ?_)
            have hw : Wd dC dI A s.heap [wX8 h_me h_me_reader h_me_machine h_me_isles h_me_court h_me_study h_me_paper h_me_paperCourt h_me_past h_me_pastAhead h_me_movingAhead q_me k_me o_me, wX3 h_me_machine q_me_machine k_me_machine o_me_machine, wX2 h_me_isles h_me_isles_now q_me_isles k_me_isles o_me_isles, wX4 h_me_isles_now q_me_isles_now k_me_isles_now o_me_isles_now, wX2 h_me_paper h_me_paper_now q_me_paper k_me_paper z2.1, wX4 h_me_paper_now q_me_paper_now k_me_paper_now z2.2, wX1 h_me_paperCourt h_me_paper h_me_machine q_me_paperCourt k_me_paperCourt o_me_paperCourt, wPL o_pool] H locs := hw
            refine lv_iload_n hx hb dX8_centuries_56 rfl (lv_at hl 1 rfl) ?_
            refine lv_istore_n (lv' := [(3, .int p0), (0, .ref h_me), (1, .int p0), (2, .int p1)]) hx hb dX8_centuries_57 rfl hl (by decide) rfl (fun ls hl => ?_)
            refine lv_iconst (v := 0) hx hb dX8_centuries_58 (by decide) ?_
            refine lv_istore (lv' := [(4, .int (0 : Int32)), (3, .int p0), (0, .ref h_me), (1, .int p0), (2, .int p1)]) hx hb dX8_centuries_59 hl (by decide) rfl (fun ls hl => ?_)
            refine lv_iconst (v := 0) hx hb dX8_centuries_61 (by decide) ?_
            refine lv_istore (lv' := [(5, .int (0 : Int32)), (4, .int (0 : Int32)), (3, .int p0), (0, .ref h_me), (1, .int p0), (2, .int p1)]) hx hb dX8_centuries_62 hl (by decide) rfl (fun ls hl => ?_)
            exact lp_64_1  zfu p1 p0 (0 : Int32) (0 : Int32) o_me o_me_machine z2.1 z2.2 o_me_paperCourt _ _ _ h hw (lv_sub hl [3, 5, 2, 1, 0] rfl)
          · have h := z_t h c
            refine lv_aload_n hx hb dX8_centuries_38 rfl (lv_at hl 0 rfl) ?_
            refine lv_bipush (v := (-3)) hx hb dX8_centuries_39 (by decide) ?_
            obtain ⟨z12, ez12, h⟩ := z_bd h
            refine xj_i (xrV (As := [.int (-3 : Int32)]) (rest := []) ⟨hx, hb, hml, hown, hts⟩ (m_X8_refuse l dC dI _ h_me h_me_reader h_me_machine h_me_isles h_me_court h_me_study h_me_paper h_me_paperCourt h_me_past h_me_pastAhead h_me_movingAhead q_me k_me o_me (-3 : Int32) z12 ez12) kw508 kw505 kw507 kw0 kw110 hd_X8_refuse ⟨rfl, rfl⟩ rfl rfl ⟨rfl, rfl⟩ hX hK hw [0] (by decide) rfl rfl rfl rfl rfl hl.1 rfl rfl dX8_centuries_41) hw hA [0] (by decide) rfl rfl (fun H locs hw => ?_)
            have hw : Wd dC dI A s.heap [wX8 h_me h_me_reader h_me_machine h_me_isles h_me_court h_me_study h_me_paper h_me_paperCourt h_me_past h_me_pastAhead h_me_movingAhead q_me k_me z12.2, wX3 h_me_machine q_me_machine k_me_machine o_me_machine, wX2 h_me_isles h_me_isles_now q_me_isles k_me_isles o_me_isles, wX4 h_me_isles_now q_me_isles_now k_me_isles_now o_me_isles_now, wX2 h_me_paper h_me_paper_now q_me_paper k_me_paper o_me_paper, wX4 h_me_paper_now q_me_paper_now k_me_paper_now o_me_paper_now, wX1 h_me_paperCourt h_me_paper h_me_machine q_me_paperCourt k_me_paperCourt o_me_paperCourt, wPL o_pool] H locs := hw
            have hy := Option.some.inj h
            rw [← hQz, ← hy]
            exact xr_i (v := z12.1) hx hb hr rfl hlk hK hw dX8_centuries_44
        · have h := z_f h c
          exact bk_22_0  o_me o_me_machine o_me_paper o_me_paper_now o_me_paperCourt _ _ _ h hw (lv_sub hl [0] rfl)

def f_X7_isCircle (o_me : Ob) (o_me_court_isles : Ob) (p0 : Int32) (p1 : Int32) (p2 : Int32) : Option (Int32) :=
  zgd (zin p0 7) <|
  zgd (zin p1 7) <|
  zgd (zin p2 7) <|
  if (((((gA o_me_court_isles 3 p0.toNatClampNeg) >>> (p1 &&& 31)) &&& ((gA o_me_court_isles 3 p1.toNatClampNeg) >>> (p2 &&& 31))) &&& ((gA o_me_court_isles 3 p2.toNatClampNeg) >>> (p0 &&& 31))) &&& (1 : Int32)) = (1 : Int32) then
  (some (1 : Int32))
  else
  (some (0 : Int32))
set_option maxHeartbeats 4000000 in
set_option maxRecDepth 100000 in
theorem m_X7_isCircle (l : Launch) (dC : Nat → ClassId) (dI : Nat → Nat → Nat) (sz : Nat) (h_me : Nat) (h_me_court : Nat) (h_me_court_isles : Nat) (h_me_court_isles_now : Nat) (q_me : Nat → Nat) (k_me : Nat → ClassId) (q_me_court_isles : Nat → Nat) (k_me_court_isles : Nat → ClassId) (o_me : Ob) (o_me_court_isles : Ob) (p0 : Int32) (p1 : Int32) (p2 : Int32) (y : Int32) (h : f_X7_isCircle o_me o_me_court_isles p0 p1 p2 = some y) : CI l yX7_isCircle cX7_isCircle 4 (some .boolean) ({ frames := 0, cells := 0, slots := 0, locals := 0 } : Room) dC dI sz [.ref h_me, .int p0, .int p1, .int p2] [wX7 h_me h_me_court h_me_court_isles q_me k_me o_me, wX2 h_me_court_isles h_me_court_isles_now q_me_court_isles k_me_court_isles o_me_court_isles] [tX7 k_me, tX2 k_me_court_isles] y [wX7 h_me h_me_court h_me_court_isles q_me k_me o_me, wX2 h_me_court_isles h_me_court_isles_now q_me_court_isles k_me_court_isles o_me_court_isles] := by
  refine CC_of (by decide) (Nat.le_of_ble_eq_true rfl) ?_
  intro p e s m below meth c A ls hx hb hml hr hlk hnm hown hts hX hK hP hD hA hl
  have hl : lv_has ls 4 [(0, .ref h_me), (1, .int p0), (2, .int p1), (3, .int p2)] := hl
  have hown : s.vm.findClass RX7 = some m.cls := hown
  have hw : Wd dC dI A s.heap [wX7 h_me h_me_court h_me_court_isles q_me k_me o_me, wX2 h_me_court_isles h_me_court_isles_now q_me_court_isles k_me_court_isles o_me_court_isles] s.heap [] := ⟨hP, hD, va_S.rf⟩
  generalize hQz : (MQ below (QI dC dI (fun r (_ : Unit) => r = y) (fun _ => Jn [wX7 h_me h_me_court h_me_court_isles q_me k_me o_me, wX2 h_me_court_isles h_me_court_isles_now q_me_court_isles k_me_court_isles o_me_court_isles]) (fun _ => Jt [tX7 k_me, tX2 k_me_court_isles]) A) ([.ref h_me, .int p0, .int p1, .int p2] : List Value).toArray s 0 0 A) = Qz
  clear hP hD hnm
  unfold f_X7_isCircle at h
  refine lv_aload_n hx hb dX7_isCircle_0 rfl (lv_at hl 0 rfl) ?_
  refine fgX7_1 hx hb hts hown hK hw 0 rfl kw387 dX7_isCircle_1 ?_
  refine fgX2_3 hx hb hts hown hK hw 1 rfl kw309 dX7_isCircle_4 ?_
  refine lv_iload_n hx hb dX7_isCircle_7 rfl (lv_at hl 1 rfl) ?_
  obtain ⟨g1, h⟩ := z_gd h
  refine faX2_3 hx hb hK hw 1 rfl rfl g1 dX7_isCircle_8 ?_
  refine lv_iload_n hx hb dX7_isCircle_9 rfl (lv_at hl 2 rfl) ?_
  refine lv_ishr hx hb dX7_isCircle_10 ?_
  refine lv_aload_n hx hb dX7_isCircle_11 rfl (lv_at hl 0 rfl) ?_
  refine fgX7_1 hx hb hts hown hK hw 0 rfl kw387 dX7_isCircle_12 ?_
  refine fgX2_3 hx hb hts hown hK hw 1 rfl kw309 dX7_isCircle_15 ?_
  refine lv_iload_n hx hb dX7_isCircle_18 rfl (lv_at hl 2 rfl) ?_
  obtain ⟨g2, h⟩ := z_gd h
  refine faX2_3 hx hb hK hw 1 rfl rfl g2 dX7_isCircle_19 ?_
  refine lv_iload_n hx hb dX7_isCircle_20 rfl (lv_at hl 3 rfl) ?_
  refine lv_ishr hx hb dX7_isCircle_21 ?_
  refine lv_iand hx hb dX7_isCircle_22 ?_
  refine lv_aload_n hx hb dX7_isCircle_23 rfl (lv_at hl 0 rfl) ?_
  refine fgX7_1 hx hb hts hown hK hw 0 rfl kw387 dX7_isCircle_24 ?_
  refine fgX2_3 hx hb hts hown hK hw 1 rfl kw309 dX7_isCircle_27 ?_
  refine lv_iload_n hx hb dX7_isCircle_30 rfl (lv_at hl 3 rfl) ?_
  obtain ⟨g3, h⟩ := z_gd h
  refine faX2_3 hx hb hK hw 1 rfl rfl g3 dX7_isCircle_31 ?_
  refine lv_iload_n hx hb dX7_isCircle_32 rfl (lv_at hl 1 rfl) ?_
  refine lv_ishr hx hb dX7_isCircle_33 ?_
  refine lv_iand hx hb dX7_isCircle_34 ?_
  refine lv_iconst (v := 1) hx hb dX7_isCircle_35 (by decide) ?_
  refine lv_iand hx hb dX7_isCircle_36 ?_
  refine lv_iconst (v := 1) hx hb dX7_isCircle_37 (by decide) ?_
  refine lv_icmp_ne (tgt := 45) hx hb dX7_isCircle_38 (by decide) (fun c => ?_) (fun c => ?_)
  · have h := z_f h c
    refine lv_iconst (v := 0) hx hb dX7_isCircle_45 (by decide) ?_
    have hy := Option.some.inj h
    rw [← hQz, ← hy]
    exact xr_i (v := (0 : Int32)) hx hb hr rfl hlk hK hw dX7_isCircle_46
  · have h := z_t h c
    refine lv_iconst (v := 1) hx hb dX7_isCircle_41 (by decide) ?_
    refine lv_goto (tgt := 46) hx hb dX7_isCircle_42 (by decide) ?_
    have hy := Option.some.inj h
    rw [← hQz, ← hy]
    exact xr_i (v := (1 : Int32)) hx hb hr rfl hlk hK hw dX7_isCircle_46

def bk_X7_circleCount_72 (o_me : Ob) (o_me_court_isles : Ob) (rec_4_0 : Int32 × Int32 → Option (Int32)) (rec_19_1 : Int32 × Int32 × Int32 → Option (Int32)) (rec_35_2 : Int32 × Int32 × Int32 × Int32 → Option (Int32)) (v1 : Int32) (v2 : Int32) (v3 : Int32) (v4 : Int32) : Option (Int32) :=
  zlt (v4 + (1 : Int32)) fun x7 =>
  rec_35_2 (v1, v2, v3, x7)
def bk_X7_circleCount_69 (o_me : Ob) (o_me_court_isles : Ob) (rec_4_0 : Int32 × Int32 → Option (Int32)) (rec_19_1 : Int32 × Int32 × Int32 → Option (Int32)) (rec_35_2 : Int32 × Int32 × Int32 × Int32 → Option (Int32)) (v1 : Int32) (v2 : Int32) (v3 : Int32) (v4 : Int32) : Option (Int32) :=
  zlt (v1 + (1 : Int32)) fun x6 =>
  bk_X7_circleCount_72 o_me o_me_court_isles rec_4_0 rec_19_1 rec_35_2 x6 v2 v3 v4
def lb_X7_circleCount_35 (o_me : Ob) (o_me_court_isles : Ob) (rec_4_0 : Int32 × Int32 → Option (Int32)) (rec_19_1 : Int32 × Int32 × Int32 → Option (Int32)) (rec_35_2 : Int32 × Int32 × Int32 × Int32 → Option (Int32)) (v1 : Int32) (v2 : Int32) (v3 : Int32) (v4 : Int32) : Option (Int32) :=
  if (gI o_me_court_isles 7) ≤ v4 then
  (zlt (v3 + (1 : Int32)) fun x4 =>
  rec_19_1 (v1, v2, x4))
  else
  ((f_X7_isCircle o_me o_me_court_isles v2 v3 v4).bind fun z5 =>
  if z5 = (0 : Int32) then
  ((f_X7_isCircle o_me o_me_court_isles v2 v4 v3).bind fun z8 =>
  if z8 = (0 : Int32) then
  (bk_X7_circleCount_72 o_me o_me_court_isles rec_4_0 rec_19_1 rec_35_2 v1 v2 v3 v4)
  else
  (bk_X7_circleCount_69 o_me o_me_court_isles rec_4_0 rec_19_1 rec_35_2 v1 v2 v3 v4))
  else
  (bk_X7_circleCount_69 o_me o_me_court_isles rec_4_0 rec_19_1 rec_35_2 v1 v2 v3 v4))
def lp_X7_circleCount_35 (o_me : Ob) (o_me_court_isles : Ob) (rec_4_0 : Int32 × Int32 → Option (Int32)) (rec_19_1 : Int32 × Int32 × Int32 → Option (Int32)) : Nat → (Int32 × Int32 × Int32 × Int32) → Option (Int32) := zit (fun rec a => lb_X7_circleCount_35 o_me o_me_court_isles rec_4_0 rec_19_1 rec a.1 a.2.1 a.2.2.1 a.2.2.2)
def lb_X7_circleCount_19 (o_me : Ob) (o_me_court_isles : Ob) (rec_4_0 : Int32 × Int32 → Option (Int32)) (rec_19_1 : Int32 × Int32 × Int32 → Option (Int32)) (v1 : Int32) (v2 : Int32) (v3 : Int32) : Option (Int32) :=
  if (gI o_me_court_isles 7) ≤ v3 then
  (zlt (v2 + (1 : Int32)) fun x2 =>
  rec_4_0 (v1, x2))
  else
  (zlt (v3 + (1 : Int32)) fun x3 =>
  lp_X7_circleCount_35 o_me o_me_court_isles rec_4_0 rec_19_1 zfu (v1, v2, v3, x3))
def lp_X7_circleCount_19 (o_me : Ob) (o_me_court_isles : Ob) (rec_4_0 : Int32 × Int32 → Option (Int32)) : Nat → (Int32 × Int32 × Int32) → Option (Int32) := zit (fun rec a => lb_X7_circleCount_19 o_me o_me_court_isles rec_4_0 rec a.1 a.2.1 a.2.2)
def lb_X7_circleCount_4 (o_me : Ob) (o_me_court_isles : Ob)  (rec_4_0 : Int32 × Int32 → Option (Int32)) (v1 : Int32) (v2 : Int32) : Option (Int32) :=
  if (gI o_me_court_isles 7) ≤ v2 then
  (some v1)
  else
  (zlt (v2 + (1 : Int32)) fun x1 =>
  lp_X7_circleCount_19 o_me o_me_court_isles rec_4_0 zfu (v1, v2, x1))
def lp_X7_circleCount_4 (o_me : Ob) (o_me_court_isles : Ob)  : Nat → (Int32 × Int32) → Option (Int32) := zit (fun rec a => lb_X7_circleCount_4 o_me o_me_court_isles  rec a.1 a.2)
def f_X7_circleCount (o_me : Ob) (o_me_court_isles : Ob) : Option (Int32) :=
  lp_X7_circleCount_4 o_me o_me_court_isles  zfu ((0 : Int32), (0 : Int32))
set_option maxHeartbeats 4000000 in
set_option maxRecDepth 100000 in
theorem m_X7_circleCount (l : Launch) (dC : Nat → ClassId) (dI : Nat → Nat → Nat) (sz : Nat) (h_me : Nat) (h_me_court : Nat) (h_me_court_isles : Nat) (h_me_court_isles_now : Nat) (q_me : Nat → Nat) (k_me : Nat → ClassId) (q_me_court_isles : Nat → Nat) (k_me_court_isles : Nat → ClassId) (o_me : Ob) (o_me_court_isles : Ob) (y : Int32) (h : f_X7_circleCount o_me o_me_court_isles = some y) : CI l yX7_circleCount cX7_circleCount 5 (some .int) ({ frames := 1, cells := 0, slots := 0, locals := 23 } : Room) dC dI sz [.ref h_me] [wX7 h_me h_me_court h_me_court_isles q_me k_me o_me, wX2 h_me_court_isles h_me_court_isles_now q_me_court_isles k_me_court_isles o_me_court_isles] [tX7 k_me, tX2 k_me_court_isles] y [wX7 h_me h_me_court h_me_court_isles q_me k_me o_me, wX2 h_me_court_isles h_me_court_isles_now q_me_court_isles k_me_court_isles o_me_court_isles] := by
  refine CC_of (by decide) (Nat.le_of_ble_eq_true rfl) ?_
  intro p e s m below meth c A ls hx hb hml hr hlk hnm hown hts hX hK hP hD hA hl
  have hl : lv_has ls 5 [(0, .ref h_me)] := hl
  have hown : s.vm.findClass RX7 = some m.cls := hown
  have hw : Wd dC dI A s.heap [wX7 h_me h_me_court h_me_court_isles q_me k_me o_me, wX2 h_me_court_isles h_me_court_isles_now q_me_court_isles k_me_court_isles o_me_court_isles] s.heap [] := ⟨hP, hD, va_S.rf⟩
  generalize hQz : (MQ below (QI dC dI (fun r (_ : Unit) => r = y) (fun _ => Jn [wX7 h_me h_me_court h_me_court_isles q_me k_me o_me, wX2 h_me_court_isles h_me_court_isles_now q_me_court_isles k_me_court_isles o_me_court_isles]) (fun _ => Jt [tX7 k_me, tX2 k_me_court_isles]) A) ([.ref h_me] : List Value).toArray s 0 0 A) = Qz
  clear hP hD hnm
  have bk_72_4 : ∀ (rec_4_0 : Int32 × Int32 → Option (Int32)) (hrec_4_0 : ∀ (v1 : Int32) (v2 : Int32) (H : Heap) (locs : List Loc) (ls : Array Slot), rec_4_0 (v1, v2) = some y → Wd dC dI A s.heap [wX7 h_me h_me_court h_me_court_isles q_me k_me o_me, wX2 h_me_court_isles h_me_court_isles_now q_me_court_isles k_me_court_isles o_me_court_isles] H locs → lv_has ls 5 [(0, .ref h_me), (1, .int v1), (2, .int v2)] → W p l e ({ frames := 1, cells := 0, slots := 0, locals := 23 } : Room) s m ([.ref h_me] : List Value).toArray below meth c H locs 0 0 Qz (F0 m 4 ls [])) (rec_19_1 : Int32 × Int32 × Int32 → Option (Int32)) (hrec_19_1 : ∀ (v1 : Int32) (v2 : Int32) (v3 : Int32) (H : Heap) (locs : List Loc) (ls : Array Slot), rec_19_1 (v1, v2, v3) = some y → Wd dC dI A s.heap [wX7 h_me h_me_court h_me_court_isles q_me k_me o_me, wX2 h_me_court_isles h_me_court_isles_now q_me_court_isles k_me_court_isles o_me_court_isles] H locs → lv_has ls 5 [(0, .ref h_me), (1, .int v1), (2, .int v2), (3, .int v3)] → W p l e ({ frames := 1, cells := 0, slots := 0, locals := 23 } : Room) s m ([.ref h_me] : List Value).toArray below meth c H locs 0 0 Qz (F0 m 19 ls [])) (rec_35_2 : Int32 × Int32 × Int32 × Int32 → Option (Int32)) (hrec_35_2 : ∀ (v1 : Int32) (v2 : Int32) (v3 : Int32) (v4 : Int32) (H : Heap) (locs : List Loc) (ls : Array Slot), rec_35_2 (v1, v2, v3, v4) = some y → Wd dC dI A s.heap [wX7 h_me h_me_court h_me_court_isles q_me k_me o_me, wX2 h_me_court_isles h_me_court_isles_now q_me_court_isles k_me_court_isles o_me_court_isles] H locs → lv_has ls 5 [(0, .ref h_me), (1, .int v1), (2, .int v2), (3, .int v3), (4, .int v4)] → W p l e ({ frames := 1, cells := 0, slots := 0, locals := 23 } : Room) s m ([.ref h_me] : List Value).toArray below meth c H locs 0 0 Qz (F0 m 35 ls [])), ∀ (v1 : Int32) (v2 : Int32) (v3 : Int32) (v4 : Int32) (H : Heap) (locs : List Loc) (ls : Array Slot), bk_X7_circleCount_72 o_me o_me_court_isles rec_4_0 rec_19_1 rec_35_2 v1 v2 v3 v4 = some y → Wd dC dI A s.heap [wX7 h_me h_me_court h_me_court_isles q_me k_me o_me, wX2 h_me_court_isles h_me_court_isles_now q_me_court_isles k_me_court_isles o_me_court_isles] H locs → lv_has ls 5 [(0, .ref h_me), (1, .int v1), (2, .int v2), (3, .int v3), (4, .int v4)] → W p l e ({ frames := 1, cells := 0, slots := 0, locals := 23 } : Room) s m ([.ref h_me] : List Value).toArray below meth c H locs 0 0 Qz (F0 m 72 ls []) := by
    intro rec_4_0 hrec_4_0 rec_19_1 hrec_19_1 rec_35_2 hrec_35_2
    intro v1 v2 v3 v4 H locs ls h hw hl
    unfold bk_X7_circleCount_72 at h
    obtain ⟨x7, ex7, h⟩ := z_lt h
    refine lv_iinc (v := x7) (lv' := [(4, .int x7), (0, .ref h_me), (1, .int v1), (2, .int v2), (3, .int v3)]) hx hb dX7_circleCount_72 hl (k := 4) rfl ((congrArg (v4 + ·) (show Int32.ofInt 1 = (1 : Int32) from by decide)).trans ex7.symm) (by decide) rfl (fun ls hl => ?_)
    refine lv_goto (tgt := 35) hx hb dX7_circleCount_75 (by decide) ?_
    exact hrec_35_2 v1 v2 v3 x7 _ _ _ h hw (lv_sub hl [1, 2, 3, 4, 0] rfl)
  have bk_69_3 : ∀ (rec_4_0 : Int32 × Int32 → Option (Int32)) (hrec_4_0 : ∀ (v1 : Int32) (v2 : Int32) (H : Heap) (locs : List Loc) (ls : Array Slot), rec_4_0 (v1, v2) = some y → Wd dC dI A s.heap [wX7 h_me h_me_court h_me_court_isles q_me k_me o_me, wX2 h_me_court_isles h_me_court_isles_now q_me_court_isles k_me_court_isles o_me_court_isles] H locs → lv_has ls 5 [(0, .ref h_me), (1, .int v1), (2, .int v2)] → W p l e ({ frames := 1, cells := 0, slots := 0, locals := 23 } : Room) s m ([.ref h_me] : List Value).toArray below meth c H locs 0 0 Qz (F0 m 4 ls [])) (rec_19_1 : Int32 × Int32 × Int32 → Option (Int32)) (hrec_19_1 : ∀ (v1 : Int32) (v2 : Int32) (v3 : Int32) (H : Heap) (locs : List Loc) (ls : Array Slot), rec_19_1 (v1, v2, v3) = some y → Wd dC dI A s.heap [wX7 h_me h_me_court h_me_court_isles q_me k_me o_me, wX2 h_me_court_isles h_me_court_isles_now q_me_court_isles k_me_court_isles o_me_court_isles] H locs → lv_has ls 5 [(0, .ref h_me), (1, .int v1), (2, .int v2), (3, .int v3)] → W p l e ({ frames := 1, cells := 0, slots := 0, locals := 23 } : Room) s m ([.ref h_me] : List Value).toArray below meth c H locs 0 0 Qz (F0 m 19 ls [])) (rec_35_2 : Int32 × Int32 × Int32 × Int32 → Option (Int32)) (hrec_35_2 : ∀ (v1 : Int32) (v2 : Int32) (v3 : Int32) (v4 : Int32) (H : Heap) (locs : List Loc) (ls : Array Slot), rec_35_2 (v1, v2, v3, v4) = some y → Wd dC dI A s.heap [wX7 h_me h_me_court h_me_court_isles q_me k_me o_me, wX2 h_me_court_isles h_me_court_isles_now q_me_court_isles k_me_court_isles o_me_court_isles] H locs → lv_has ls 5 [(0, .ref h_me), (1, .int v1), (2, .int v2), (3, .int v3), (4, .int v4)] → W p l e ({ frames := 1, cells := 0, slots := 0, locals := 23 } : Room) s m ([.ref h_me] : List Value).toArray below meth c H locs 0 0 Qz (F0 m 35 ls [])), ∀ (v1 : Int32) (v2 : Int32) (v3 : Int32) (v4 : Int32) (H : Heap) (locs : List Loc) (ls : Array Slot), bk_X7_circleCount_69 o_me o_me_court_isles rec_4_0 rec_19_1 rec_35_2 v1 v2 v3 v4 = some y → Wd dC dI A s.heap [wX7 h_me h_me_court h_me_court_isles q_me k_me o_me, wX2 h_me_court_isles h_me_court_isles_now q_me_court_isles k_me_court_isles o_me_court_isles] H locs → lv_has ls 5 [(0, .ref h_me), (1, .int v1), (2, .int v2), (3, .int v3), (4, .int v4)] → W p l e ({ frames := 1, cells := 0, slots := 0, locals := 23 } : Room) s m ([.ref h_me] : List Value).toArray below meth c H locs 0 0 Qz (F0 m 69 ls []) := by
    intro rec_4_0 hrec_4_0 rec_19_1 hrec_19_1 rec_35_2 hrec_35_2
    intro v1 v2 v3 v4 H locs ls h hw hl
    unfold bk_X7_circleCount_69 at h
    obtain ⟨x6, ex6, h⟩ := z_lt h
    refine lv_iinc (v := x6) (lv' := [(1, .int x6), (0, .ref h_me), (2, .int v2), (3, .int v3), (4, .int v4)]) hx hb dX7_circleCount_69 hl (k := 1) rfl ((congrArg (v1 + ·) (show Int32.ofInt 1 = (1 : Int32) from by decide)).trans ex6.symm) (by decide) rfl (fun ls hl => ?_)
    exact bk_72_4 rec_4_0 hrec_4_0 rec_19_1 hrec_19_1 rec_35_2 hrec_35_2 x6 v2 v3 v4 _ _ _ h hw (lv_sub hl [1, 0, 2, 3, 4] rfl)
  have lp_35_2 : ∀ (rec_4_0 : Int32 × Int32 → Option (Int32)) (hrec_4_0 : ∀ (v1 : Int32) (v2 : Int32) (H : Heap) (locs : List Loc) (ls : Array Slot), rec_4_0 (v1, v2) = some y → Wd dC dI A s.heap [wX7 h_me h_me_court h_me_court_isles q_me k_me o_me, wX2 h_me_court_isles h_me_court_isles_now q_me_court_isles k_me_court_isles o_me_court_isles] H locs → lv_has ls 5 [(0, .ref h_me), (1, .int v1), (2, .int v2)] → W p l e ({ frames := 1, cells := 0, slots := 0, locals := 23 } : Room) s m ([.ref h_me] : List Value).toArray below meth c H locs 0 0 Qz (F0 m 4 ls [])) (rec_19_1 : Int32 × Int32 × Int32 → Option (Int32)) (hrec_19_1 : ∀ (v1 : Int32) (v2 : Int32) (v3 : Int32) (H : Heap) (locs : List Loc) (ls : Array Slot), rec_19_1 (v1, v2, v3) = some y → Wd dC dI A s.heap [wX7 h_me h_me_court h_me_court_isles q_me k_me o_me, wX2 h_me_court_isles h_me_court_isles_now q_me_court_isles k_me_court_isles o_me_court_isles] H locs → lv_has ls 5 [(0, .ref h_me), (1, .int v1), (2, .int v2), (3, .int v3)] → W p l e ({ frames := 1, cells := 0, slots := 0, locals := 23 } : Room) s m ([.ref h_me] : List Value).toArray below meth c H locs 0 0 Qz (F0 m 19 ls [])) (N : Nat), ∀ (v1 : Int32) (v2 : Int32) (v3 : Int32) (v4 : Int32) (H : Heap) (locs : List Loc) (ls : Array Slot), lp_X7_circleCount_35 o_me o_me_court_isles rec_4_0 rec_19_1 N (v1, v2, v3, v4) = some y → Wd dC dI A s.heap [wX7 h_me h_me_court h_me_court_isles q_me k_me o_me, wX2 h_me_court_isles h_me_court_isles_now q_me_court_isles k_me_court_isles o_me_court_isles] H locs → lv_has ls 5 [(0, .ref h_me), (1, .int v1), (2, .int v2), (3, .int v3), (4, .int v4)] → W p l e ({ frames := 1, cells := 0, slots := 0, locals := 23 } : Room) s m ([.ref h_me] : List Value).toArray below meth c H locs 0 0 Qz (F0 m 35 ls []) := by
    intro rec_4_0 hrec_4_0 rec_19_1 hrec_19_1
    intro N
    induction N with
    | zero =>
      intro v1 v2 v3 v4 H locs ls h hw hl
      exact absurd (show (none : Option (Int32)) = some y from h) (by simp)
    | succ N ih =>
      intro v1 v2 v3 v4 H locs ls h hw hl
      have h : lb_X7_circleCount_35 o_me o_me_court_isles rec_4_0 rec_19_1 (lp_X7_circleCount_35 o_me o_me_court_isles rec_4_0 rec_19_1 N) v1 v2 v3 v4 = some y := h
      unfold lb_X7_circleCount_35 at h
      refine lv_iload hx hb dX7_circleCount_35 (lv_at hl 4 rfl) ?_
      refine lv_aload_n hx hb dX7_circleCount_37 rfl (lv_at hl 0 rfl) ?_
      refine fgX7_1 hx hb hts hown hK hw 0 rfl kw387 dX7_circleCount_38 ?_
      refine fgX2_7 hx hb hts hown hK hw 1 rfl kw316 dX7_circleCount_41 ?_
      refine lv_icmp_ge (tgt := 78) hx hb dX7_circleCount_44 (by decide) (fun c => ?_) (fun c => ?_)
      · have h := z_t h c
        obtain ⟨x4, ex4, h⟩ := z_lt h
        refine lv_iinc (v := x4) (lv' := [(3, .int x4), (0, .ref h_me), (1, .int v1), (2, .int v2), (4, .int v4)]) hx hb dX7_circleCount_78 hl (k := 3) rfl ((congrArg (v3 + ·) (show Int32.ofInt 1 = (1 : Int32) from by decide)).trans ex4.symm) (by decide) rfl (fun ls hl => ?_)
        refine lv_goto (tgt := 19) hx hb dX7_circleCount_81 (by decide) ?_
        exact hrec_19_1 v1 v2 x4 _ _ _ h hw (lv_sub hl [1, 2, 3, 0] rfl)
      · have h := z_f h c
        refine lv_aload_n hx hb dX7_circleCount_47 rfl (lv_at hl 0 rfl) ?_
        refine lv_iload_n hx hb dX7_circleCount_48 rfl (lv_at hl 2 rfl) ?_
        refine lv_iload_n hx hb dX7_circleCount_49 rfl (lv_at hl 3 rfl) ?_
        refine lv_iload hx hb dX7_circleCount_50 (lv_at hl 4 rfl) ?_
        obtain ⟨z5, ez5, h⟩ := z_bd h
        refine xj_i (xrV (As := [.int v2, .int v3, .int v4]) (rest := []) ⟨hx, hb, hml, hown, hts⟩ (m_X7_isCircle l dC dI _ h_me h_me_court h_me_court_isles h_me_court_isles_now q_me k_me q_me_court_isles k_me_court_isles o_me o_me_court_isles v2 v3 v4 z5 ez5) kw1037 kw1034 kw1036 kw33 kw118 hd_X7_isCircle ⟨rfl, rfl⟩ rfl rfl ⟨rfl, rfl⟩ hX hK hw [0, 1] (by decide) rfl rfl rfl rfl rfl hl.1 rfl rfl dX7_circleCount_52) hw hA [0, 1] (by decide) rfl rfl (fun H locs hw => ?_)
        have hw : Wd dC dI A s.heap [wX7 h_me h_me_court h_me_court_isles q_me k_me o_me, wX2 h_me_court_isles h_me_court_isles_now q_me_court_isles k_me_court_isles o_me_court_isles] H locs := hw
        refine lv_if_ne (tgt := 69) hx hb dX7_circleCount_55 (by decide) (fun c => ?_) (fun c => ?_)
        · have h := z_f h c
          exact bk_69_3 rec_4_0 hrec_4_0 rec_19_1 hrec_19_1 (lp_X7_circleCount_35 o_me o_me_court_isles rec_4_0 rec_19_1 N) ih v1 v2 v3 v4 _ _ _ h hw (lv_sub hl [0, 1, 2, 3, 4] rfl)
        · have h := z_t h c
          refine lv_aload_n hx hb dX7_circleCount_58 rfl (lv_at hl 0 rfl) ?_
          refine lv_iload_n hx hb dX7_circleCount_59 rfl (lv_at hl 2 rfl) ?_
          refine lv_iload hx hb dX7_circleCount_60 (lv_at hl 4 rfl) ?_
          refine lv_iload_n hx hb dX7_circleCount_62 rfl (lv_at hl 3 rfl) ?_
          obtain ⟨z8, ez8, h⟩ := z_bd h
          refine xj_i (xrV (As := [.int v2, .int v4, .int v3]) (rest := []) ⟨hx, hb, hml, hown, hts⟩ (m_X7_isCircle l dC dI _ h_me h_me_court h_me_court_isles h_me_court_isles_now q_me k_me q_me_court_isles k_me_court_isles o_me o_me_court_isles v2 v4 v3 z8 ez8) kw1037 kw1034 kw1036 kw33 kw118 hd_X7_isCircle ⟨rfl, rfl⟩ rfl rfl ⟨rfl, rfl⟩ hX hK hw [0, 1] (by decide) rfl rfl rfl rfl rfl hl.1 rfl rfl dX7_circleCount_63) hw hA [0, 1] (by decide) rfl rfl (fun H locs hw => ?_)
          have hw : Wd dC dI A s.heap [wX7 h_me h_me_court h_me_court_isles q_me k_me o_me, wX2 h_me_court_isles h_me_court_isles_now q_me_court_isles k_me_court_isles o_me_court_isles] H locs := hw
          refine lv_if_eq (tgt := 72) hx hb dX7_circleCount_66 (by decide) (fun c => ?_) (fun c => ?_)
          · have h := z_t h c
            exact bk_72_4 rec_4_0 hrec_4_0 rec_19_1 hrec_19_1 (lp_X7_circleCount_35 o_me o_me_court_isles rec_4_0 rec_19_1 N) ih v1 v2 v3 v4 _ _ _ h hw (lv_sub hl [0, 1, 2, 3, 4] rfl)
          · have h := z_f h c
            exact bk_69_3 rec_4_0 hrec_4_0 rec_19_1 hrec_19_1 (lp_X7_circleCount_35 o_me o_me_court_isles rec_4_0 rec_19_1 N) ih v1 v2 v3 v4 _ _ _ h hw (lv_sub hl [0, 1, 2, 3, 4] rfl)
  have lp_19_1 : ∀ (rec_4_0 : Int32 × Int32 → Option (Int32)) (hrec_4_0 : ∀ (v1 : Int32) (v2 : Int32) (H : Heap) (locs : List Loc) (ls : Array Slot), rec_4_0 (v1, v2) = some y → Wd dC dI A s.heap [wX7 h_me h_me_court h_me_court_isles q_me k_me o_me, wX2 h_me_court_isles h_me_court_isles_now q_me_court_isles k_me_court_isles o_me_court_isles] H locs → lv_has ls 5 [(0, .ref h_me), (1, .int v1), (2, .int v2)] → W p l e ({ frames := 1, cells := 0, slots := 0, locals := 23 } : Room) s m ([.ref h_me] : List Value).toArray below meth c H locs 0 0 Qz (F0 m 4 ls [])) (N : Nat), ∀ (v1 : Int32) (v2 : Int32) (v3 : Int32) (H : Heap) (locs : List Loc) (ls : Array Slot), lp_X7_circleCount_19 o_me o_me_court_isles rec_4_0 N (v1, v2, v3) = some y → Wd dC dI A s.heap [wX7 h_me h_me_court h_me_court_isles q_me k_me o_me, wX2 h_me_court_isles h_me_court_isles_now q_me_court_isles k_me_court_isles o_me_court_isles] H locs → lv_has ls 5 [(0, .ref h_me), (1, .int v1), (2, .int v2), (3, .int v3)] → W p l e ({ frames := 1, cells := 0, slots := 0, locals := 23 } : Room) s m ([.ref h_me] : List Value).toArray below meth c H locs 0 0 Qz (F0 m 19 ls []) := by
    intro rec_4_0 hrec_4_0
    intro N
    induction N with
    | zero =>
      intro v1 v2 v3 H locs ls h hw hl
      exact absurd (show (none : Option (Int32)) = some y from h) (by simp)
    | succ N ih =>
      intro v1 v2 v3 H locs ls h hw hl
      have h : lb_X7_circleCount_19 o_me o_me_court_isles rec_4_0 (lp_X7_circleCount_19 o_me o_me_court_isles rec_4_0 N) v1 v2 v3 = some y := h
      unfold lb_X7_circleCount_19 at h
      refine lv_iload_n hx hb dX7_circleCount_19 rfl (lv_at hl 3 rfl) ?_
      refine lv_aload_n hx hb dX7_circleCount_20 rfl (lv_at hl 0 rfl) ?_
      refine fgX7_1 hx hb hts hown hK hw 0 rfl kw387 dX7_circleCount_21 ?_
      refine fgX2_7 hx hb hts hown hK hw 1 rfl kw316 dX7_circleCount_24 ?_
      refine lv_icmp_ge (tgt := 84) hx hb dX7_circleCount_27 (by decide) (fun c => ?_) (fun c => ?_)
      · have h := z_t h c
        obtain ⟨x2, ex2, h⟩ := z_lt h
        refine lv_iinc (v := x2) (lv' := [(2, .int x2), (0, .ref h_me), (1, .int v1), (3, .int v3)]) hx hb dX7_circleCount_84 hl (k := 2) rfl ((congrArg (v2 + ·) (show Int32.ofInt 1 = (1 : Int32) from by decide)).trans ex2.symm) (by decide) rfl (fun ls hl => ?_)
        refine lv_goto (tgt := 4) hx hb dX7_circleCount_87 (by decide) ?_
        exact hrec_4_0 v1 x2 _ _ _ h hw (lv_sub hl [1, 2, 0] rfl)
      · have h := z_f h c
        refine lv_iload_n hx hb dX7_circleCount_30 rfl (lv_at hl 3 rfl) ?_
        refine lv_iconst (v := 1) hx hb dX7_circleCount_31 (by decide) ?_
        refine lv_iadd hx hb dX7_circleCount_32 ?_
        obtain ⟨x3, ex3, h⟩ := z_lt h
        refine lv_fi (v := x3) ex3.symm ?_
        refine lv_istore (lv' := [(4, .int x3), (0, .ref h_me), (1, .int v1), (2, .int v2), (3, .int v3)]) hx hb dX7_circleCount_33 hl (by decide) rfl (fun ls hl => ?_)
        exact lp_35_2 rec_4_0 hrec_4_0 (lp_X7_circleCount_19 o_me o_me_court_isles rec_4_0 N) ih zfu v1 v2 v3 x3 _ _ _ h hw (lv_sub hl [1, 2, 3, 4, 0] rfl)
  have lp_4_0 : ∀ (N : Nat), ∀ (v1 : Int32) (v2 : Int32) (H : Heap) (locs : List Loc) (ls : Array Slot), lp_X7_circleCount_4 o_me o_me_court_isles  N (v1, v2) = some y → Wd dC dI A s.heap [wX7 h_me h_me_court h_me_court_isles q_me k_me o_me, wX2 h_me_court_isles h_me_court_isles_now q_me_court_isles k_me_court_isles o_me_court_isles] H locs → lv_has ls 5 [(0, .ref h_me), (1, .int v1), (2, .int v2)] → W p l e ({ frames := 1, cells := 0, slots := 0, locals := 23 } : Room) s m ([.ref h_me] : List Value).toArray below meth c H locs 0 0 Qz (F0 m 4 ls []) := by
    intro N
    induction N with
    | zero =>
      intro v1 v2 H locs ls h hw hl
      exact absurd (show (none : Option (Int32)) = some y from h) (by simp)
    | succ N ih =>
      intro v1 v2 H locs ls h hw hl
      have h : lb_X7_circleCount_4 o_me o_me_court_isles  (lp_X7_circleCount_4 o_me o_me_court_isles  N) v1 v2 = some y := h
      unfold lb_X7_circleCount_4 at h
      refine lv_iload_n hx hb dX7_circleCount_4 rfl (lv_at hl 2 rfl) ?_
      refine lv_aload_n hx hb dX7_circleCount_5 rfl (lv_at hl 0 rfl) ?_
      refine fgX7_1 hx hb hts hown hK hw 0 rfl kw387 dX7_circleCount_6 ?_
      refine fgX2_7 hx hb hts hown hK hw 1 rfl kw316 dX7_circleCount_9 ?_
      refine lv_icmp_ge (tgt := 90) hx hb dX7_circleCount_12 (by decide) (fun c => ?_) (fun c => ?_)
      · have h := z_t h c
        refine lv_iload_n hx hb dX7_circleCount_90 rfl (lv_at hl 1 rfl) ?_
        have hy := Option.some.inj h
        rw [← hQz, ← hy]
        exact xr_i (v := v1) hx hb hr rfl hlk hK hw dX7_circleCount_91
      · have h := z_f h c
        refine lv_iload_n hx hb dX7_circleCount_15 rfl (lv_at hl 2 rfl) ?_
        refine lv_iconst (v := 1) hx hb dX7_circleCount_16 (by decide) ?_
        refine lv_iadd hx hb dX7_circleCount_17 ?_
        obtain ⟨x1, ex1, h⟩ := z_lt h
        refine lv_fi (v := x1) ex1.symm ?_
        refine lv_istore_n (lv' := [(3, .int x1), (0, .ref h_me), (1, .int v1), (2, .int v2)]) hx hb dX7_circleCount_18 rfl hl (by decide) rfl (fun ls hl => ?_)
        exact lp_19_1 (lp_X7_circleCount_4 o_me o_me_court_isles  N) ih zfu v1 v2 x1 _ _ _ h hw (lv_sub hl [1, 2, 3, 0] rfl)
  unfold f_X7_circleCount at h
  refine lv_iconst (v := 0) hx hb dX7_circleCount_0 (by decide) ?_
  refine lv_istore_n (lv' := [(1, .int (0 : Int32)), (0, .ref h_me)]) hx hb dX7_circleCount_1 rfl hl (by decide) rfl (fun ls hl => ?_)
  refine lv_iconst (v := 0) hx hb dX7_circleCount_2 (by decide) ?_
  refine lv_istore_n (lv' := [(2, .int (0 : Int32)), (1, .int (0 : Int32)), (0, .ref h_me)]) hx hb dX7_circleCount_3 rfl hl (by decide) rfl (fun ls hl => ?_)
  exact lp_4_0  zfu (0 : Int32) (0 : Int32) _ _ _ h hw (lv_sub hl [2, 1, 0] rfl)

