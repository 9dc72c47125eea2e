def bk_X8_look_28 (o_me : Ob) (o_me_isles : Ob) (o_me_isles_now : Ob) (o_me_court : Ob) (o_pool : List CR)  (v2 : Int32) (o_me_machine : Ob) (o_me_study : Ob) : Option (Int32 × Ob × Ob) :=
  some (v2, o_me_machine, o_me_study)
def f_X8_look (o_me : Ob) (o_me_machine : Ob) (o_me_isles : Ob) (o_me_isles_now : Ob) (o_me_court : Ob) (o_me_study : Ob) (o_pool : List CR) (p0 : Int32) : Option (Int32 × Ob × Ob) :=
  if p0 < (0 : Int32) then
  (some ((-1 : Int32), o_me_machine, o_me_study))
  else
  (if p0 ≤ (1 : Int32) then
  ((f_X7_raceToWatch o_me_study o_me_court o_me_isles o_me_isles_now o_me_machine o_pool).bind fun z1 =>
  if p0 = (0 : Int32) then
  (bk_X8_look_28 o_me o_me_isles o_me_isles_now o_me_court o_pool  z1.1 z1.2.2 z1.2.1)
  else
  (if z1.1 = (-1 : Int32) then
  (bk_X8_look_28 o_me o_me_isles o_me_isles_now o_me_court o_pool  z1.1 z1.2.2 z1.2.1)
  else
  (some (gI z1.2.1 9, z1.2.2, z1.2.1))))
  else
  (some ((-1 : Int32), o_me_machine, o_me_study)))
set_option maxHeartbeats 4000000 in
set_option maxRecDepth 100000 in
theorem m_X8_look (l : Launch) (dC : Nat → ClassId) (dI : Nat → Nat → Nat) (sz : Nat) (h_me : Nat) (h_me_reader : Nat) (h_me_machine : Nat) (h_me_isles : Nat) (h_me_court : Nat) (h_me_study : Nat) (h_me_paper : Nat) (h_me_paperCourt : Nat) (h_me_past : Nat) (h_me_pastAhead : Nat) (h_me_movingAhead : Nat) (h_me_isles_now : Nat) (q_me : Nat → Nat) (k_me : Nat → ClassId) (q_me_machine : Nat → Nat) (k_me_machine : Nat → ClassId) (q_me_isles : Nat → Nat) (k_me_isles : Nat → ClassId) (q_me_isles_now : Nat → Nat) (k_me_isles_now : Nat → ClassId) (q_me_court : Nat → Nat) (k_me_court : Nat → ClassId) (q_me_study : Nat → Nat) (k_me_study : Nat → ClassId) (o_me : Ob) (o_me_machine : Ob) (o_me_isles : Ob) (o_me_isles_now : Ob) (o_me_court : Ob) (o_me_study : Ob) (o_pool : List CR) (p0 : Int32) (y : Int32 × Ob × Ob) (h : f_X8_look o_me o_me_machine o_me_isles o_me_isles_now o_me_court o_me_study o_pool p0 = some y) : CI l yX8_look cX8_look 3 (some .int) ({ frames := 7, cells := 0, slots := 0, locals := 177 } : Room) dC dI sz [.ref h_me, .int p0] [wX8 h_me h_me_reader h_me_machine h_me_isles h_me_court h_me_study h_me_paper h_me_paperCourt h_me_past h_me_pastAhead h_me_movingAhead q_me k_me o_me, wX3 h_me_machine q_me_machine k_me_machine o_me_machine, wX2 h_me_isles h_me_isles_now q_me_isles k_me_isles o_me_isles, wX4 h_me_isles_now q_me_isles_now k_me_isles_now o_me_isles_now, wX1 h_me_court h_me_isles h_me_machine q_me_court k_me_court o_me_court, wX7 h_me_study h_me_court h_me_isles q_me_study k_me_study o_me_study, wPL o_pool] [tX8 k_me, tX3 k_me_machine, tX2 k_me_isles, tX4 k_me_isles_now, tX1 k_me_court, tX7 k_me_study, tPL o_pool] y.1 [wX8 h_me h_me_reader h_me_machine h_me_isles h_me_court h_me_study h_me_paper h_me_paperCourt h_me_past h_me_pastAhead h_me_movingAhead q_me k_me o_me, wX3 h_me_machine q_me_machine k_me_machine y.2.1, wX2 h_me_isles h_me_isles_now q_me_isles k_me_isles o_me_isles, wX4 h_me_isles_now q_me_isles_now k_me_isles_now o_me_isles_now, wX1 h_me_court h_me_isles h_me_machine q_me_court k_me_court o_me_court, wX7 h_me_study h_me_court h_me_isles q_me_study k_me_study y.2.2, wPL o_pool] := by
  refine CC_of (by decide) (Nat.le_of_ble_eq_true rfl) ?_
  intro p e s m below meth c A ls hx hb hml hr hlk hnm hown hts hX hK hP hD hA hl
  have hl : lv_has ls 3 [(0, .ref h_me), (1, .int p0)] := hl
  have hown : s.vm.findClass RX8 = some m.cls := hown
  have hw : Wd dC dI A s.heap [wX8 h_me h_me_reader h_me_machine h_me_isles h_me_court h_me_study h_me_paper h_me_paperCourt h_me_past h_me_pastAhead h_me_movingAhead q_me k_me o_me, wX3 h_me_machine q_me_machine k_me_machine o_me_machine, wX2 h_me_isles h_me_isles_now q_me_isles k_me_isles o_me_isles, wX4 h_me_isles_now q_me_isles_now k_me_isles_now o_me_isles_now, wX1 h_me_court h_me_isles h_me_machine q_me_court k_me_court o_me_court, wX7 h_me_study h_me_court h_me_isles q_me_study k_me_study o_me_study, wPL o_pool] s.heap [] := ⟨hP, hD, va_S.rf⟩
  generalize hQz : (MQ below (QI dC dI (fun r (_ : Unit) => r = y.1) (fun _ => Jn [wX8 h_me h_me_reader h_me_machine h_me_isles h_me_court h_me_study h_me_paper h_me_paperCourt h_me_past h_me_pastAhead h_me_movingAhead q_me k_me o_me, wX3 h_me_machine q_me_machine k_me_machine y.2.1, wX2 h_me_isles h_me_isles_now q_me_isles k_me_isles o_me_isles, wX4 h_me_isles_now q_me_isles_now k_me_isles_now o_me_isles_now, wX1 h_me_court h_me_isles h_me_machine q_me_court k_me_court o_me_court, wX7 h_me_study h_me_court h_me_isles q_me_study k_me_study y.2.2, wPL o_pool]) (fun _ => Jt [tX8 k_me, tX3 k_me_machine, tX2 k_me_isles, tX4 k_me_isles_now, tX1 k_me_court, tX7 k_me_study, tPL o_pool]) A) ([.ref h_me, .int p0] : List Value).toArray s 0 0 A) = Qz
  clear hP hD hnm
  have bk_28_0 : ∀ (v2 : Int32) (o_me_machine : Ob) (o_me_study : Ob) (H : Heap) (locs : List Loc) (ls : Array Slot), bk_X8_look_28 o_me o_me_isles o_me_isles_now o_me_court o_pool  v2 o_me_machine o_me_study = some y → Wd dC dI A s.heap [wX8 h_me h_me_reader h_me_machine h_me_isles h_me_court h_me_study h_me_paper h_me_paperCourt h_me_past h_me_pastAhead h_me_movingAhead q_me k_me o_me, wX3 h_me_machine q_me_machine k_me_machine o_me_machine, wX2 h_me_isles h_me_isles_now q_me_isles k_me_isles o_me_isles, wX4 h_me_isles_now q_me_isles_now k_me_isles_now o_me_isles_now, wX1 h_me_court h_me_isles h_me_machine q_me_court k_me_court o_me_court, wX7 h_me_study h_me_court h_me_isles q_me_study k_me_study o_me_study, wPL o_pool] H locs → lv_has ls 3 [(2, .int v2)] → W p l e ({ frames := 7, cells := 0, slots := 0, locals := 177 } : Room) s m ([.ref h_me, .int p0] : List Value).toArray below meth c H locs 0 0 Qz (F0 m 28 ls []) := by
    intro v2 o_me_machine o_me_study H locs ls h hw hl
    unfold bk_X8_look_28 at h
    refine lv_iload_n hx hb dX8_look_28 rfl (lv_at hl 0 rfl) ?_
    refine lv_goto (tgt := 39) hx hb dX8_look_29 (by decide) ?_
    have hy := Option.some.inj h
    rw [← hQz, ← hy]
    exact xr_i (v := v2) hx hb hr rfl hlk hK hw dX8_look_39
  unfold f_X8_look at h
  refine lv_iload_n hx hb dX8_look_0 rfl (lv_at hl 1 rfl) ?_
  refine lv_if_lt (tgt := 9) hx hb dX8_look_1 (by decide) (fun c => ?_) (fun c => ?_)
  · have h := z_t h c
    refine lv_iconst (v := (-1)) hx hb dX8_look_9 (by decide) ?_
    have hy := Option.some.inj h
    rw [← hQz, ← hy]
    exact xr_i (v := (-1 : Int32)) hx hb hr rfl hlk hK hw dX8_look_10
  · have h := z_f h c
    refine lv_iload_n hx hb dX8_look_4 rfl (lv_at hl 1 rfl) ?_
    refine lv_iconst (v := 1) hx hb dX8_look_5 (by decide) ?_
    refine lv_icmp_le (tgt := 11) hx hb dX8_look_6 (by decide) (fun c => ?_) (fun c => ?_)
    · have h := z_t h c
      refine lv_aload_n hx hb dX8_look_11 rfl (lv_at hl 0 rfl) ?_
      refine fgX8_4 hx hb hts hown hK hw 0 rfl kw446 dX8_look_12 ?_
      obtain ⟨z1, ez1, h⟩ := z_bd h
      refine xj_i (xrV (As := []) (rest := []) ⟨hx, hb, hml, hown, hts⟩ (m_X7_raceToWatch l dC dI _ h_me_study h_me_court h_me_isles h_me_machine h_me_isles_now q_me_study k_me_study q_me_court k_me_court q_me_isles k_me_isles q_me_isles_now k_me_isles_now q_me_machine k_me_machine o_me_study o_me_court o_me_isles o_me_isles_now o_me_machine o_pool z1 ez1) kw999 kw996 kw997 kw998 kw118 hd_X7_raceToWatch ⟨rfl, rfl⟩ rfl rfl ⟨rfl, rfl⟩ hX hK hw [5, 4, 2, 3, 1, 6] (by decide) rfl rfl rfl rfl rfl hl.1 rfl rfl dX8_look_15) hw hA [5, 4, 2, 3, 1, 6] (by decide) rfl rfl (fun H locs hw => ?_)
      have hw : Wd dC dI A s.heap [wX8 h_me h_me_reader h_me_machine h_me_isles h_me_court h_me_study h_me_paper h_me_paperCourt h_me_past h_me_pastAhead h_me_movingAhead q_me k_me o_me, wX3 h_me_machine q_me_machine k_me_machine z1.2.2, wX2 h_me_isles h_me_isles_now q_me_isles k_me_isles o_me_isles, wX4 h_me_isles_now q_me_isles_now k_me_isles_now o_me_isles_now, wX1 h_me_court h_me_isles h_me_machine q_me_court k_me_court o_me_court, wX7 h_me_study h_me_court h_me_isles q_me_study k_me_study z1.2.1, wPL o_pool] H locs := hw
      refine lv_istore_n (lv' := [(2, .int z1.1), (0, .ref h_me), (1, .int p0)]) hx hb dX8_look_18 rfl hl (by decide) rfl (fun ls hl => ?_)
      refine lv_iload_n hx hb dX8_look_19 rfl (lv_at hl 2 rfl) ?_
      refine lv_if_eq (tgt := 28) hx hb dX8_look_20 (by decide) (fun c => ?_) (fun c => ?_)
      · have h := z_t h c
        exact bk_28_0  z1.1 z1.2.2 z1.2.1 _ _ _ h hw (lv_sub hl [0] rfl)
      · have h := z_f h c
        refine lv_iload_n hx hb dX8_look_23 rfl (lv_at hl 0 rfl) ?_
        refine lv_iconst (v := (-1)) hx hb dX8_look_24 (by decide) ?_
        refine lv_icmp_ne (tgt := 32) hx hb dX8_look_25 (by decide) (fun c => ?_) (fun c => ?_)
        · have h := z_f h c
          refine lv_aload_n hx hb dX8_look_32 rfl (lv_at hl 1 rfl) ?_
          refine fgX8_4 hx hb hts hown hK hw 0 rfl kw446 dX8_look_33 ?_
          refine fgX7_9 hx hb hts hown hK hw 5 rfl kw397 dX8_look_36 ?_
          have hy := Option.some.inj h
          rw [← hQz, ← hy]
          exact xr_i (v := gI z1.2.1 9) hx hb hr rfl hlk hK hw dX8_look_39
        · have h := z_t h c
          exact bk_28_0  z1.1 z1.2.2 z1.2.1 _ _ _ h hw (lv_sub hl [0] rfl)
    · have h := z_f h c
      refine lv_iconst (v := (-1)) hx hb dX8_look_9 (by decide) ?_
      have hy := Option.some.inj h
      rw [← hQz, ← hy]
      exact xr_i (v := (-1 : Int32)) hx hb hr rfl hlk hK hw dX8_look_10

def bk_X7_neverSecond_69 (o_me_court : Ob) (o_me_court_isles : Ob) (o_me_court_isles_now : Ob) (o_pool : List CR) (rec_14_0 : Int32 × Int32 × Ob × Ob → Option (Int32 × Ob × Ob)) (rec_26_1 : Int32 × Int32 × Int32 × Ob × Ob → Option (Int32 × Ob × Ob)) (v1 : Int32) (v2 : Int32) (v3 : Int32) (o_me : Ob) (o_me_court_machine : Ob) : Option (Int32 × Ob × Ob) :=
  zlt (v3 + (1 : Int32)) fun x5 =>
  rec_26_1 (v1, v2, x5, o_me, o_me_court_machine)
def lb_X7_neverSecond_26 (o_me_court : Ob) (o_me_court_isles : Ob) (o_me_court_isles_now : Ob) (o_pool : List CR) (rec_14_0 : Int32 × Int32 × Ob × Ob → Option (Int32 × Ob × Ob)) (rec_26_1 : Int32 × Int32 × Int32 × Ob × Ob → Option (Int32 × Ob × Ob)) (v1 : Int32) (v2 : Int32) (v3 : Int32) (o_me : Ob) (o_me_court_machine : Ob) : Option (Int32 × Ob × Ob) :=
  if (gI o_me_court_isles 7) ≤ v3 then
  (zlt (v2 + (1 : Int32)) fun x3 =>
  rec_14_0 (v1, x3, o_me, o_me_court_machine))
  else
  (zgd (zin ((v2 * (7 : Int32)) + v3) 28) <|
  if (gA o_me 5 ((v2 * (7 : Int32)) + v3).toNatClampNeg) = (-1 : Int32) then
  (bk_X7_neverSecond_69 o_me_court o_me_court_isles o_me_court_isles_now o_pool rec_14_0 rec_26_1 v1 v2 v3 o_me o_me_court_machine)
  else
  ((f_X7_aheadOf o_me o_me_court_isles v3 v2).bind fun z6 =>
  if z6 = (0 : Int32) then
  (bk_X7_neverSecond_69 o_me_court o_me_court_isles o_me_court_isles_now o_pool rec_14_0 rec_26_1 v1 v2 v3 o_me o_me_court_machine)
  else
  (zlt (v1 &&& (((1 : Int32) <<< (v3 &&& 31)) ^^^ (-1 : Int32))) fun x7 =>
  bk_X7_neverSecond_69 o_me_court o_me_court_isles o_me_court_isles_now o_pool rec_14_0 rec_26_1 x7 v2 v3 o_me o_me_court_machine)))
def lp_X7_neverSecond_26 (o_me_court : Ob) (o_me_court_isles : Ob) (o_me_court_isles_now : Ob) (o_pool : List CR) (rec_14_0 : Int32 × Int32 × Ob × Ob → Option (Int32 × Ob × Ob)) : Nat → (Int32 × Int32 × Int32 × Ob × Ob) → Option (Int32 × Ob × Ob) := zit (fun rec a => lb_X7_neverSecond_26 o_me_court o_me_court_isles o_me_court_isles_now o_pool rec_14_0 rec a.1 a.2.1 a.2.2.1 a.2.2.2.1 a.2.2.2.2)
def lb_X7_neverSecond_14 (o_me_court : Ob) (o_me_court_isles : Ob) (o_me_court_isles_now : Ob) (o_pool : List CR)  (rec_14_0 : Int32 × Int32 × Ob × Ob → Option (Int32 × Ob × Ob)) (v1 : Int32) (v2 : Int32) (o_me : Ob) (o_me_court_machine : Ob) : Option (Int32 × Ob × Ob) :=
  if (4 : Int32) ≤ v2 then
  (some (v1, o_me, o_me_court_machine))
  else
  ((f_X7_setScores o_me o_me_court o_me_court_isles o_me_court_isles_now o_me_court_machine o_pool v2).bind fun z2 =>
  lp_X7_neverSecond_26 o_me_court o_me_court_isles o_me_court_isles_now o_pool rec_14_0 zfu (v1, v2, (0 : Int32), z2.1, z2.2))
def lp_X7_neverSecond_14 (o_me_court : Ob) (o_me_court_isles : Ob) (o_me_court_isles_now : Ob) (o_pool : List CR)  : Nat → (Int32 × Int32 × Ob × Ob) → Option (Int32 × Ob × Ob) := zit (fun rec a => lb_X7_neverSecond_14 o_me_court o_me_court_isles o_me_court_isles_now o_pool  rec a.1 a.2.1 a.2.2.1 a.2.2.2)
def f_X7_neverSecond (o_me : Ob) (o_me_court : Ob) (o_me_court_isles : Ob) (o_me_court_isles_now : Ob) (o_me_court_machine : Ob) (o_pool : List CR) : Option (Int32 × Ob × Ob) :=
  zlt (((1 : Int32) <<< ((gI o_me_court_isles 7) &&& 31)) - (1 : Int32)) fun x1 =>
  lp_X7_neverSecond_14 o_me_court o_me_court_isles o_me_court_isles_now o_pool  zfu (x1, (0 : Int32), o_me, o_me_court_machine)
set_option maxHeartbeats 4000000 in
set_option maxRecDepth 100000 in
theorem m_X7_neverSecond (l : Launch) (dC : Nat → ClassId) (dI : Nat → Nat → Nat) (sz : Nat) (h_me : Nat) (h_me_court : Nat) (h_me_court_isles : Nat) (h_me_court_machine : Nat) (h_me_court_isles_now : Nat) (q_me : Nat → Nat) (k_me : Nat → ClassId) (q_me_court : Nat → Nat) (k_me_court : Nat → ClassId) (q_me_court_isles : Nat → Nat) (k_me_court_isles : Nat → ClassId) (q_me_court_isles_now : Nat → Nat) (k_me_court_isles_now : Nat → ClassId) (q_me_court_machine : Nat → Nat) (k_me_court_machine : Nat → ClassId) (o_me : Ob) (o_me_court : Ob) (o_me_court_isles : Ob) (o_me_court_isles_now : Ob) (o_me_court_machine : Ob) (o_pool : List CR) (y : Int32 × Ob × Ob) (h : f_X7_neverSecond o_me o_me_court o_me_court_isles o_me_court_isles_now o_me_court_machine o_pool = some y) : CI l yX7_neverSecond cX7_neverSecond 4 (some .int) ({ frames := 5, cells := 0, slots := 0, locals := 132 } : Room) dC dI sz [.ref h_me] [wX7 h_me h_me_court h_me_court_isles q_me k_me o_me, wX1 h_me_court h_me_court_isles h_me_court_machine q_me_court k_me_court o_me_court, wX2 h_me_court_isles h_me_court_isles_now q_me_court_isles k_me_court_isles o_me_court_isles, wX4 h_me_court_isles_now q_me_court_isles_now k_me_court_isles_now o_me_court_isles_now, wX3 h_me_court_machine q_me_court_machine k_me_court_machine o_me_court_machine, wPL o_pool] [tX7 k_me, tX1 k_me_court, tX2 k_me_court_isles, tX4 k_me_court_isles_now, tX3 k_me_court_machine, tPL o_pool] y.1 [wX7 h_me h_me_court h_me_court_isles q_me k_me y.2.1, wX1 h_me_court h_me_court_isles h_me_court_machine q_me_court k_me_court o_me_court, wX2 h_me_court_isles h_me_court_isles_now q_me_court_isles k_me_court_isles o_me_court_isles, wX4 h_me_court_isles_now q_me_court_isles_now k_me_court_isles_now o_me_court_isles_now, wX3 h_me_court_machine q_me_court_machine k_me_court_machine y.2.2, wPL o_pool] := by
  refine CC_of (by decide) (Nat.le_of_ble_eq_true rfl) ?_
  intro p e s m below meth c A ls hx hb hml hr hlk hnm hown hts hX hK hP hD hA hl
  have hl : lv_has ls 4 [(0, .ref h_me)] := hl
  have hown : s.vm.findClass RX7 = some m.cls := hown
  have hw : Wd dC dI A s.heap [wX7 h_me h_me_court h_me_court_isles q_me k_me o_me, wX1 h_me_court h_me_court_isles h_me_court_machine q_me_court k_me_court o_me_court, wX2 h_me_court_isles h_me_court_isles_now q_me_court_isles k_me_court_isles o_me_court_isles, wX4 h_me_court_isles_now q_me_court_isles_now k_me_court_isles_now o_me_court_isles_now, wX3 h_me_court_machine q_me_court_machine k_me_court_machine o_me_court_machine, wPL o_pool] s.heap [] := ⟨hP, hD, va_S.rf⟩
  generalize hQz : (MQ below (QI dC dI (fun r (_ : Unit) => r = y.1) (fun _ => Jn [wX7 h_me h_me_court h_me_court_isles q_me k_me y.2.1, wX1 h_me_court h_me_court_isles h_me_court_machine q_me_court k_me_court o_me_court, wX2 h_me_court_isles h_me_court_isles_now q_me_court_isles k_me_court_isles o_me_court_isles, wX4 h_me_court_isles_now q_me_court_isles_now k_me_court_isles_now o_me_court_isles_now, wX3 h_me_court_machine q_me_court_machine k_me_court_machine y.2.2, wPL o_pool]) (fun _ => Jt [tX7 k_me, tX1 k_me_court, tX2 k_me_court_isles, tX4 k_me_court_isles_now, tX3 k_me_court_machine, tPL o_pool]) A) ([.ref h_me] : List Value).toArray s 0 0 A) = Qz
  clear hP hD hnm
  have bk_69_2 : ∀ (rec_14_0 : Int32 × Int32 × Ob × Ob → Option (Int32 × Ob × Ob)) (hrec_14_0 : ∀ (v1 : Int32) (v2 : Int32) (o_me : Ob) (o_me_court_machine : Ob) (H : Heap) (locs : List Loc) (ls : Array Slot), rec_14_0 (v1, v2, o_me, o_me_court_machine) = some y → Wd dC dI A s.heap [wX7 h_me h_me_court h_me_court_isles q_me k_me o_me, wX1 h_me_court h_me_court_isles h_me_court_machine q_me_court k_me_court o_me_court, wX2 h_me_court_isles h_me_court_isles_now q_me_court_isles k_me_court_isles o_me_court_isles, wX4 h_me_court_isles_now q_me_court_isles_now k_me_court_isles_now o_me_court_isles_now, wX3 h_me_court_machine q_me_court_machine k_me_court_machine o_me_court_machine, wPL o_pool] H locs → lv_has ls 4 [(0, .ref h_me), (1, .int v1), (2, .int v2)] → W p l e ({ frames := 5, cells := 0, slots := 0, locals := 132 } : Room) s m ([.ref h_me] : List Value).toArray below meth c H locs 0 0 Qz (F0 m 14 ls [])) (rec_26_1 : Int32 × Int32 × Int32 × Ob × Ob → Option (Int32 × Ob × Ob)) (hrec_26_1 : ∀ (v1 : Int32) (v2 : Int32) (v3 : Int32) (o_me : Ob) (o_me_court_machine : Ob) (H : Heap) (locs : List Loc) (ls : Array Slot), rec_26_1 (v1, v2, v3, o_me, o_me_court_machine) = some y → Wd dC dI A s.heap [wX7 h_me h_me_court h_me_court_isles q_me k_me o_me, wX1 h_me_court h_me_court_isles h_me_court_machine q_me_court k_me_court o_me_court, wX2 h_me_court_isles h_me_court_isles_now q_me_court_isles k_me_court_isles o_me_court_isles, wX4 h_me_court_isles_now q_me_court_isles_now k_me_court_isles_now o_me_court_isles_now, wX3 h_me_court_machine q_me_court_machine k_me_court_machine o_me_court_machine, wPL o_pool] H locs → lv_has ls 4 [(0, .ref h_me), (1, .int v1), (2, .int v2), (3, .int v3)] → W p l e ({ frames := 5, cells := 0, slots := 0, locals := 132 } : Room) s m ([.ref h_me] : List Value).toArray below meth c H locs 0 0 Qz (F0 m 26 ls [])), ∀ (v1 : Int32) (v2 : Int32) (v3 : Int32) (o_me : Ob) (o_me_court_machine : Ob) (H : Heap) (locs : List Loc) (ls : Array Slot), bk_X7_neverSecond_69 o_me_court o_me_court_isles o_me_court_isles_now o_pool rec_14_0 rec_26_1 v1 v2 v3 o_me o_me_court_machine = some y → Wd dC dI A s.heap [wX7 h_me h_me_court h_me_court_isles q_me k_me o_me, wX1 h_me_court h_me_court_isles h_me_court_machine q_me_court k_me_court o_me_court, wX2 h_me_court_isles h_me_court_isles_now q_me_court_isles k_me_court_isles o_me_court_isles, wX4 h_me_court_isles_now q_me_court_isles_now k_me_court_isles_now o_me_court_isles_now, wX3 h_me_court_machine q_me_court_machine k_me_court_machine o_me_court_machine, wPL o_pool] H locs → lv_has ls 4 [(0, .ref h_me), (1, .int v1), (2, .int v2), (3, .int v3)] → W p l e ({ frames := 5, cells := 0, slots := 0, locals := 132 } : Room) s m ([.ref h_me] : List Value).toArray below meth c H locs 0 0 Qz (F0 m 69 ls []) := by
    intro rec_14_0 hrec_14_0 rec_26_1 hrec_26_1
    intro v1 v2 v3 o_me o_me_court_machine H locs ls h hw hl
    unfold bk_X7_neverSecond_69 at h
    obtain ⟨x5, ex5, h⟩ := z_lt h
    refine lv_iinc (v := x5) (lv' := [(3, .int x5), (0, .ref h_me), (1, .int v1), (2, .int v2)]) hx hb dX7_neverSecond_69 hl (k := 3) rfl ((congrArg (v3 + ·) (show Int32.ofInt 1 = (1 : Int32) from by decide)).trans ex5.symm) (by decide) rfl (fun ls hl => ?_)
    refine lv_goto (tgt := 26) hx hb dX7_neverSecond_72 (by decide) ?_
    exact hrec_26_1 v1 v2 x5 o_me o_me_court_machine _ _ _ h hw (lv_sub hl [1, 2, 3, 0] rfl)
  have lp_26_1 : ∀ (rec_14_0 : Int32 × Int32 × Ob × Ob → Option (Int32 × Ob × Ob)) (hrec_14_0 : ∀ (v1 : Int32) (v2 : Int32) (o_me : Ob) (o_me_court_machine : Ob) (H : Heap) (locs : List Loc) (ls : Array Slot), rec_14_0 (v1, v2, o_me, o_me_court_machine) = some y → Wd dC dI A s.heap [wX7 h_me h_me_court h_me_court_isles q_me k_me o_me, wX1 h_me_court h_me_court_isles h_me_court_machine q_me_court k_me_court o_me_court, wX2 h_me_court_isles h_me_court_isles_now q_me_court_isles k_me_court_isles o_me_court_isles, wX4 h_me_court_isles_now q_me_court_isles_now k_me_court_isles_now o_me_court_isles_now, wX3 h_me_court_machine q_me_court_machine k_me_court_machine o_me_court_machine, wPL o_pool] H locs → lv_has ls 4 [(0, .ref h_me), (1, .int v1), (2, .int v2)] → W p l e ({ frames := 5, cells := 0, slots := 0, locals := 132 } : Room) s m ([.ref h_me] : List Value).toArray below meth c H locs 0 0 Qz (F0 m 14 ls [])) (N : Nat), ∀ (v1 : Int32) (v2 : Int32) (v3 : Int32) (o_me : Ob) (o_me_court_machine : Ob) (H : Heap) (locs : List Loc) (ls : Array Slot), lp_X7_neverSecond_26 o_me_court o_me_court_isles o_me_court_isles_now o_pool rec_14_0 N (v1, v2, v3, o_me, o_me_court_machine) = some y → Wd dC dI A s.heap [wX7 h_me h_me_court h_me_court_isles q_me k_me o_me, wX1 h_me_court h_me_court_isles h_me_court_machine q_me_court k_me_court o_me_court, wX2 h_me_court_isles h_me_court_isles_now q_me_court_isles k_me_court_isles o_me_court_isles, wX4 h_me_court_isles_now q_me_court_isles_now k_me_court_isles_now o_me_court_isles_now, wX3 h_me_court_machine q_me_court_machine k_me_court_machine o_me_court_machine, wPL o_pool] H locs → lv_has ls 4 [(0, .ref h_me), (1, .int v1), (2, .int v2), (3, .int v3)] → W p l e ({ frames := 5, cells := 0, slots := 0, locals := 132 } : Room) s m ([.ref h_me] : List Value).toArray below meth c H locs 0 0 Qz (F0 m 26 ls []) := by
    intro rec_14_0 hrec_14_0
    intro N
    induction N with
    | zero =>
      intro v1 v2 v3 o_me o_me_court_machine H locs ls h hw hl
      exact absurd (show (none : Option (Int32 × Ob × Ob)) = some y from h) (by simp)
    | succ N ih =>
      intro v1 v2 v3 o_me o_me_court_machine H locs ls h hw hl
      have h : lb_X7_neverSecond_26 o_me_court o_me_court_isles o_me_court_isles_now o_pool rec_14_0 (lp_X7_neverSecond_26 o_me_court o_me_court_isles o_me_court_isles_now o_pool rec_14_0 N) v1 v2 v3 o_me o_me_court_machine = some y := h
      unfold lb_X7_neverSecond_26 at h
      refine lv_iload_n hx hb dX7_neverSecond_26 rfl (lv_at hl 3 rfl) ?_
      refine lv_aload_n hx hb dX7_neverSecond_27 rfl (lv_at hl 0 rfl) ?_
      refine fgX7_1 hx hb hts hown hK hw 0 rfl kw387 dX7_neverSecond_28 ?_
      refine fgX2_7 hx hb hts hown hK hw 2 rfl kw316 dX7_neverSecond_31 ?_
      refine lv_icmp_ge (tgt := 75) hx hb dX7_neverSecond_34 (by decide) (fun c => ?_) (fun c => ?_)
      · have h := z_t h c
        obtain ⟨x3, ex3, h⟩ := z_lt h
        refine lv_iinc (v := x3) (lv' := [(2, .int x3), (0, .ref h_me), (1, .int v1), (3, .int v3)]) hx hb dX7_neverSecond_75 hl (k := 2) rfl ((congrArg (v2 + ·) (show Int32.ofInt 1 = (1 : Int32) from by decide)).trans ex3.symm) (by decide) rfl (fun ls hl => ?_)
        refine lv_goto (tgt := 14) hx hb dX7_neverSecond_78 (by decide) ?_
        exact hrec_14_0 v1 x3 o_me o_me_court_machine _ _ _ h hw (lv_sub hl [1, 2, 0] rfl)
      · have h := z_f h c
        refine lv_aload_n hx hb dX7_neverSecond_37 rfl (lv_at hl 0 rfl) ?_
        refine fgX7_5 hx hb hts hown hK hw 0 rfl kw392 dX7_neverSecond_38 ?_
        refine lv_iload_n hx hb dX7_neverSecond_41 rfl (lv_at hl 2 rfl) ?_
        refine lv_bipush (v := 7) hx hb dX7_neverSecond_42 (by decide) ?_
        refine lv_imul hx hb dX7_neverSecond_44 ?_
        refine lv_iload_n hx hb dX7_neverSecond_45 rfl (lv_at hl 3 rfl) ?_
        refine lv_iadd hx hb dX7_neverSecond_46 ?_
        obtain ⟨g4, h⟩ := z_gd h
        refine faX7_5 hx hb hK hw 0 rfl rfl g4 dX7_neverSecond_47 ?_
        refine lv_iconst (v := (-1)) hx hb dX7_neverSecond_48 (by decide) ?_
        refine lv_icmp_eq (tgt := 69) hx hb dX7_neverSecond_49 (by decide) (fun c => ?_) (fun c => ?_)
        · have h := z_t h c
          exact bk_69_2 rec_14_0 hrec_14_0 (lp_X7_neverSecond_26 o_me_court o_me_court_isles o_me_court_isles_now o_pool rec_14_0 N) ih v1 v2 v3 o_me o_me_court_machine _ _ _ h hw (lv_sub hl [0, 1, 2, 3] rfl)
        · have h := z_f h c
          refine lv_aload_n hx hb dX7_neverSecond_52 rfl (lv_at hl 0 rfl) ?_
          refine lv_iload_n hx hb dX7_neverSecond_53 rfl (lv_at hl 3 rfl) ?_
          refine lv_iload_n hx hb dX7_neverSecond_54 rfl (lv_at hl 2 rfl) ?_
          obtain ⟨z6, ez6, h⟩ := z_bd h
          refine xj_i (xrV (As := [.int v3, .int v2]) (rest := []) ⟨hx, hb, hml, hown, hts⟩ (m_X7_aheadOf l dC dI _ h_me h_me_court h_me_court_isles h_me_court_isles_now q_me k_me q_me_court_isles k_me_court_isles o_me o_me_court_isles v3 v2 z6 ez6) kw961 kw958 kw960 kw28 kw118 hd_X7_aheadOf ⟨rfl, rfl⟩ rfl rfl ⟨rfl, rfl⟩ hX hK hw [0, 2] (by decide) rfl rfl rfl rfl rfl hl.1 rfl rfl dX7_neverSecond_55) hw hA [0, 2] (by decide) rfl rfl (fun H locs hw => ?_)
          have hw : Wd dC dI A s.heap [wX7 h_me h_me_court h_me_court_isles q_me k_me o_me, wX1 h_me_court h_me_court_isles h_me_court_machine q_me_court k_me_court o_me_court, wX2 h_me_court_isles h_me_court_isles_now q_me_court_isles k_me_court_isles o_me_court_isles, wX4 h_me_court_isles_now q_me_court_isles_now k_me_court_isles_now o_me_court_isles_now, wX3 h_me_court_machine q_me_court_machine k_me_court_machine o_me_court_machine, wPL o_pool] H locs := hw
          refine lv_if_eq (tgt := 69) hx hb dX7_neverSecond_58 (by decide) (fun c => ?_) (fun c => ?_)
          · have h := z_t h c
            exact bk_69_2 rec_14_0 hrec_14_0 (lp_X7_neverSecond_26 o_me_court o_me_court_isles o_me_court_isles_now o_pool rec_14_0 N) ih v1 v2 v3 o_me o_me_court_machine _ _ _ h hw (lv_sub hl [0, 1, 2, 3] rfl)
          · have h := z_f h c
            refine lv_iload_n hx hb dX7_neverSecond_61 rfl (lv_at hl 1 rfl) ?_
            refine lv_iconst (v := 1) hx hb dX7_neverSecond_62 (by decide) ?_
            refine lv_iload_n hx hb dX7_neverSecond_63 rfl (lv_at hl 3 rfl) ?_
            refine lv_ishl hx hb dX7_neverSecond_64 ?_
            refine lv_iconst (v := (-1)) hx hb dX7_neverSecond_65 (by decide) ?_
            refine lv_ixor hx hb dX7_neverSecond_66 ?_
            refine lv_iand hx hb dX7_neverSecond_67 ?_
            obtain ⟨x7, ex7, h⟩ := z_lt h
            refine lv_fi (v := x7) ex7.symm ?_
            refine lv_istore_n (lv' := [(1, .int x7), (0, .ref h_me), (2, .int v2), (3, .int v3)]) hx hb dX7_neverSecond_68 rfl hl (by decide) rfl (fun ls hl => ?_)
            exact bk_69_2 rec_14_0 hrec_14_0 (lp_X7_neverSecond_26 o_me_court o_me_court_isles o_me_court_isles_now o_pool rec_14_0 N) ih x7 v2 v3 o_me o_me_court_machine _ _ _ h hw (lv_sub hl [1, 0, 2, 3] rfl)
  have lp_14_0 : ∀ (N : Nat), ∀ (v1 : Int32) (v2 : Int32) (o_me : Ob) (o_me_court_machine : Ob) (H : Heap) (locs : List Loc) (ls : Array Slot), lp_X7_neverSecond_14 o_me_court o_me_court_isles o_me_court_isles_now o_pool  N (v1, v2, o_me, o_me_court_machine) = some y → Wd dC dI A s.heap [wX7 h_me h_me_court h_me_court_isles q_me k_me o_me, wX1 h_me_court h_me_court_isles h_me_court_machine q_me_court k_me_court o_me_court, wX2 h_me_court_isles h_me_court_isles_now q_me_court_isles k_me_court_isles o_me_court_isles, wX4 h_me_court_isles_now q_me_court_isles_now k_me_court_isles_now o_me_court_isles_now, wX3 h_me_court_machine q_me_court_machine k_me_court_machine o_me_court_machine, wPL o_pool] H locs → lv_has ls 4 [(0, .ref h_me), (1, .int v1), (2, .int v2)] → W p l e ({ frames := 5, cells := 0, slots := 0, locals := 132 } : Room) s m ([.ref h_me] : List Value).toArray below meth c H locs 0 0 Qz (F0 m 14 ls []) := by
    intro N
    induction N with
    | zero =>
      intro v1 v2 o_me o_me_court_machine H locs ls h hw hl
      exact absurd (show (none : Option (Int32 × Ob × Ob)) = some y from h) (by simp)
    | succ N ih =>
      intro v1 v2 o_me o_me_court_machine H locs ls h hw hl
      have h : lb_X7_neverSecond_14 o_me_court o_me_court_isles o_me_court_isles_now o_pool  (lp_X7_neverSecond_14 o_me_court o_me_court_isles o_me_court_isles_now o_pool  N) v1 v2 o_me o_me_court_machine = some y := h
      unfold lb_X7_neverSecond_14 at h
      refine lv_iload_n hx hb dX7_neverSecond_14 rfl (lv_at hl 2 rfl) ?_
      refine lv_iconst (v := 4) hx hb dX7_neverSecond_15 (by decide) ?_
      refine lv_icmp_ge (tgt := 81) hx hb dX7_neverSecond_16 (by decide) (fun c => ?_) (fun c => ?_)
      · have h := z_t h c
        refine lv_iload_n hx hb dX7_neverSecond_81 rfl (lv_at hl 1 rfl) ?_
        have hy := Option.some.inj h
        rw [← hQz, ← hy]
        exact xr_i (v := v1) hx hb hr rfl hlk hK hw dX7_neverSecond_82
      · have h := z_f h c
        refine lv_aload_n hx hb dX7_neverSecond_19 rfl (lv_at hl 0 rfl) ?_
        refine lv_iload_n hx hb dX7_neverSecond_20 rfl (lv_at hl 2 rfl) ?_
        obtain ⟨z2, ez2, h⟩ := z_bd h
        refine xj_v (xrV (As := [.int v2]) (rest := []) ⟨hx, hb, hml, hown, hts⟩ (m_X7_setScores l dC dI _ h_me h_me_court h_me_court_isles h_me_court_machine h_me_court_isles_now q_me k_me q_me_court k_me_court q_me_court_isles k_me_court_isles q_me_court_isles_now k_me_court_isles_now q_me_court_machine k_me_court_machine o_me o_me_court o_me_court_isles o_me_court_isles_now o_me_court_machine o_pool v2 z2 ez2) kw954 kw951 kw953 kw27 kw118 hd_X7_setScores ⟨rfl, rfl⟩ rfl rfl ⟨rfl, rfl⟩ hX hK hw [0, 1, 2, 3, 4, 5] (by decide) rfl rfl rfl rfl rfl hl.1 rfl rfl dX7_neverSecond_21) hw hA [0, 1, 2, 3, 4, 5] (by decide) rfl rfl (fun H locs hw => ?_)
        have hw : Wd dC dI A s.heap [wX7 h_me h_me_court h_me_court_isles q_me k_me z2.1, wX1 h_me_court h_me_court_isles h_me_court_machine q_me_court k_me_court o_me_court, wX2 h_me_court_isles h_me_court_isles_now q_me_court_isles k_me_court_isles o_me_court_isles, wX4 h_me_court_isles_now q_me_court_isles_now k_me_court_isles_now o_me_court_isles_now, wX3 h_me_court_machine q_me_court_machine k_me_court_machine z2.2, wPL o_pool] H locs := hw
        refine lv_iconst (v := 0) hx hb dX7_neverSecond_24 (by decide) ?_
        refine lv_istore_n (lv' := [(3, .int (0 : Int32)), (0, .ref h_me), (1, .int v1), (2, .int v2)]) hx hb dX7_neverSecond_25 rfl hl (by decide) rfl (fun ls hl => ?_)
        exact lp_26_1 (lp_X7_neverSecond_14 o_me_court o_me_court_isles o_me_court_isles_now o_pool  N) ih zfu v1 v2 (0 : Int32) z2.1 z2.2 _ _ _ h hw (lv_sub hl [1, 2, 3, 0] rfl)
  unfold f_X7_neverSecond at h
  refine lv_iconst (v := 1) hx hb dX7_neverSecond_0 (by decide) ?_
  refine lv_aload_n hx hb dX7_neverSecond_1 rfl (lv_at hl 0 rfl) ?_
  refine fgX7_1 hx hb hts hown hK hw 0 rfl kw387 dX7_neverSecond_2 ?_
  refine fgX2_7 hx hb hts hown hK hw 2 rfl kw316 dX7_neverSecond_5 ?_
  refine lv_ishl hx hb dX7_neverSecond_8 ?_
  refine lv_iconst (v := 1) hx hb dX7_neverSecond_9 (by decide) ?_
  refine lv_isub hx hb dX7_neverSecond_10 ?_
  obtain ⟨x1, ex1, h⟩ := z_lt h
  refine lv_fi (v := x1) ex1.symm ?_
  refine lv_istore_n (lv' := [(1, .int x1), (0, .ref h_me)]) hx hb dX7_neverSecond_11 rfl hl (by decide) rfl (fun ls hl => ?_)
  refine lv_iconst (v := 0) hx hb dX7_neverSecond_12 (by decide) ?_
  refine lv_istore_n (lv' := [(2, .int (0 : Int32)), (1, .int x1), (0, .ref h_me)]) hx hb dX7_neverSecond_13 rfl hl (by decide) rfl (fun ls hl => ?_)
  exact lp_14_0  zfu x1 (0 : Int32) o_me o_me_court_machine _ _ _ h hw (lv_sub hl [2, 1, 0] rfl)

def f_X8_never (o_me : Ob) (o_me_machine : Ob) (o_me_isles : Ob) (o_me_isles_now : Ob) (o_me_court : Ob) (o_me_study : Ob) (o_pool : List CR) : Option (Int32 × Ob × Ob) :=
  (f_X7_neverSecond o_me_study o_me_court o_me_isles o_me_isles_now o_me_machine o_pool).bind fun z1 =>
  some (z1.1, z1.2.2, z1.2.1)
set_option maxHeartbeats 4000000 in
set_option maxRecDepth 100000 in
theorem m_X8_never (l : Launch) (dC : Nat → ClassId) (dI : Nat → Nat → Nat) (sz : Nat) (h_me : Nat) (h_me_reader : Nat) (h_me_machine : Nat) (h_me_isles : Nat) (h_me_court : Nat) (h_me_study : Nat) (h_me_paper : Nat) (h_me_paperCourt : Nat) (h_me_past : Nat) (h_me_pastAhead : Nat) (h_me_movingAhead : Nat) (h_me_isles_now : Nat) (q_me : Nat → Nat) (k_me : Nat → ClassId) (q_me_machine : Nat → Nat) (k_me_machine : Nat → ClassId) (q_me_isles : Nat → Nat) (k_me_isles : Nat → ClassId) (q_me_isles_now : Nat → Nat) (k_me_isles_now : Nat → ClassId) (q_me_court : Nat → Nat) (k_me_court : Nat → ClassId) (q_me_study : Nat → Nat) (k_me_study : Nat → ClassId) (o_me : Ob) (o_me_machine : Ob) (o_me_isles : Ob) (o_me_isles_now : Ob) (o_me_court : Ob) (o_me_study : Ob) (o_pool : List CR) (y : Int32 × Ob × Ob) (h : f_X8_never o_me o_me_machine o_me_isles o_me_isles_now o_me_court o_me_study o_pool = some y) : CI l yX8_never cX8_never 1 (some .int) ({ frames := 6, cells := 0, slots := 0, locals := 155 } : Room) dC dI sz [.ref h_me] [wX8 h_me h_me_reader h_me_machine h_me_isles h_me_court h_me_study h_me_paper h_me_paperCourt h_me_past h_me_pastAhead h_me_movingAhead q_me k_me o_me, wX3 h_me_machine q_me_machine k_me_machine o_me_machine, wX2 h_me_isles h_me_isles_now q_me_isles k_me_isles o_me_isles, wX4 h_me_isles_now q_me_isles_now k_me_isles_now o_me_isles_now, wX1 h_me_court h_me_isles h_me_machine q_me_court k_me_court o_me_court, wX7 h_me_study h_me_court h_me_isles q_me_study k_me_study o_me_study, wPL o_pool] [tX8 k_me, tX3 k_me_machine, tX2 k_me_isles, tX4 k_me_isles_now, tX1 k_me_court, tX7 k_me_study, tPL o_pool] y.1 [wX8 h_me h_me_reader h_me_machine h_me_isles h_me_court h_me_study h_me_paper h_me_paperCourt h_me_past h_me_pastAhead h_me_movingAhead q_me k_me o_me, wX3 h_me_machine q_me_machine k_me_machine y.2.1, wX2 h_me_isles h_me_isles_now q_me_isles k_me_isles o_me_isles, wX4 h_me_isles_now q_me_isles_now k_me_isles_now o_me_isles_now, wX1 h_me_court h_me_isles h_me_machine q_me_court k_me_court o_me_court, wX7 h_me_study h_me_court h_me_isles q_me_study k_me_study y.2.2, wPL o_pool] := by
  refine CC_of (by decide) (Nat.le_of_ble_eq_true rfl) ?_
  intro p e s m below meth c A ls hx hb hml hr hlk hnm hown hts hX hK hP hD hA hl
  have hl : lv_has ls 1 [(0, .ref h_me)] := hl
  have hown : s.vm.findClass RX8 = some m.cls := hown
  have hw : Wd dC dI A s.heap [wX8 h_me h_me_reader h_me_machine h_me_isles h_me_court h_me_study h_me_paper h_me_paperCourt h_me_past h_me_pastAhead h_me_movingAhead q_me k_me o_me, wX3 h_me_machine q_me_machine k_me_machine o_me_machine, wX2 h_me_isles h_me_isles_now q_me_isles k_me_isles o_me_isles, wX4 h_me_isles_now q_me_isles_now k_me_isles_now o_me_isles_now, wX1 h_me_court h_me_isles h_me_machine q_me_court k_me_court o_me_court, wX7 h_me_study h_me_court h_me_isles q_me_study k_me_study o_me_study, wPL o_pool] s.heap [] := ⟨hP, hD, va_S.rf⟩
  generalize hQz : (MQ below (QI dC dI (fun r (_ : Unit) => r = y.1) (fun _ => Jn [wX8 h_me h_me_reader h_me_machine h_me_isles h_me_court h_me_study h_me_paper h_me_paperCourt h_me_past h_me_pastAhead h_me_movingAhead q_me k_me o_me, wX3 h_me_machine q_me_machine k_me_machine y.2.1, wX2 h_me_isles h_me_isles_now q_me_isles k_me_isles o_me_isles, wX4 h_me_isles_now q_me_isles_now k_me_isles_now o_me_isles_now, wX1 h_me_court h_me_isles h_me_machine q_me_court k_me_court o_me_court, wX7 h_me_study h_me_court h_me_isles q_me_study k_me_study y.2.2, wPL o_pool]) (fun _ => Jt [tX8 k_me, tX3 k_me_machine, tX2 k_me_isles, tX4 k_me_isles_now, tX1 k_me_court, tX7 k_me_study, tPL o_pool]) A) ([.ref h_me] : List Value).toArray s 0 0 A) = Qz
  clear hP hD hnm
  unfold f_X8_never at h
  refine lv_aload_n hx hb dX8_never_0 rfl (lv_at hl 0 rfl) ?_
  refine fgX8_4 hx hb hts hown hK hw 0 rfl kw446 dX8_never_1 ?_
  obtain ⟨z1, ez1, h⟩ := z_bd h
  refine xj_i (xrV (As := []) (rest := []) ⟨hx, hb, hml, hown, hts⟩ (m_X7_neverSecond l dC dI _ h_me_study h_me_court h_me_isles h_me_machine h_me_isles_now q_me_study k_me_study q_me_court k_me_court q_me_isles k_me_isles q_me_isles_now k_me_isles_now q_me_machine k_me_machine o_me_study o_me_court o_me_isles o_me_isles_now o_me_machine o_pool z1 ez1) kw1091 kw1088 kw1089 kw1090 kw118 hd_X7_neverSecond ⟨rfl, rfl⟩ rfl rfl ⟨rfl, rfl⟩ hX hK hw [5, 4, 2, 3, 1, 6] (by decide) rfl rfl rfl rfl rfl hl.1 rfl rfl dX8_never_4) hw hA [5, 4, 2, 3, 1, 6] (by decide) rfl rfl (fun H locs hw => ?_)
  have hw : Wd dC dI A s.heap [wX8 h_me h_me_reader h_me_machine h_me_isles h_me_court h_me_study h_me_paper h_me_paperCourt h_me_past h_me_pastAhead h_me_movingAhead q_me k_me o_me, wX3 h_me_machine q_me_machine k_me_machine z1.2.2, wX2 h_me_isles h_me_isles_now q_me_isles k_me_isles o_me_isles, wX4 h_me_isles_now q_me_isles_now k_me_isles_now o_me_isles_now, wX1 h_me_court h_me_isles h_me_machine q_me_court k_me_court o_me_court, wX7 h_me_study h_me_court h_me_isles q_me_study k_me_study z1.2.1, wPL o_pool] H locs := hw
  have hy := Option.some.inj h
  rw [← hQz, ← hy]
  exact xr_i (v := z1.1) hx hb hr rfl hlk hK hw dX8_never_7

def f_X8_of (o_me : Ob) (o_me_machine : Ob) (o_me_isles : Ob) (o_me_isles_now : Ob) (o_me_court : Ob) (o_pool : List CR) (p0 : Int32) (p1 : Int32) : Option (Int32 × Ob) :=
  (f_X2_isPerson o_me_isles p0).bind fun z1 =>
  if z1 = (0 : Int32) then
  (some ((-1 : Int32), o_me_machine))
  else
  (if p1 = (3 : Int32) then
  (zgd (zin p0 7) <|
  some (gA o_me_isles 1 p0.toNatClampNeg, o_me_machine))
  else
  ((f_X8_isRace (p1 - (4 : Int32))).bind fun z2 =>
  if z2 = (0 : Int32) then
  ((f_X8_isRace (p1 - (8 : Int32))).bind fun z3 =>
  if z3 = (0 : Int32) then
  ((f_X8_isRace (p1 - (12 : Int32))).bind fun z4 =>
  if z4 = (0 : Int32) then
  ((f_X4_told o_me_isles_now p0 p1).bind fun z5 =>
  some (z5, o_me_machine))
  else
  ((f_X2_lawInForce o_me_isles).bind fun z6 =>
  (f_X1_isBarred_Q o_me_court o_me_isles o_me_isles_now o_me_machine o_pool z6 p0 (p1 - (12 : Int32))).bind fun z7 =>
  if z7.1 = (0 : Int32) then
  (some ((0 : Int32), z7.2))
  else
  (some ((1 : Int32), z7.2))))
  else
  ((f_X2_lawInForce o_me_isles).bind fun z8 =>
  (f_X1_runsBy_Q o_me_court o_me_isles o_me_isles_now o_me_machine o_pool z8 p0 (p1 - (8 : Int32))).bind fun z9 =>
  some (z9.1, z9.2)))
  else
  (zgd (zin (((p0 * (4 : Int32)) + p1) - (4 : Int32)) 28) <|
  some (gA o_me_isles 2 (((p0 * (4 : Int32)) + p1) - (4 : Int32)).toNatClampNeg, o_me_machine))))
set_option maxHeartbeats 4000000 in
set_option maxRecDepth 100000 in
theorem m_X8_of (l : Launch) (dC : Nat → ClassId) (dI : Nat → Nat → Nat) (sz : Nat) (h_me : Nat) (h_me_reader : Nat) (h_me_machine : Nat) (h_me_isles : Nat) (h_me_court : Nat) (h_me_study : Nat) (h_me_paper : Nat) (h_me_paperCourt : Nat) (h_me_past : Nat) (h_me_pastAhead : Nat) (h_me_movingAhead : Nat) (h_me_isles_now : Nat) (q_me : Nat → Nat) (k_me : Nat → ClassId) (q_me_machine : Nat → Nat) (k_me_machine : Nat → ClassId) (q_me_isles : Nat → Nat) (k_me_isles : Nat → ClassId) (q_me_isles_now : Nat → Nat) (k_me_isles_now : Nat → ClassId) (q_me_court : Nat → Nat) (k_me_court : Nat → ClassId) (o_me : Ob) (o_me_machine : Ob) (o_me_isles : Ob) (o_me_isles_now : Ob) (o_me_court : Ob) (o_pool : List CR) (p0 : Int32) (p1 : Int32) (y : Int32 × Ob) (h : f_X8_of o_me o_me_machine o_me_isles o_me_isles_now o_me_court o_pool p0 p1 = some y) : CI l yX8_of cX8_of 3 (some .int) ({ frames := 4, cells := 0, slots := 0, locals := 109 } : Room) dC dI sz [.ref h_me, .int p0, .int p1] [wX8 h_me h_me_reader h_me_machine h_me_isles h_me_court h_me_study h_me_paper h_me_paperCourt h_me_past h_me_pastAhead h_me_movingAhead q_me k_me o_me, wX3 h_me_machine q_me_machine k_me_machine o_me_machine, wX2 h_me_isles h_me_isles_now q_me_isles k_me_isles o_me_isles, wX4 h_me_isles_now q_me_isles_now k_me_isles_now o_me_isles_now, wX1 h_me_court h_me_isles h_me_machine q_me_court k_me_court o_me_court, wPL o_pool] [tX8 k_me, tX3 k_me_machine, tX2 k_me_isles, tX4 k_me_isles_now, tX1 k_me_court, tPL o_pool] y.1 [wX8 h_me h_me_reader h_me_machine h_me_isles h_me_court h_me_study h_me_paper h_me_paperCourt h_me_past h_me_pastAhead h_me_movingAhead q_me k_me o_me, wX3 h_me_machine q_me_machine k_me_machine y.2, wX2 h_me_isles h_me_isles_now q_me_isles k_me_isles o_me_isles, wX4 h_me_isles_now q_me_isles_now k_me_isles_now o_me_isles_now, wX1 h_me_court h_me_isles h_me_machine q_me_court k_me_court o_me_court, wPL o_pool] := by
  refine CC_of (by decide) (Nat.le_of_ble_eq_true rfl) ?_
  intro p e s m below meth c A ls hx hb hml hr hlk hnm hown hts hX hK hP hD hA hl
  have hl : lv_has ls 3 [(0, .ref h_me), (1, .int p0), (2, .int p1)] := hl
  have hown : s.vm.findClass RX8 = some m.cls := hown
  have hw : Wd dC dI A s.heap [wX8 h_me h_me_reader h_me_machine h_me_isles h_me_court h_me_study h_me_paper h_me_paperCourt h_me_past h_me_pastAhead h_me_movingAhead q_me k_me o_me, wX3 h_me_machine q_me_machine k_me_machine o_me_machine, wX2 h_me_isles h_me_isles_now q_me_isles k_me_isles o_me_isles, wX4 h_me_isles_now q_me_isles_now k_me_isles_now o_me_isles_now, wX1 h_me_court h_me_isles h_me_machine q_me_court k_me_court o_me_court, wPL o_pool] s.heap [] := ⟨hP, hD, va_S.rf⟩
  generalize hQz : (MQ below (QI dC dI (fun r (_ : Unit) => r = y.1) (fun _ => Jn [wX8 h_me h_me_reader h_me_machine h_me_isles h_me_court h_me_study h_me_paper h_me_paperCourt h_me_past h_me_pastAhead h_me_movingAhead q_me k_me o_me, wX3 h_me_machine q_me_machine k_me_machine y.2, wX2 h_me_isles h_me_isles_now q_me_isles k_me_isles o_me_isles, wX4 h_me_isles_now q_me_isles_now k_me_isles_now o_me_isles_now, wX1 h_me_court h_me_isles h_me_machine q_me_court k_me_court o_me_court, wPL o_pool]) (fun _ => Jt [tX8 k_me, tX3 k_me_machine, tX2 k_me_isles, tX4 k_me_isles_now, tX1 k_me_court, tPL o_pool]) A) ([.ref h_me, .int p0, .int p1] : List Value).toArray s 0 0 A) = Qz
  clear hP hD hnm
  unfold f_X8_of at h
  refine lv_aload_n hx hb dX8_of_0 rfl (lv_at hl 0 rfl) ?_
  refine fgX8_2 hx hb hts hown hK hw 0 rfl kw444 dX8_of_1 ?_
  refine lv_iload_n hx hb dX8_of_4 rfl (lv_at hl 1 rfl) ?_
  obtain ⟨z1, ez1, h⟩ := z_bd h
  refine xj_i (xrV (As := [.int p0]) (rest := []) ⟨hx, hb, hml, hown, hts⟩ (m_X2_isPerson l dC dI _ h_me_isles h_me_isles_now q_me_isles k_me_isles o_me_isles p0 z1 ez1) kw504 kw501 kw502 kw503 kw115 hd_X2_isPerson ⟨rfl, rfl⟩ rfl rfl ⟨rfl, rfl⟩ hX hK hw [2] (by decide) rfl rfl rfl rfl rfl hl.1 rfl rfl dX8_of_5) hw hA [2] (by decide) rfl rfl (fun H locs hw => ?_)
  have hw : Wd dC dI A s.heap [wX8 h_me h_me_reader h_me_machine h_me_isles h_me_court h_me_study h_me_paper h_me_paperCourt h_me_past h_me_pastAhead h_me_movingAhead q_me k_me o_me, wX3 h_me_machine q_me_machine k_me_machine o_me_machine, wX2 h_me_isles h_me_isles_now q_me_isles k_me_isles o_me_isles, wX4 h_me_isles_now q_me_isles_now k_me_isles_now o_me_isles_now, wX1 h_me_court h_me_isles h_me_machine q_me_court k_me_court o_me_court, wPL o_pool] H locs := hw
  refine lv_if_ne (tgt := 13) hx hb dX8_of_8 (by decide) (fun c => ?_) (fun c => ?_)
  · have h := z_f h c
    refine lv_iload_n hx hb dX8_of_13 rfl (lv_at hl 2 rfl) ?_
    refine lv_iconst (v := 3) hx hb dX8_of_14 (by decide) ?_
    refine lv_icmp_ne (tgt := 28) hx hb dX8_of_15 (by decide) (fun c => ?_) (fun c => ?_)
    · have h := z_f h c
      refine lv_iload_n hx hb dX8_of_28 rfl (lv_at hl 2 rfl) ?_
      refine lv_iconst (v := 4) hx hb dX8_of_29 (by decide) ?_
      refine lv_isub hx hb dX8_of_30 ?_
      obtain ⟨z2, ez2, h⟩ := z_bd h
      refine xj_i (xrS (As := [.int (p1 - (4 : Int32))]) (rest := []) ⟨hx, hb, hml, hown, hts⟩ (m_X8_isRace l dC dI _  (p1 - (4 : Int32)) z2 ez2) kw527 kw525 kw526 kw110 hd_X8_isRace ⟨rfl, rfl⟩ rfl rfl ⟨rfl, rfl⟩ hX hK hw [] (by decide) rfl rfl hl.1 rfl rfl dX8_of_31) hw hA [] (by decide) rfl rfl (fun H locs hw => ?_)
      refine lv_if_eq (tgt := 53) hx hb dX8_of_34 (by decide) (fun c => ?_) (fun c => ?_)
      · have h := z_t h c
        refine lv_iload_n hx hb dX8_of_53 rfl (lv_at hl 2 rfl) ?_
        refine lv_bipush (v := 8) hx hb dX8_of_54 (by decide) ?_
        refine lv_isub hx hb dX8_of_56 ?_
        obtain ⟨z3, ez3, h⟩ := z_bd h
        refine xj_i (xrS (As := [.int (p1 - (8 : Int32))]) (rest := []) ⟨hx, hb, hml, hown, hts⟩ (m_X8_isRace l dC dI _  (p1 - (8 : Int32)) z3 ez3) kw527 kw525 kw526 kw110 hd_X8_isRace ⟨rfl, rfl⟩ rfl rfl ⟨rfl, rfl⟩ hX hK hw [] (by decide) rfl rfl hl.1 rfl rfl dX8_of_57) hw hA [] (by decide) rfl rfl (fun H locs hw => ?_)
        refine lv_if_eq (tgt := 83) hx hb dX8_of_60 (by decide) (fun c => ?_) (fun c => ?_)
        · have h := z_t h c
          refine lv_iload_n hx hb dX8_of_83 rfl (lv_at hl 2 rfl) ?_
          refine lv_bipush (v := 12) hx hb dX8_of_84 (by decide) ?_
          refine lv_isub hx hb dX8_of_86 ?_
          obtain ⟨z4, ez4, h⟩ := z_bd h
          refine xj_i (xrS (As := [.int (p1 - (12 : Int32))]) (rest := []) ⟨hx, hb, hml, hown, hts⟩ (m_X8_isRace l dC dI _  (p1 - (12 : Int32)) z4 ez4) kw527 kw525 kw526 kw110 hd_X8_isRace ⟨rfl, rfl⟩ rfl rfl ⟨rfl, rfl⟩ hX hK hw [] (by decide) rfl rfl hl.1 rfl rfl dX8_of_87) hw hA [] (by decide) rfl rfl (fun H locs hw => ?_)
          refine lv_if_eq (tgt := 121) hx hb dX8_of_90 (by decide) (fun c => ?_) (fun c => ?_)
          · have h := z_t h c
            refine lv_aload_n hx hb dX8_of_121 rfl (lv_at hl 0 rfl) ?_
            refine fgX8_2 hx hb hts hown hK hw 0 rfl kw444 dX8_of_122 ?_
            refine fgX2_0 hx hb hts hown hK hw 2 rfl kw297 dX8_of_125 ?_
            refine lv_iload_n hx hb dX8_of_128 rfl (lv_at hl 1 rfl) ?_
            refine lv_iload_n hx hb dX8_of_129 rfl (lv_at hl 2 rfl) ?_
            obtain ⟨z5, ez5, h⟩ := z_bd h
            refine xj_i (xrV (As := [.int p0, .int p1]) (rest := []) ⟨hx, hb, hml, hown, hts⟩ (m_X4_told l dC dI _ h_me_isles_now q_me_isles_now k_me_isles_now o_me_isles_now p0 p1 z5 ez5) kw589 kw586 kw587 kw588 kw116 hd_X4_told ⟨rfl, rfl⟩ rfl rfl ⟨rfl, rfl⟩ hX hK hw [3] (by decide) rfl rfl rfl rfl rfl hl.1 rfl rfl dX8_of_130) hw hA [3] (by decide) rfl rfl (fun H locs hw => ?_)
            have hw : Wd dC dI A s.heap [wX8 h_me h_me_reader h_me_machine h_me_isles h_me_court h_me_study h_me_paper h_me_paperCourt h_me_past h_me_pastAhead h_me_movingAhead q_me k_me o_me, wX3 h_me_machine q_me_machine k_me_machine o_me_machine, wX2 h_me_isles h_me_isles_now q_me_isles k_me_isles o_me_isles, wX4 h_me_isles_now q_me_isles_now k_me_isles_now o_me_isles_now, wX1 h_me_court h_me_isles h_me_machine q_me_court k_me_court o_me_court, wPL o_pool] H locs := hw
            have hy := Option.some.inj h
            rw [← hQz, ← hy]
            exact xr_i (v := z5) hx hb hr rfl hlk hK hw dX8_of_133
          · have h := z_f h c
            refine lv_aload_n hx hb dX8_of_93 rfl (lv_at hl 0 rfl) ?_
            refine fgX8_3 hx hb hts hown hK hw 0 rfl kw445 dX8_of_94 ?_
            refine lv_aload_n hx hb dX8_of_97 rfl (lv_at hl 0 rfl) ?_
            refine fgX8_2 hx hb hts hown hK hw 0 rfl kw444 dX8_of_98 ?_
            obtain ⟨z6, ez6, h⟩ := z_bd h
            refine xj_q (xrV (As := []) (rest := [.ref h_me_court]) ⟨hx, hb, hml, hown, hts⟩ (m_X2_lawInForce l dC dI _ h_me_isles h_me_isles_now q_me_isles k_me_isles o_me_isles z6 ez6) kw531 kw528 kw529 kw530 kw115 hd_X2_lawInForce ⟨rfl, rfl⟩ rfl rfl ⟨rfl, rfl⟩ hX hK hw [2] (by decide) rfl rfl rfl rfl rfl hl.1 rfl rfl dX8_of_101) hw hA [2] (by decide) rfl rfl (fun H locs hw => ?_)
            have hw : Wd dC dI A s.heap [wX8 h_me h_me_reader h_me_machine h_me_isles h_me_court h_me_study h_me_paper h_me_paperCourt h_me_past h_me_pastAhead h_me_movingAhead q_me k_me o_me, wX3 h_me_machine q_me_machine k_me_machine o_me_machine, wX2 h_me_isles h_me_isles_now q_me_isles k_me_isles o_me_isles, wX4 h_me_isles_now q_me_isles_now k_me_isles_now o_me_isles_now, wX1 h_me_court h_me_isles h_me_machine q_me_court k_me_court o_me_court, wPL o_pool] H locs := hw
            refine lv_iload_n hx hb dX8_of_104 rfl (lv_at hl 1 rfl) ?_
            refine lv_iload_n hx hb dX8_of_105 rfl (lv_at hl 2 rfl) ?_
            refine lv_bipush (v := 12) hx hb dX8_of_106 (by decide) ?_
            refine lv_isub hx hb dX8_of_108 ?_
            obtain ⟨z7, ez7, h⟩ := z_bd h
            refine xj_i (xrV (As := [va_rf z6, .int p0, .int (p1 - (12 : Int32))]) (rest := []) ⟨hx, hb, hml, hown, hts⟩ (m_X1_isBarred_Q l dC dI _ h_me_court h_me_isles h_me_machine h_me_isles_now q_me_court k_me_court q_me_isles k_me_isles q_me_isles_now k_me_isles_now q_me_machine k_me_machine o_me_court o_me_isles o_me_isles_now o_me_machine o_pool z6 p0 (p1 - (12 : Int32)) z7 ez7) kw585 kw582 kw583 kw584 kw117 hd_X1_isBarred ⟨rfl, rfl⟩ rfl rfl ⟨rfl, rfl⟩ hX hK hw [4, 2, 3, 1, 5] (by decide) rfl rfl rfl rfl rfl hl.1 rfl rfl dX8_of_109) hw hA [4, 2, 3, 1, 5] (by decide) rfl rfl (fun H locs hw => ?_)
            have hw : Wd dC dI A s.heap [wX8 h_me h_me_reader h_me_machine h_me_isles h_me_court h_me_study h_me_paper h_me_paperCourt h_me_past h_me_pastAhead h_me_movingAhead q_me k_me o_me, wX3 h_me_machine q_me_machine k_me_machine z7.2, wX2 h_me_isles h_me_isles_now q_me_isles k_me_isles o_me_isles, wX4 h_me_isles_now q_me_isles_now k_me_isles_now o_me_isles_now, wX1 h_me_court h_me_isles h_me_machine q_me_court k_me_court o_me_court, wPL o_pool] H locs := hw
            refine lv_if_eq (tgt := 119) hx hb dX8_of_112 (by decide) (fun c => ?_) (fun c => ?_)
            · have h := z_t h c
              refine lv_iconst (v := 0) hx hb dX8_of_119 (by decide) ?_
              have hy := Option.some.inj h
              rw [← hQz, ← hy]
              exact xr_i (v := (0 : Int32)) hx hb hr rfl hlk hK hw dX8_of_120
            · have h := z_f h c
              refine lv_iconst (v := 1) hx hb dX8_of_115 (by decide) ?_
              refine lv_goto (tgt := 120) hx hb dX8_of_116 (by decide) ?_
              have hy := Option.some.inj h
              rw [← hQz, ← hy]
              exact xr_i (v := (1 : Int32)) hx hb hr rfl hlk hK hw dX8_of_120
        · have h := z_f h c
          refine lv_aload_n hx hb dX8_of_63 rfl (lv_at hl 0 rfl) ?_
          refine fgX8_3 hx hb hts hown hK hw 0 rfl kw445 dX8_of_64 ?_
          refine lv_aload_n hx hb dX8_of_67 rfl (lv_at hl 0 rfl) ?_
          refine fgX8_2 hx hb hts hown hK hw 0 rfl kw444 dX8_of_68 ?_
          obtain ⟨z8, ez8, h⟩ := z_bd h
          refine xj_q (xrV (As := []) (rest := [.ref h_me_court]) ⟨hx, hb, hml, hown, hts⟩ (m_X2_lawInForce l dC dI _ h_me_isles h_me_isles_now q_me_isles k_me_isles o_me_isles z8 ez8) kw531 kw528 kw529 kw530 kw115 hd_X2_lawInForce ⟨rfl, rfl⟩ rfl rfl ⟨rfl, rfl⟩ hX hK hw [2] (by decide) rfl rfl rfl rfl rfl hl.1 rfl rfl dX8_of_71) hw hA [2] (by decide) rfl rfl (fun H locs hw => ?_)
          have hw : Wd dC dI A s.heap [wX8 h_me h_me_reader h_me_machine h_me_isles h_me_court h_me_study h_me_paper h_me_paperCourt h_me_past h_me_pastAhead h_me_movingAhead q_me k_me o_me, wX3 h_me_machine q_me_machine k_me_machine o_me_machine, wX2 h_me_isles h_me_isles_now q_me_isles k_me_isles o_me_isles, wX4 h_me_isles_now q_me_isles_now k_me_isles_now o_me_isles_now, wX1 h_me_court h_me_isles h_me_machine q_me_court k_me_court o_me_court, wPL o_pool] H locs := hw
          refine lv_iload_n hx hb dX8_of_74 rfl (lv_at hl 1 rfl) ?_
          refine lv_iload_n hx hb dX8_of_75 rfl (lv_at hl 2 rfl) ?_
          refine lv_bipush (v := 8) hx hb dX8_of_76 (by decide) ?_
          refine lv_isub hx hb dX8_of_78 ?_
          obtain ⟨z9, ez9, h⟩ := z_bd h
          refine xj_i (xrV (As := [va_rf z8, .int p0, .int (p1 - (8 : Int32))]) (rest := []) ⟨hx, hb, hml, hown, hts⟩ (m_X1_runsBy_Q l dC dI _ h_me_court h_me_isles h_me_machine h_me_isles_now q_me_court k_me_court q_me_isles k_me_isles q_me_isles_now k_me_isles_now q_me_machine k_me_machine o_me_court o_me_isles o_me_isles_now o_me_machine o_pool z8 p0 (p1 - (8 : Int32)) z9 ez9) kw543 kw540 kw541 kw542 kw117 hd_X1_runsBy ⟨rfl, rfl⟩ rfl rfl ⟨rfl, rfl⟩ hX hK hw [4, 2, 3, 1, 5] (by decide) rfl rfl rfl rfl rfl hl.1 rfl rfl dX8_of_79) hw hA [4, 2, 3, 1, 5] (by decide) rfl rfl (fun H locs hw => ?_)
          have hw : Wd dC dI A s.heap [wX8 h_me h_me_reader h_me_machine h_me_isles h_me_court h_me_study h_me_paper h_me_paperCourt h_me_past h_me_pastAhead h_me_movingAhead q_me k_me o_me, wX3 h_me_machine q_me_machine k_me_machine z9.2, wX2 h_me_isles h_me_isles_now q_me_isles k_me_isles o_me_isles, wX4 h_me_isles_now q_me_isles_now k_me_isles_now o_me_isles_now, wX1 h_me_court h_me_isles h_me_machine q_me_court k_me_court o_me_court, wPL o_pool] H locs := hw
          have hy := Option.some.inj h
          rw [← hQz, ← hy]
          exact xr_i (v := z9.1) hx hb hr rfl hlk hK hw dX8_of_82
      · have h := z_f h c
        refine lv_aload_n hx hb dX8_of_37 rfl (lv_at hl 0 rfl) ?_
        refine fgX8_2 hx hb hts hown hK hw 0 rfl kw444 dX8_of_38 ?_
        refine fgX2_2 hx hb hts hown hK hw 2 rfl kw305 dX8_of_41 ?_
        refine lv_iload_n hx hb dX8_of_44 rfl (lv_at hl 1 rfl) ?_
        refine lv_iconst (v := 4) hx hb dX8_of_45 (by decide) ?_
        refine lv_imul hx hb dX8_of_46 ?_
        refine lv_iload_n hx hb dX8_of_47 rfl (lv_at hl 2 rfl) ?_
        refine lv_iadd hx hb dX8_of_48 ?_
        refine lv_iconst (v := 4) hx hb dX8_of_49 (by decide) ?_
        refine lv_isub hx hb dX8_of_50 ?_
        obtain ⟨g10, h⟩ := z_gd h
        refine faX2_2 hx hb hK hw 2 rfl rfl g10 dX8_of_51 ?_
        have hy := Option.some.inj h
        rw [← hQz, ← hy]
        exact xr_i (v := gA o_me_isles 2 (((p0 * (4 : Int32)) + p1) - (4 : Int32)).toNatClampNeg) hx hb hr rfl hlk hK hw dX8_of_52
    · have h := z_t h c
      refine lv_aload_n hx hb dX8_of_18 rfl (lv_at hl 0 rfl) ?_
      refine fgX8_2 hx hb hts hown hK hw 0 rfl kw444 dX8_of_19 ?_
      refine fgX2_1 hx hb hts hown hK hw 2 rfl kw301 dX8_of_22 ?_
      refine lv_iload_n hx hb dX8_of_25 rfl (lv_at hl 1 rfl) ?_
      obtain ⟨g11, h⟩ := z_gd h
      refine faX2_1 hx hb hK hw 2 rfl rfl g11 dX8_of_26 ?_
      have hy := Option.some.inj h
      rw [← hQz, ← hy]
      exact xr_i (v := gA o_me_isles 1 p0.toNatClampNeg) hx hb hr rfl hlk hK hw dX8_of_27
  · have h := z_t h c
    refine lv_iconst (v := (-1)) hx hb dX8_of_11 (by decide) ?_
    have hy := Option.some.inj h
    rw [← hQz, ← hy]
    exact xr_i (v := (-1 : Int32)) hx hb hr rfl hlk hK hw dX8_of_12

def f_X0_clear (nc_me : Nat) (ns_me : Nat) (o_me : Ob) : Option (Ob) :=
  zlt (sI o_me 7 (0 : Int32)) fun o1 =>
  zlt (sI o1 8 (0 : Int32)) fun o2 =>
  some o2
set_option maxHeartbeats 4000000 in
set_option maxRecDepth 100000 in
theorem m_X0_clear (l : Launch) (dC : Nat → ClassId) (dI : Nat → Nat → Nat) (sz : Nat) (h_me : Nat) (q_me : Nat → Nat) (k_me : Nat → ClassId) (nc_me : Nat) (ns_me : Nat) (o_me : Ob) (y : Ob) (h : f_X0_clear nc_me ns_me o_me = some y) : CV l yX0_clear cX0_clear 1 none ({ frames := 0, cells := 0, slots := 0, locals := 0 } : Room) dC dI sz [.ref h_me] [wX0 h_me nc_me ns_me q_me k_me o_me] [tX0 k_me] [wX0 h_me nc_me ns_me q_me k_me y] := by
  refine CC_of (by decide) (Nat.le_of_ble_eq_true rfl) ?_
  intro p e s m below meth c A ls hx hb hml hr hlk hnm hown hts hX hK hP hD hA hl
  have hl : lv_has ls 1 [(0, .ref h_me)] := hl
  have hown : s.vm.findClass RX0 = some m.cls := hown
  have hw : Wd dC dI A s.heap [wX0 h_me nc_me ns_me q_me k_me o_me] s.heap [] := ⟨hP, hD, va_S.rf⟩
  generalize hQz : (MQ below (QV dC dI (fun (_ : Unit) => True) (fun _ => Jn [wX0 h_me nc_me ns_me q_me k_me y]) (fun _ => Jt [tX0 k_me]) A) ([.ref h_me] : List Value).toArray s 0 0 A) = Qz
  clear hP hD hnm
  unfold f_X0_clear at h
  refine lv_aload_n hx hb dX0_clear_0 rfl (lv_at hl 0 rfl) ?_
  refine lv_iconst (v := 0) hx hb dX0_clear_1 (by decide) ?_
  refine fpX0_7 hx hb hts hown hK hw 0 rfl kw174 dX0_clear_2 (fun H locs hw => ?_)
  obtain ⟨o1, eo1, h⟩ := z_lt h
  have hw : Wd dC dI A s.heap [wX0 h_me nc_me ns_me q_me k_me o1] H locs := by rw [eo1]; exact hw
  refine lv_aload_n hx hb dX0_clear_5 rfl (lv_at hl 0 rfl) ?_
  refine lv_iconst (v := 0) hx hb dX0_clear_6 (by decide) ?_
  refine fpX0_8 hx hb hts hown hK hw 0 rfl kw178 dX0_clear_7 (fun H locs hw => ?_)
  obtain ⟨o2, eo2, h⟩ := z_lt h
  have hw : Wd dC dI A s.heap [wX0 h_me nc_me ns_me q_me k_me o2] H locs := by rw [eo2]; exact hw
  have hy := Option.some.inj h
  rw [← hQz, ← hy]
  exact xr_v hx hb hr hlk hK hw dX0_clear_10

def f_X6_byteAt (o_me : Ob) (p0 : Int32) : Option (Int32) :=
  if p0 < (0 : Int32) then
  (some (-1 : Int32))
  else
  (if (gI o_me 2) ≤ p0 then
  (some (-1 : Int32))
  else
  (if (400 : Int32) ≤ p0 then
  (some (-1 : Int32))
  else
  (zgd (zin p0 400) <|
  some (gA o_me 0 p0.toNatClampNeg))))
set_option maxHeartbeats 4000000 in
set_option maxRecDepth 100000 in
theorem m_X6_byteAt (l : Launch) (dC : Nat → ClassId) (dI : Nat → Nat → Nat) (sz : Nat) (h_me : Nat) (h_me_code : Nat) (q_me : Nat → Nat) (k_me : Nat → ClassId) (o_me : Ob) (p0 : Int32) (y : Int32) (h : f_X6_byteAt o_me p0 = some y) : CI l yX6_byteAt cX6_byteAt 2 (some .int) ({ frames := 0, cells := 0, slots := 0, locals := 0 } : Room) dC dI sz [.ref h_me, .int p0] [wX6 h_me h_me_code q_me k_me o_me] [tX6 k_me] y [wX6 h_me h_me_code q_me k_me o_me] := by
  refine CC_of (by decide) (Nat.le_of_ble_eq_true rfl) ?_
  intro p e s m below meth c A ls hx hb hml hr hlk hnm hown hts hX hK hP hD hA hl
  have hl : lv_has ls 2 [(0, .ref h_me), (1, .int p0)] := hl
  have hown : s.vm.findClass RX6 = some m.cls := hown
  have hw : Wd dC dI A s.heap [wX6 h_me h_me_code q_me k_me o_me] s.heap [] := ⟨hP, hD, va_S.rf⟩
  generalize hQz : (MQ below (QI dC dI (fun r (_ : Unit) => r = y) (fun _ => Jn [wX6 h_me h_me_code q_me k_me o_me]) (fun _ => Jt [tX6 k_me]) A) ([.ref h_me, .int p0] : List Value).toArray s 0 0 A) = Qz
  clear hP hD hnm
  unfold f_X6_byteAt at h
  refine lv_iload_n hx hb dX6_byteAt_0 rfl (lv_at hl 1 rfl) ?_
  refine lv_if_lt (tgt := 28) hx hb dX6_byteAt_1 (by decide) (fun c => ?_) (fun c => ?_)
  · have h := z_t h c
    refine lv_iconst (v := (-1)) hx hb dX6_byteAt_28 (by decide) ?_
    have hy := Option.some.inj h
    rw [← hQz, ← hy]
    exact xr_i (v := (-1 : Int32)) hx hb hr rfl hlk hK hw dX6_byteAt_29
  · have h := z_f h c
    refine lv_iload_n hx hb dX6_byteAt_4 rfl (lv_at hl 1 rfl) ?_
    refine lv_aload_n hx hb dX6_byteAt_5 rfl (lv_at hl 0 rfl) ?_
    refine fgX6_2 hx hb hts hown hK hw 0 rfl kw204 dX6_byteAt_6 ?_
    refine lv_icmp_ge (tgt := 28) hx hb dX6_byteAt_9 (by decide) (fun c => ?_) (fun c => ?_)
    · have h := z_t h c
      refine lv_iconst (v := (-1)) hx hb dX6_byteAt_28 (by decide) ?_
      have hy := Option.some.inj h
      rw [← hQz, ← hy]
      exact xr_i (v := (-1 : Int32)) hx hb hr rfl hlk hK hw dX6_byteAt_29
    · have h := z_f h c
      refine lv_iload_n hx hb dX6_byteAt_12 rfl (lv_at hl 1 rfl) ?_
      refine lv_sipush (v := 400) hx hb dX6_byteAt_13 (by decide) ?_
      refine lv_icmp_ge (tgt := 28) hx hb dX6_byteAt_16 (by decide) (fun c => ?_) (fun c => ?_)
      · have h := z_t h c
        refine lv_iconst (v := (-1)) hx hb dX6_byteAt_28 (by decide) ?_
        have hy := Option.some.inj h
        rw [← hQz, ← hy]
        exact xr_i (v := (-1 : Int32)) hx hb hr rfl hlk hK hw dX6_byteAt_29
      · have h := z_f h c
        refine lv_aload_n hx hb dX6_byteAt_19 rfl (lv_at hl 0 rfl) ?_
        refine fgX6_0 hx hb hts hown hK hw 0 rfl kw201 dX6_byteAt_20 ?_
        refine lv_iload_n hx hb dX6_byteAt_23 rfl (lv_at hl 1 rfl) ?_
        obtain ⟨g1, h⟩ := z_gd h
        refine faX6_0 hx hb hK hw 0 rfl rfl g1 dX6_byteAt_24 ?_
        refine lv_goto (tgt := 29) hx hb dX6_byteAt_25 (by decide) ?_
        have hy := Option.some.inj h
        rw [← hQz, ← hy]
        exact xr_i (v := gA o_me 0 p0.toNatClampNeg) hx hb hr rfl hlk hK hw dX6_byteAt_29

def f_X6_isLetter (p0 : Int32) : Option (Int32) :=
  if p0 < (97 : Int32) then
  (some (0 : Int32))
  else
  (if (122 : Int32) < p0 then
  (some (0 : Int32))
  else
  (some (1 : Int32)))
set_option maxHeartbeats 4000000 in
set_option maxRecDepth 100000 in
theorem m_X6_isLetter (l : Launch) (dC : Nat → ClassId) (dI : Nat → Nat → Nat) (sz : Nat)  (p0 : Int32) (y : Int32) (h : f_X6_isLetter p0 = some y) : CI l yX6_isLetter cX6_isLetter 1 (some .boolean) ({ frames := 0, cells := 0, slots := 0, locals := 0 } : Room) dC dI sz [.int p0] [] [] y [] := by
  refine CC_of (by decide) (Nat.le_of_ble_eq_true rfl) ?_
  intro p e s m below meth c A ls hx hb hml hr hlk hnm hown hts hX hK hP hD hA hl
  have hl : lv_has ls 1 [(0, .int p0)] := hl
  have hown : s.vm.findClass RX6 = some m.cls := hown
  have hw : Wd dC dI A s.heap [] s.heap [] := ⟨hP, hD, va_S.rf⟩
  generalize hQz : (MQ below (QI dC dI (fun r (_ : Unit) => r = y) (fun _ => Jn []) (fun _ => Jt []) A) ([.int p0] : List Value).toArray s 0 0 A) = Qz
  clear hP hD hnm
  unfold f_X6_isLetter at h
  refine lv_iload_n hx hb dX6_isLetter_0 rfl (lv_at hl 0 rfl) ?_
  refine lv_bipush (v := 97) hx hb dX6_isLetter_1 (by decide) ?_
  refine lv_icmp_lt (tgt := 16) hx hb dX6_isLetter_3 (by decide) (fun c => ?_) (fun c => ?_)
  · have h := z_t h c
    refine lv_iconst (v := 0) hx hb dX6_isLetter_16 (by decide) ?_
    have hy := Option.some.inj h
    rw [← hQz, ← hy]
    exact xr_i (v := (0 : Int32)) hx hb hr rfl hlk hK hw dX6_isLetter_17
  · have h := z_f h c
    refine lv_iload_n hx hb dX6_isLetter_6 rfl (lv_at hl 0 rfl) ?_
    refine lv_bipush (v := 122) hx hb dX6_isLetter_7 (by decide) ?_
    refine lv_icmp_gt (tgt := 16) hx hb dX6_isLetter_9 (by decide) (fun c => ?_) (fun c => ?_)
    · have h := z_t h c
      refine lv_iconst (v := 0) hx hb dX6_isLetter_16 (by decide) ?_
      have hy := Option.some.inj h
      rw [← hQz, ← hy]
      exact xr_i (v := (0 : Int32)) hx hb hr rfl hlk hK hw dX6_isLetter_17
    · have h := z_f h c
      refine lv_iconst (v := 1) hx hb dX6_isLetter_12 (by decide) ?_
      refine lv_goto (tgt := 17) hx hb dX6_isLetter_13 (by decide) ?_
      have hy := Option.some.inj h
      rw [← hQz, ← hy]
      exact xr_i (v := (1 : Int32)) hx hb hr rfl hlk hK hw dX6_isLetter_17

def f_X6_isDigit (p0 : Int32) : Option (Int32) :=
  if p0 < (48 : Int32) then
  (some (0 : Int32))
  else
  (if (57 : Int32) < p0 then
  (some (0 : Int32))
  else
  (some (1 : Int32)))
set_option maxHeartbeats 4000000 in
set_option maxRecDepth 100000 in
theorem m_X6_isDigit (l : Launch) (dC : Nat → ClassId) (dI : Nat → Nat → Nat) (sz : Nat)  (p0 : Int32) (y : Int32) (h : f_X6_isDigit p0 = some y) : CI l yX6_isDigit cX6_isDigit 1 (some .boolean) ({ frames := 0, cells := 0, slots := 0, locals := 0 } : Room) dC dI sz [.int p0] [] [] y [] := by
  refine CC_of (by decide) (Nat.le_of_ble_eq_true rfl) ?_
  intro p e s m below meth c A ls hx hb hml hr hlk hnm hown hts hX hK hP hD hA hl
  have hl : lv_has ls 1 [(0, .int p0)] := hl
  have hown : s.vm.findClass RX6 = some m.cls := hown
  have hw : Wd dC dI A s.heap [] s.heap [] := ⟨hP, hD, va_S.rf⟩
  generalize hQz : (MQ below (QI dC dI (fun r (_ : Unit) => r = y) (fun _ => Jn []) (fun _ => Jt []) A) ([.int p0] : List Value).toArray s 0 0 A) = Qz
  clear hP hD hnm
  unfold f_X6_isDigit at h
  refine lv_iload_n hx hb dX6_isDigit_0 rfl (lv_at hl 0 rfl) ?_
  refine lv_bipush (v := 48) hx hb dX6_isDigit_1 (by decide) ?_
  refine lv_icmp_lt (tgt := 16) hx hb dX6_isDigit_3 (by decide) (fun c => ?_) (fun c => ?_)
  · have h := z_t h c
    refine lv_iconst (v := 0) hx hb dX6_isDigit_16 (by decide) ?_
    have hy := Option.some.inj h
    rw [← hQz, ← hy]
    exact xr_i (v := (0 : Int32)) hx hb hr rfl hlk hK hw dX6_isDigit_17
  · have h := z_f h c
    refine lv_iload_n hx hb dX6_isDigit_6 rfl (lv_at hl 0 rfl) ?_
    refine lv_bipush (v := 57) hx hb dX6_isDigit_7 (by decide) ?_
    refine lv_icmp_gt (tgt := 16) hx hb dX6_isDigit_9 (by decide) (fun c => ?_) (fun c => ?_)
    · have h := z_t h c
      refine lv_iconst (v := 0) hx hb dX6_isDigit_16 (by decide) ?_
      have hy := Option.some.inj h
      rw [← hQz, ← hy]
      exact xr_i (v := (0 : Int32)) hx hb hr rfl hlk hK hw dX6_isDigit_17
    · have h := z_f h c
      refine lv_iconst (v := 1) hx hb dX6_isDigit_12 (by decide) ?_
      refine lv_goto (tgt := 17) hx hb dX6_isDigit_13 (by decide) ?_
      have hy := Option.some.inj h
      rw [← hQz, ← hy]
      exact xr_i (v := (1 : Int32)) hx hb hr rfl hlk hK hw dX6_isDigit_17

def lb_X6_step_149   (rec_149_2 : Ob → Option (Ob)) (o_me : Ob) : Option (Ob) :=
  if (gI o_me 2) ≤ (gI o_me 8) then
  (some o_me)
  else
  ((f_X6_byteAt o_me (gI o_me 8)).bind fun z13 =>
  (f_X6_isDigit z13).bind fun z14 =>
  if z14 = (0 : Int32) then
  (some o_me)
  else
  ((f_X6_byteAt o_me (gI o_me 8)).bind fun z15 =>
  zlt (sI o_me 9 (if ((((gI o_me 9) * (10 : Int32)) + z15) - (48 : Int32)) < (1001 : Int32) then ((((gI o_me 9) * (10 : Int32)) + z15) - (48 : Int32)) else (1001 : Int32))) fun o16 =>
  zlt (sI o16 8 ((gI o16 8) + (1 : Int32))) fun o17 =>
  rec_149_2 o17))
def lp_X6_step_149   : Nat → Ob → Option (Ob) := zit (fun rec a => lb_X6_step_149   rec a)
def lb_X6_step_83   (rec_83_3 : Ob → Option (Ob)) (o_me : Ob) : Option (Ob) :=
  if (gI o_me 2) ≤ (gI o_me 8) then
  (some o_me)
  else
  ((f_X6_byteAt o_me (gI o_me 8)).bind fun z19 =>
  (f_X6_isLetter z19).bind fun z20 =>
  if z20 = (0 : Int32) then
  (some o_me)
  else
  (zlt (sI o_me 8 ((gI o_me 8) + (1 : Int32))) fun o21 =>
  rec_83_3 o21))
def lp_X6_step_83   : Nat → Ob → Option (Ob) := zit (fun rec a => lb_X6_step_83   rec a)
def bk_X6_step_29   (v1 : Int32) (o_me : Ob) : Option (Ob) :=
  zlt (sI o_me 7 v1) fun o2 =>
  zlt (sI o2 8 (v1 + (1 : Int32))) fun o3 =>
  zlt (sI o3 9 (0 : Int32)) fun o4 =>
  if v1 < (gI o4 2) then
  ((f_X6_byteAt o4 v1).bind fun z5 =>
  (f_X6_isLetter z5).bind fun z6 =>
  if z6 = (0 : Int32) then
  ((f_X6_byteAt o4 v1).bind fun z7 =>
  (f_X6_isDigit z7).bind fun z8 =>
  if z8 = (0 : Int32) then
  (zlt (sI o4 6 (3 : Int32)) fun o9 =>
  some o9)
  else
  (zlt (sI o4 6 (2 : Int32)) fun o10 =>
  (f_X6_byteAt o10 v1).bind fun z11 =>
  zlt (sI o10 9 (z11 - (48 : Int32))) fun o12 =>
  lp_X6_step_149   zfu o12))
  else
  (zlt (sI o4 6 (1 : Int32)) fun o18 =>
  lp_X6_step_83   zfu o18))
  else
  (zlt (sI o4 6 (0 : Int32)) fun o22 =>
  zlt (sI o22 8 v1) fun o23 =>
  some o23)
def lb_X6_step_5   (rec_5_0 : Int32 × Ob → Option (Ob)) (v1 : Int32) (o_me : Ob) : Option (Ob) :=
  if (gI o_me 2) ≤ v1 then
  (bk_X6_step_29   v1 o_me)
  else
  ((f_X6_byteAt o_me v1).bind fun z24 =>
  if z24 = (32 : Int32) then
  (zlt (v1 + (1 : Int32)) fun x25 =>
  rec_5_0 (x25, o_me))
  else
  (bk_X6_step_29   v1 o_me))
def lp_X6_step_5   : Nat → (Int32 × Ob) → Option (Ob) := zit (fun rec a => lb_X6_step_5   rec a.1 a.2)
def f_X6_step (o_me : Ob) : Option (Ob) :=
  zlt (gI o_me 8) fun x1 =>
  lp_X6_step_5   zfu (x1, o_me)
set_option maxHeartbeats 4000000 in
set_option maxRecDepth 100000 in
theorem m_X6_step (l : Launch) (dC : Nat → ClassId) (dI : Nat → Nat → Nat) (sz : Nat) (h_me : Nat) (h_me_code : Nat) (q_me : Nat → Nat) (k_me : Nat → ClassId) (o_me : Ob) (y : Ob) (h : f_X6_step o_me = some y) : CV l yX6_step cX6_step 2 none ({ frames := 1, cells := 0, slots := 0, locals := 21 } : Room) dC dI sz [.ref h_me] [wX6 h_me h_me_code q_me k_me o_me] [tX6 k_me] [wX6 h_me h_me_code q_me k_me y] := by
  refine CC_of (by decide) (Nat.le_of_ble_eq_true rfl) ?_
  intro p e s m below meth c A ls hx hb hml hr hlk hnm hown hts hX hK hP hD hA hl
  have hl : lv_has ls 2 [(0, .ref h_me)] := hl
  have hown : s.vm.findClass RX6 = some m.cls := hown
  have hw : Wd dC dI A s.heap [wX6 h_me h_me_code q_me k_me o_me] s.heap [] := ⟨hP, hD, va_S.rf⟩
  generalize hQz : (MQ below (QV dC dI (fun (_ : Unit) => True) (fun _ => Jn [wX6 h_me h_me_code q_me k_me y]) (fun _ => Jt [tX6 k_me]) A) ([.ref h_me] : List Value).toArray s 0 0 A) = Qz
  clear hP hD hnm
  have lp_149_2 : ∀ (N : Nat), ∀ (o_me : Ob) (H : Heap) (locs : List Loc) (ls : Array Slot), lp_X6_step_149   N o_me = some y → Wd dC dI A s.heap [wX6 h_me h_me_code q_me k_me o_me] H locs → lv_has ls 2 [(0, .ref h_me)] → W p l e ({ frames := 1, cells := 0, slots := 0, locals := 21 } : Room) s m ([.ref h_me] : List Value).toArray below meth c H locs 0 0 Qz (F0 m 149 ls []) := by
    intro N
    induction N with
    | zero =>
      intro o_me H locs ls h hw hl
      exact absurd (show (none : Option (Ob)) = some y from h) (by simp)
    | succ N ih =>
      intro o_me H locs ls h hw hl
      have h : lb_X6_step_149   (lp_X6_step_149   N) o_me = some y := h
      unfold lb_X6_step_149 at h
      refine lv_aload_n hx hb dX6_step_149 rfl (lv_at hl 0 rfl) ?_
      refine fgX6_8 hx hb hts hown hK hw 0 rfl kw212 dX6_step_150 ?_
      refine lv_aload_n hx hb dX6_step_153 rfl (lv_at hl 0 rfl) ?_
      refine fgX6_2 hx hb hts hown hK hw 0 rfl kw204 dX6_step_154 ?_
      refine lv_icmp_ge (tgt := 221) hx hb dX6_step_157 (by decide) (fun c => ?_) (fun c => ?_)
      · have h := z_t h c
        have hy := Option.some.inj h
        rw [← hQz, ← hy]
        exact xr_v hx hb hr hlk hK hw dX6_step_221
      · have h := z_f h c
        refine lv_aload_n hx hb dX6_step_160 rfl (lv_at hl 0 rfl) ?_
        refine lv_aload_n hx hb dX6_step_161 rfl (lv_at hl 0 rfl) ?_
        refine fgX6_8 hx hb hts hown hK hw 0 rfl kw212 dX6_step_162 ?_
        obtain ⟨z13, ez13, h⟩ := z_bd h
        refine xj_i (xrV (As := [.int (gI o_me 8)]) (rest := []) ⟨hx, hb, hml, hown, hts⟩ (m_X6_byteAt l dC dI _ h_me h_me_code q_me k_me o_me (gI o_me 8) z13 ez13) kw655 kw676 kw653 kw654 kw111 hd_X6_byteAt ⟨rfl, rfl⟩ rfl rfl ⟨rfl, rfl⟩ hX hK hw [0] (by decide) rfl rfl rfl rfl rfl hl.1 rfl rfl dX6_step_165) hw hA [0] (by decide) rfl rfl (fun H locs hw => ?_)
        have hw : Wd dC dI A s.heap [wX6 h_me h_me_code q_me k_me o_me] H locs := hw
        obtain ⟨z14, ez14, h⟩ := z_bd h
        refine xj_i (xrS (As := [.int z13]) (rest := []) ⟨hx, hb, hml, hown, hts⟩ (m_X6_isDigit l dC dI _  z13 z14 ez14) kw682 kw680 kw681 kw111 hd_X6_isDigit ⟨rfl, rfl⟩ rfl rfl ⟨rfl, rfl⟩ hX hK hw [] (by decide) rfl rfl hl.1 rfl rfl dX6_step_168) hw hA [] (by decide) rfl rfl (fun H locs hw => ?_)
        refine lv_if_eq (tgt := 221) hx hb dX6_step_171 (by decide) (fun c => ?_) (fun c => ?_)
        · have h := z_t h c
          have hy := Option.some.inj h
          rw [← hQz, ← hy]
          exact xr_v hx hb hr hlk hK hw dX6_step_221
        · have h := z_f h c
          refine lv_aload_n hx hb dX6_step_174 rfl (lv_at hl 0 rfl) ?_
          refine lv_sipush (v := 1001) hx hb dX6_step_175 (by decide) ?_
          refine lv_aload_n hx hb dX6_step_178 rfl (lv_at hl 0 rfl) ?_
          refine fgX6_9 hx hb hts hown hK hw 0 rfl kw213 dX6_step_179 ?_
          refine lv_bipush (v := 10) hx hb dX6_step_182 (by decide) ?_
          refine lv_imul hx hb dX6_step_184 ?_
          refine lv_aload_n hx hb dX6_step_185 rfl (lv_at hl 0 rfl) ?_
          refine lv_aload_n hx hb dX6_step_186 rfl (lv_at hl 0 rfl) ?_
          refine fgX6_8 hx hb hts hown hK hw 0 rfl kw212 dX6_step_187 ?_
          obtain ⟨z15, ez15, h⟩ := z_bd h
          refine xj_i (xrV (As := [.int (gI o_me 8)]) (rest := [.int ((gI o_me 9) * (10 : Int32)), .int (1001 : Int32), .ref h_me]) ⟨hx, hb, hml, hown, hts⟩ (m_X6_byteAt l dC dI _ h_me h_me_code q_me k_me o_me (gI o_me 8) z15 ez15) kw655 kw676 kw653 kw654 kw111 hd_X6_byteAt ⟨rfl, rfl⟩ rfl rfl ⟨rfl, rfl⟩ hX hK hw [0] (by decide) rfl rfl rfl rfl rfl hl.1 rfl rfl dX6_step_190) hw hA [0] (by decide) rfl rfl (fun H locs hw => ?_)
          have hw : Wd dC dI A s.heap [wX6 h_me h_me_code q_me k_me o_me] H locs := hw
          refine lv_iadd hx hb dX6_step_193 ?_
          refine lv_bipush (v := 48) hx hb dX6_step_194 (by decide) ?_
          refine lv_isub hx hb dX6_step_196 ?_
          refine va_mmin hx hb (hml.trans hl.1.symm) hown (hts _ kw683) (hts _ kw561) (hts _ kw113) (hts _ kw562) (Nat.le_of_ble_eq_true rfl) (Nat.le_of_ble_eq_true rfl) (Nat.le_of_ble_eq_true rfl) (Nat.le_of_ble_eq_true rfl) dX6_step_197 ?_
          refine fpX6_9 hx hb hts hown hK hw 0 rfl kw213 dX6_step_200 (fun H locs hw => ?_)
          obtain ⟨o16, eo16, h⟩ := z_lt h
          have hw : Wd dC dI A s.heap [wX6 h_me h_me_code q_me k_me o16] H locs := by rw [eo16]; exact hw
          refine lv_aload_n hx hb dX6_step_203 rfl (lv_at hl 0 rfl) ?_
          refine lv_dup hx hb dX6_step_204 rfl ?_
          refine fgX6_8 hx hb hts hown hK hw 0 rfl kw212 dX6_step_205 ?_
          refine lv_iconst (v := 1) hx hb dX6_step_208 (by decide) ?_
          refine lv_iadd hx hb dX6_step_209 ?_
          refine fpX6_8 hx hb hts hown hK hw 0 rfl kw212 dX6_step_210 (fun H locs hw => ?_)
          obtain ⟨o17, eo17, h⟩ := z_lt h
          have hw : Wd dC dI A s.heap [wX6 h_me h_me_code q_me k_me o17] H locs := by rw [eo17]; exact hw
          refine lv_goto (tgt := 149) hx hb dX6_step_213 (by decide) ?_
          exact ih o17 _ _ _ h hw (lv_sub hl [0] rfl)
  have lp_83_3 : ∀ (N : Nat), ∀ (o_me : Ob) (H : Heap) (locs : List Loc) (ls : Array Slot), lp_X6_step_83   N o_me = some y → Wd dC dI A s.heap [wX6 h_me h_me_code q_me k_me o_me] H locs → lv_has ls 2 [(0, .ref h_me)] → W p l e ({ frames := 1, cells := 0, slots := 0, locals := 21 } : Room) s m ([.ref h_me] : List Value).toArray below meth c H locs 0 0 Qz (F0 m 83 ls []) := by
    intro N
    induction N with
    | zero =>
      intro o_me H locs ls h hw hl
      exact absurd (show (none : Option (Ob)) = some y from h) (by simp)
    | succ N ih =>
      intro o_me H locs ls h hw hl
      have h : lb_X6_step_83   (lp_X6_step_83   N) o_me = some y := h
      unfold lb_X6_step_83 at h
      refine lv_aload_n hx hb dX6_step_83 rfl (lv_at hl 0 rfl) ?_
      refine fgX6_8 hx hb hts hown hK hw 0 rfl kw212 dX6_step_84 ?_
      refine lv_aload_n hx hb dX6_step_87 rfl (lv_at hl 0 rfl) ?_
      refine fgX6_2 hx hb hts hown hK hw 0 rfl kw204 dX6_step_88 ?_
      refine lv_icmp_ge (tgt := 221) hx hb dX6_step_91 (by decide) (fun c => ?_) (fun c => ?_)
      · have h := z_t h c
        have hy := Option.some.inj h
        rw [← hQz, ← hy]
        exact xr_v hx hb hr hlk hK hw dX6_step_221
      · have h := z_f h c
        refine lv_aload_n hx hb dX6_step_94 rfl (lv_at hl 0 rfl) ?_
        refine lv_aload_n hx hb dX6_step_95 rfl (lv_at hl 0 rfl) ?_
        refine fgX6_8 hx hb hts hown hK hw 0 rfl kw212 dX6_step_96 ?_
        obtain ⟨z19, ez19, h⟩ := z_bd h
        refine xj_i (xrV (As := [.int (gI o_me 8)]) (rest := []) ⟨hx, hb, hml, hown, hts⟩ (m_X6_byteAt l dC dI _ h_me h_me_code q_me k_me o_me (gI o_me 8) z19 ez19) kw655 kw676 kw653 kw654 kw111 hd_X6_byteAt ⟨rfl, rfl⟩ rfl rfl ⟨rfl, rfl⟩ hX hK hw [0] (by decide) rfl rfl rfl rfl rfl hl.1 rfl rfl dX6_step_99) hw hA [0] (by decide) rfl rfl (fun H locs hw => ?_)
        have hw : Wd dC dI A s.heap [wX6 h_me h_me_code q_me k_me o_me] H locs := hw
        obtain ⟨z20, ez20, h⟩ := z_bd h
        refine xj_i (xrS (As := [.int z19]) (rest := []) ⟨hx, hb, hml, hown, hts⟩ (m_X6_isLetter l dC dI _  z19 z20 ez20) kw679 kw677 kw678 kw111 hd_X6_isLetter ⟨rfl, rfl⟩ rfl rfl ⟨rfl, rfl⟩ hX hK hw [] (by decide) rfl rfl hl.1 rfl rfl dX6_step_102) hw hA [] (by decide) rfl rfl (fun H locs hw => ?_)
        refine lv_if_eq (tgt := 221) hx hb dX6_step_105 (by decide) (fun c => ?_) (fun c => ?_)
        · have h := z_t h c
          have hy := Option.some.inj h
          rw [← hQz, ← hy]
          exact xr_v hx hb hr hlk hK hw dX6_step_221
        · have h := z_f h c
          refine lv_aload_n hx hb dX6_step_108 rfl (lv_at hl 0 rfl) ?_
          refine lv_dup hx hb dX6_step_109 rfl ?_
          refine fgX6_8 hx hb hts hown hK hw 0 rfl kw212 dX6_step_110 ?_
          refine lv_iconst (v := 1) hx hb dX6_step_113 (by decide) ?_
          refine lv_iadd hx hb dX6_step_114 ?_
          refine fpX6_8 hx hb hts hown hK hw 0 rfl kw212 dX6_step_115 (fun H locs hw => ?_)
          obtain ⟨o21, eo21, h⟩ := z_lt h
          have hw : Wd dC dI A s.heap [wX6 h_me h_me_code q_me k_me o21] H locs := by rw [eo21]; exact hw
          refine lv_goto (tgt := 83) hx hb dX6_step_118 (by decide) ?_
          exact ih o21 _ _ _ h hw (lv_sub hl [0] rfl)
  have bk_29_1 : ∀ (v1 : Int32) (o_me : Ob) (H : Heap) (locs : List Loc) (ls : Array Slot), bk_X6_step_29   v1 o_me = some y → Wd dC dI A s.heap [wX6 h_me h_me_code q_me k_me o_me] H locs → lv_has ls 2 [(0, .ref h_me), (1, .int v1)] → W p l e ({ frames := 1, cells := 0, slots := 0, locals := 21 } : Room) s m ([.ref h_me] : List Value).toArray below meth c H locs 0 0 Qz (F0 m 29 ls []) := by
    intro v1 o_me H locs ls h hw hl
    unfold bk_X6_step_29 at h
    refine lv_aload_n hx hb dX6_step_29 rfl (lv_at hl 0 rfl) ?_
    refine lv_iload_n hx hb dX6_step_30 rfl (lv_at hl 1 rfl) ?_
    refine fpX6_7 hx hb hts hown hK hw 0 rfl kw211 dX6_step_31 (fun H locs hw => ?_)
    obtain ⟨o2, eo2, h⟩ := z_lt h
    have hw : Wd dC dI A s.heap [wX6 h_me h_me_code q_me k_me o2] H locs := by rw [eo2]; exact hw
    refine lv_aload_n hx hb dX6_step_34 rfl (lv_at hl 0 rfl) ?_
    refine lv_iload_n hx hb dX6_step_35 rfl (lv_at hl 1 rfl) ?_
    refine lv_iconst (v := 1) hx hb dX6_step_36 (by decide) ?_
    refine lv_iadd hx hb dX6_step_37 ?_
    refine fpX6_8 hx hb hts hown hK hw 0 rfl kw212 dX6_step_38 (fun H locs hw => ?_)
    obtain ⟨o3, eo3, h⟩ := z_lt h
    have hw : Wd dC dI A s.heap [wX6 h_me h_me_code q_me k_me o3] H locs := by rw [eo3]; exact hw
    refine lv_aload_n hx hb dX6_step_41 rfl (lv_at hl 0 rfl) ?_
    refine lv_iconst (v := 0) hx hb dX6_step_42 (by decide) ?_
    refine fpX6_9 hx hb hts hown hK hw 0 rfl kw213 dX6_step_43 (fun H locs hw => ?_)
    obtain ⟨o4, eo4, h⟩ := z_lt h
    have hw : Wd dC dI A s.heap [wX6 h_me h_me_code q_me k_me o4] H locs := by rw [eo4]; exact hw
    refine lv_iload_n hx hb dX6_step_46 rfl (lv_at hl 1 rfl) ?_
    refine lv_aload_n hx hb dX6_step_47 rfl (lv_at hl 0 rfl) ?_
    refine fgX6_2 hx hb hts hown hK hw 0 rfl kw204 dX6_step_48 ?_
    refine lv_icmp_lt (tgt := 67) hx hb dX6_step_51 (by decide) (fun c => ?_) (fun c => ?_)
    · have h := z_t h c
      refine lv_aload_n hx hb dX6_step_67 rfl (lv_at hl 0 rfl) ?_
      refine lv_iload_n hx hb dX6_step_68 rfl (lv_at hl 1 rfl) ?_
      obtain ⟨z5, ez5, h⟩ := z_bd h
      refine xj_i (xrV (As := [.int v1]) (rest := []) ⟨hx, hb, hml, hown, hts⟩ (m_X6_byteAt l dC dI _ h_me h_me_code q_me k_me o4 v1 z5 ez5) kw655 kw676 kw653 kw654 kw111 hd_X6_byteAt ⟨rfl, rfl⟩ rfl rfl ⟨rfl, rfl⟩ hX hK hw [0] (by decide) rfl rfl rfl rfl rfl hl.1 rfl rfl dX6_step_69) hw hA [0] (by decide) rfl rfl (fun H locs hw => ?_)
      have hw : Wd dC dI A s.heap [wX6 h_me h_me_code q_me k_me o4] H locs := hw
      obtain ⟨z6, ez6, h⟩ := z_bd h
      refine xj_i (xrS (As := [.int z5]) (rest := []) ⟨hx, hb, hml, hown, hts⟩ (m_X6_isLetter l dC dI _  z5 z6 ez6) kw679 kw677 kw678 kw111 hd_X6_isLetter ⟨rfl, rfl⟩ rfl rfl ⟨rfl, rfl⟩ hX hK hw [] (by decide) rfl rfl hl.1 rfl rfl dX6_step_72) hw hA [] (by decide) rfl rfl (fun H locs hw => ?_)
      refine lv_if_eq (tgt := 121) hx hb dX6_step_75 (by decide) (fun c => ?_) (fun c => ?_)
      · have h := z_t h c
        refine lv_aload_n hx hb dX6_step_121 rfl (lv_at hl 0 rfl) ?_
        refine lv_iload_n hx hb dX6_step_122 rfl (lv_at hl 1 rfl) ?_
        obtain ⟨z7, ez7, h⟩ := z_bd h
        refine xj_i (xrV (As := [.int v1]) (rest := []) ⟨hx, hb, hml, hown, hts⟩ (m_X6_byteAt l dC dI _ h_me h_me_code q_me k_me o4 v1 z7 ez7) kw655 kw676 kw653 kw654 kw111 hd_X6_byteAt ⟨rfl, rfl⟩ rfl rfl ⟨rfl, rfl⟩ hX hK hw [0] (by decide) rfl rfl rfl rfl rfl hl.1 rfl rfl dX6_step_123) hw hA [0] (by decide) rfl rfl (fun H locs hw => ?_)
        have hw : Wd dC dI A s.heap [wX6 h_me h_me_code q_me k_me o4] H locs := hw
        obtain ⟨z8, ez8, h⟩ := z_bd h
        refine xj_i (xrS (As := [.int z7]) (rest := []) ⟨hx, hb, hml, hown, hts⟩ (m_X6_isDigit l dC dI _  z7 z8 ez8) kw682 kw680 kw681 kw111 hd_X6_isDigit ⟨rfl, rfl⟩ rfl rfl ⟨rfl, rfl⟩ hX hK hw [] (by decide) rfl rfl hl.1 rfl rfl dX6_step_126) hw hA [] (by decide) rfl rfl (fun H locs hw => ?_)
        refine lv_if_eq (tgt := 216) hx hb dX6_step_129 (by decide) (fun c => ?_) (fun c => ?_)
        · have h := z_t h c
          refine lv_aload_n hx hb dX6_step_216 rfl (lv_at hl 0 rfl) ?_
          refine lv_iconst (v := 3) hx hb dX6_step_217 (by decide) ?_
          refine fpX6_6 hx hb hts hown hK hw 0 rfl kw210 dX6_step_218 (fun H locs hw => ?_)
          obtain ⟨o9, eo9, h⟩ := z_lt h
          have hw : Wd dC dI A s.heap [wX6 h_me h_me_code q_me k_me o9] H locs := by rw [eo9]; exact hw
          have hy := Option.some.inj h
          rw [← hQz, ← hy]
          exact xr_v hx hb hr hlk hK hw dX6_step_221
        · have h := z_f h c
          refine lv_aload_n hx hb dX6_step_132 rfl (lv_at hl 0 rfl) ?_
          refine lv_iconst (v := 2) hx hb dX6_step_133 (by decide) ?_
          refine fpX6_6 hx hb hts hown hK hw 0 rfl kw210 dX6_step_134 (fun H locs hw => ?_)
          obtain ⟨o10, eo10, h⟩ := z_lt h
          have hw : Wd dC dI A s.heap [wX6 h_me h_me_code q_me k_me o10] H locs := by rw [eo10]; exact hw
          refine lv_aload_n hx hb dX6_step_137 rfl (lv_at hl 0 rfl) ?_
          refine lv_aload_n hx hb dX6_step_138 rfl (lv_at hl 0 rfl) ?_
          refine lv_iload_n hx hb dX6_step_139 rfl (lv_at hl 1 rfl) ?_
          obtain ⟨z11, ez11, h⟩ := z_bd h
          refine xj_i (xrV (As := [.int v1]) (rest := [.ref h_me]) ⟨hx, hb, hml, hown, hts⟩ (m_X6_byteAt l dC dI _ h_me h_me_code q_me k_me o10 v1 z11 ez11) kw655 kw676 kw653 kw654 kw111 hd_X6_byteAt ⟨rfl, rfl⟩ rfl rfl ⟨rfl, rfl⟩ hX hK hw [0] (by decide) rfl rfl rfl rfl rfl hl.1 rfl rfl dX6_step_140) hw hA [0] (by decide) rfl rfl (fun H locs hw => ?_)
          have hw : Wd dC dI A s.heap [wX6 h_me h_me_code q_me k_me o10] H locs := hw
          refine lv_bipush (v := 48) hx hb dX6_step_143 (by decide) ?_
          refine lv_isub hx hb dX6_step_145 ?_
          refine fpX6_9 hx hb hts hown hK hw 0 rfl kw213 dX6_step_146 (fun H locs hw => ?_)
          obtain ⟨o12, eo12, h⟩ := z_lt h
          have hw : Wd dC dI A s.heap [wX6 h_me h_me_code q_me k_me o12] H locs := by rw [eo12]; exact hw
          exact lp_149_2  zfu o12 _ _ _ h hw (lv_sub hl [0] rfl)
      · have h := z_f h c
        refine lv_aload_n hx hb dX6_step_78 rfl (lv_at hl 0 rfl) ?_
        refine lv_iconst (v := 1) hx hb dX6_step_79 (by decide) ?_
        refine fpX6_6 hx hb hts hown hK hw 0 rfl kw210 dX6_step_80 (fun H locs hw => ?_)
        obtain ⟨o18, eo18, h⟩ := z_lt h
        have hw : Wd dC dI A s.heap [wX6 h_me h_me_code q_me k_me o18] H locs := by rw [eo18]; exact hw
        exact lp_83_3  zfu o18 _ _ _ h hw (lv_sub hl [0] rfl)
    · have h := z_f h c
      refine lv_aload_n hx hb dX6_step_54 rfl (lv_at hl 0 rfl) ?_
      refine lv_iconst (v := 0) hx hb dX6_step_55 (by decide) ?_
      refine fpX6_6 hx hb hts hown hK hw 0 rfl kw210 dX6_step_56 (fun H locs hw => ?_)
      obtain ⟨o22, eo22, h⟩ := z_lt h
      have hw : Wd dC dI A s.heap [wX6 h_me h_me_code q_me k_me o22] H locs := by rw [eo22]; exact hw
      refine lv_aload_n hx hb dX6_step_59 rfl (lv_at hl 0 rfl) ?_
      refine lv_iload_n hx hb dX6_step_60 rfl (lv_at hl 1 rfl) ?_
      refine fpX6_8 hx hb hts hown hK hw 0 rfl kw212 dX6_step_61 (fun H locs hw => ?_)
      obtain ⟨o23, eo23, h⟩ := z_lt h
      have hw : Wd dC dI A s.heap [wX6 h_me h_me_code q_me k_me o23] H locs := by rw [eo23]; exact hw
      refine lv_goto (tgt := 221) hx hb dX6_step_64 (by decide) ?_
      have hy := Option.some.inj h
      rw [← hQz, ← hy]
      exact xr_v hx hb hr hlk hK hw dX6_step_221
  have lp_5_0 : ∀ (N : Nat), ∀ (v1 : Int32) (o_me : Ob) (H : Heap) (locs : List Loc) (ls : Array Slot), lp_X6_step_5   N (v1, o_me) = some y → Wd dC dI A s.heap [wX6 h_me h_me_code q_me k_me o_me] H locs → lv_has ls 2 [(0, .ref h_me), (1, .int v1)] → W p l e ({ frames := 1, cells := 0, slots := 0, locals := 21 } : Room) s m ([.ref h_me] : List Value).toArray below meth c H locs 0 0 Qz (F0 m 5 ls []) := by
    intro N
    induction N with
    | zero =>
      intro v1 o_me H locs ls h hw hl
      exact absurd (show (none : Option (Ob)) = some y from h) (by simp)
    | succ N ih =>
      intro v1 o_me H locs ls h hw hl
      have h : lb_X6_step_5   (lp_X6_step_5   N) v1 o_me = some y := h
      unfold lb_X6_step_5 at h
      refine lv_iload_n hx hb dX6_step_5 rfl (lv_at hl 1 rfl) ?_
      refine lv_aload_n hx hb dX6_step_6 rfl (lv_at hl 0 rfl) ?_
      refine fgX6_2 hx hb hts hown hK hw 0 rfl kw204 dX6_step_7 ?_
      refine lv_icmp_ge (tgt := 29) hx hb dX6_step_10 (by decide) (fun c => ?_) (fun c => ?_)
      · have h := z_t h c
        exact bk_29_1  v1 o_me _ _ _ h hw (lv_sub hl [0, 1] rfl)
      · have h := z_f h c
        refine lv_aload_n hx hb dX6_step_13 rfl (lv_at hl 0 rfl) ?_
        refine lv_iload_n hx hb dX6_step_14 rfl (lv_at hl 1 rfl) ?_
        obtain ⟨z24, ez24, h⟩ := z_bd h
        refine xj_i (xrV (As := [.int v1]) (rest := []) ⟨hx, hb, hml, hown, hts⟩ (m_X6_byteAt l dC dI _ h_me h_me_code q_me k_me o_me v1 z24 ez24) kw655 kw676 kw653 kw654 kw111 hd_X6_byteAt ⟨rfl, rfl⟩ rfl rfl ⟨rfl, rfl⟩ hX hK hw [0] (by decide) rfl rfl rfl rfl rfl hl.1 rfl rfl dX6_step_15) hw hA [0] (by decide) rfl rfl (fun H locs hw => ?_)
        have hw : Wd dC dI A s.heap [wX6 h_me h_me_code q_me k_me o_me] H locs := hw
        refine lv_bipush (v := 32) hx hb dX6_step_18 (by decide) ?_
        refine lv_icmp_ne (tgt := 29) hx hb dX6_step_20 (by decide) (fun c => ?_) (fun c => ?_)
        · have h := z_f h c
          exact bk_29_1  v1 o_me _ _ _ h hw (lv_sub hl [0, 1] rfl)
        · have h := z_t h c
          obtain ⟨x25, ex25, h⟩ := z_lt h
          refine lv_iinc (v := x25) (lv' := [(1, .int x25), (0, .ref h_me)]) hx hb dX6_step_23 hl (k := 1) rfl ((congrArg (v1 + ·) (show Int32.ofInt 1 = (1 : Int32) from by decide)).trans ex25.symm) (by decide) rfl (fun ls hl => ?_)
          refine lv_goto (tgt := 5) hx hb dX6_step_26 (by decide) ?_
          exact ih x25 o_me _ _ _ h hw (lv_sub hl [1, 0] rfl)
  unfold f_X6_step at h
  refine lv_aload_n hx hb dX6_step_0 rfl (lv_at hl 0 rfl) ?_
  refine fgX6_8 hx hb hts hown hK hw 0 rfl kw212 dX6_step_1 ?_
  obtain ⟨x1, ex1, h⟩ := z_lt h
  refine lv_fi (v := x1) ex1.symm ?_
  refine lv_istore_n (lv' := [(1, .int x1), (0, .ref h_me)]) hx hb dX6_step_4 rfl hl (by decide) rfl (fun ls hl => ?_)
  exact lp_5_0  zfu x1 o_me _ _ _ h hw (lv_sub hl [1, 0] rfl)

def f_X6_stop (o_me : Ob) : Option (Int32 × Ob) :=
  zlt (sI o_me 3 (gI o_me 7)) fun o1 =>
  some ((0 : Int32), o1)
set_option maxHeartbeats 4000000 in
set_option maxRecDepth 100000 in
theorem m_X6_stop (l : Launch) (dC : Nat → ClassId) (dI : Nat → Nat → Nat) (sz : Nat) (h_me : Nat) (h_me_code : Nat) (q_me : Nat → Nat) (k_me : Nat → ClassId) (o_me : Ob) (y : Int32 × Ob) (h : f_X6_stop o_me = some y) : CI l yX6_stop cX6_stop 1 (some .boolean) ({ frames := 0, cells := 0, slots := 0, locals := 0 } : Room) dC dI sz [.ref h_me] [wX6 h_me h_me_code q_me k_me o_me] [tX6 k_me] y.1 [wX6 h_me h_me_code q_me k_me y.2] := by
  refine CC_of (by decide) (Nat.le_of_ble_eq_true rfl) ?_
  intro p e s m below meth c A ls hx hb hml hr hlk hnm hown hts hX hK hP hD hA hl
  have hl : lv_has ls 1 [(0, .ref h_me)] := hl
  have hown : s.vm.findClass RX6 = some m.cls := hown
  have hw : Wd dC dI A s.heap [wX6 h_me h_me_code q_me k_me o_me] s.heap [] := ⟨hP, hD, va_S.rf⟩
  generalize hQz : (MQ below (QI dC dI (fun r (_ : Unit) => r = y.1) (fun _ => Jn [wX6 h_me h_me_code q_me k_me y.2]) (fun _ => Jt [tX6 k_me]) A) ([.ref h_me] : List Value).toArray s 0 0 A) = Qz
  clear hP hD hnm
  unfold f_X6_stop at h
  refine lv_aload_n hx hb dX6_stop_0 rfl (lv_at hl 0 rfl) ?_
  refine lv_aload_n hx hb dX6_stop_1 rfl (lv_at hl 0 rfl) ?_
  refine fgX6_7 hx hb hts hown hK hw 0 rfl kw211 dX6_stop_2 ?_
  refine fpX6_3 hx hb hts hown hK hw 0 rfl kw206 dX6_stop_5 (fun H locs hw => ?_)
  obtain ⟨o1, eo1, h⟩ := z_lt h
  have hw : Wd dC dI A s.heap [wX6 h_me h_me_code q_me k_me o1] H locs := by rw [eo1]; exact hw
  refine lv_iconst (v := 0) hx hb dX6_stop_8 (by decide) ?_
  have hy := Option.some.inj h
  rw [← hQz, ← hy]
  exact xr_i (v := (0 : Int32)) hx hb hr rfl hlk hK hw dX6_stop_9

def f_J0_coder_7d493 (p9 : Nat) : Option (Int32) :=
  zgd (decide (p9 < 9)) <|
  some (0 : Int32)
set_option maxHeartbeats 4000000 in
set_option maxRecDepth 100000 in
theorem m_J0_coder_7d493 (l : Launch) (dC : Nat → ClassId) (dI : Nat → Nat → Nat) (sz : Nat)  (p9 : Nat) (y : Int32) (h : f_J0_coder_7d493 p9 = some y) : CI l yJ0_coder_7d493 cJ0_coder_7d493 1 (some .byte) ({ frames := 0, cells := 0, slots := 0, locals := 0 } : Room) dC dI sz [.ref (dI 101 p9)] [] [] y [] := by
  refine CC_of (by decide) (Nat.le_of_ble_eq_true rfl) ?_
  intro p e s m below meth c A ls hx hb hml hr hlk hnm hown hts hX hK hP hD hA hl
  have hl : lv_has ls 1 [(0, .ref (dI 101 p9))] := hl
  have hown : s.vm.findClass RJ0 = some m.cls := hown
  have hw : Wd dC dI A s.heap [] s.heap [] := ⟨hP, hD, va_S.rf⟩
  generalize hQz : (MQ below (QI dC dI (fun r (_ : Unit) => r = y) (fun _ => Jn []) (fun _ => Jt []) A) ([.ref (dI 101 p9)] : List Value).toArray s 0 0 A) = Qz
  clear hP hD hnm
  unfold f_J0_coder_7d493 at h
  refine xs_cs hx hb hX hw hts hown kw702 dJ0_coder_7d493_0 ?_
  refine lv_if_eq (tgt := 13) hx hb dJ0_coder_7d493_3 (by decide) (fun c => absurd c (by decide)) (fun _ => ?_)
  refine lv_aload_n hx hb dJ0_coder_7d493_6 rfl (lv_at hl 0 rfl) ?_
  obtain ⟨g1, h⟩ := z_gd h
  refine xs_cod hx hb hX hw hts hown g1 kw1864 dJ0_coder_7d493_7 ?_
  refine lv_goto (tgt := 14) hx hb dJ0_coder_7d493_10 (by decide) ?_
  have hy := Option.some.inj h
  rw [← hQz, ← hy]
  exact xr_i (v := (0 : Int32)) hx hb hr rfl hlk hK hw dJ0_coder_7d493_14

def f_J0_length_8abf5 (p9 : Nat) : Option (Int32) :=
  zgd (decide (p9 < 9)) <|
  zgd (decide (p9 < 9)) <|
  zgd (decide (p9 < 9)) <|
  (f_J0_coder_7d493 p9).bind fun z3 =>
  some ((Int32.ofNat (lnS.getD p9 0)) >>> (z3 &&& 31))
set_option maxHeartbeats 4000000 in
set_option maxRecDepth 100000 in
theorem m_J0_length_8abf5 (l : Launch) (dC : Nat → ClassId) (dI : Nat → Nat → Nat) (sz : Nat)  (p9 : Nat) (y : Int32) (h : f_J0_length_8abf5 p9 = some y) : CI l yJ0_length_8abf5 cJ0_length_8abf5 1 (some .int) ({ frames := 1, cells := 0, slots := 0, locals := 20 } : Room) dC dI sz [.ref (dI 101 p9)] [] [] y [] := by
  refine CC_of (by decide) (Nat.le_of_ble_eq_true rfl) ?_
  intro p e s m below meth c A ls hx hb hml hr hlk hnm hown hts hX hK hP hD hA hl
  have hl : lv_has ls 1 [(0, .ref (dI 101 p9))] := hl
  have hown : s.vm.findClass RJ0 = some m.cls := hown
  have hw : Wd dC dI A s.heap [] s.heap [] := ⟨hP, hD, va_S.rf⟩
  generalize hQz : (MQ below (QI dC dI (fun r (_ : Unit) => r = y) (fun _ => Jn []) (fun _ => Jt []) A) ([.ref (dI 101 p9)] : List Value).toArray s 0 0 A) = Qz
  clear hP hD hnm
  unfold f_J0_length_8abf5 at h
  refine lv_aload_n hx hb dJ0_length_8abf5_0 rfl (lv_at hl 0 rfl) ?_
  obtain ⟨g1, h⟩ := z_gd h
  refine xs_val hx hb hX hw hts hown g1 kw1863 dJ0_length_8abf5_1 ?_
  obtain ⟨g2, h⟩ := z_gd h
  refine xs_len hx hb hX hw g2 dJ0_length_8abf5_4 ?_
  refine lv_aload_n hx hb dJ0_length_8abf5_5 rfl (lv_at hl 0 rfl) ?_
  obtain ⟨g4, h⟩ := z_gd h
  obtain ⟨z3, ez3, h⟩ := z_bd h
  refine xj_i (xrT (As := []) (rest := [.int (Int32.ofNat (lnS.getD p9 0))]) ⟨hx, hb, hml, hown, hts⟩ (m_J0_coder_7d493 l dC dI _  p9 z3 ez3) g4 rfl kw701 kw698 kw699 kw700 kw121 hd_J0_coder_7d493 ⟨rfl, rfl⟩ rfl rfl ⟨rfl, rfl⟩ hX hK hw hl.1 rfl rfl dJ0_length_8abf5_6) hw hA [] (by decide) rfl rfl (fun H locs hw => ?_)
  refine lv_ishr hx hb dJ0_length_8abf5_9 ?_
  have hy := Option.some.inj h
  rw [← hQz, ← hy]
  exact xr_i (v := (Int32.ofNat (lnS.getD p9 0)) >>> (z3 &&& 31)) hx hb hr rfl hlk hK hw dJ0_length_8abf5_10

def f_J0_isLatin1_aae02 (p9 : Nat) : Option (Int32) :=
  zgd (decide (p9 < 9)) <|
  some (1 : Int32)
set_option maxHeartbeats 4000000 in
set_option maxRecDepth 100000 in
theorem m_J0_isLatin1_aae02 (l : Launch) (dC : Nat → ClassId) (dI : Nat → Nat → Nat) (sz : Nat)  (p9 : Nat) (y : Int32) (h : f_J0_isLatin1_aae02 p9 = some y) : CI l yJ0_isLatin1_aae02 cJ0_isLatin1_aae02 1 (some .boolean) ({ frames := 0, cells := 0, slots := 0, locals := 0 } : Room) dC dI sz [.ref (dI 101 p9)] [] [] y [] := by
  refine CC_of (by decide) (Nat.le_of_ble_eq_true rfl) ?_
  intro p e s m below meth c A ls hx hb hml hr hlk hnm hown hts hX hK hP hD hA hl
  have hl : lv_has ls 1 [(0, .ref (dI 101 p9))] := hl
  have hown : s.vm.findClass RJ0 = some m.cls := hown
  have hw : Wd dC dI A s.heap [] s.heap [] := ⟨hP, hD, va_S.rf⟩
  generalize hQz : (MQ below (QI dC dI (fun r (_ : Unit) => r = y) (fun _ => Jn []) (fun _ => Jt []) A) ([.ref (dI 101 p9)] : List Value).toArray s 0 0 A) = Qz
  clear hP hD hnm
  unfold f_J0_isLatin1_aae02 at h
  refine xs_cs hx hb hX hw hts hown kw702 dJ0_isLatin1_aae02_0 ?_
  refine lv_if_eq (tgt := 17) hx hb dJ0_isLatin1_aae02_3 (by decide) (fun c => absurd c (by decide)) (fun _ => ?_)
  refine lv_aload_n hx hb dJ0_isLatin1_aae02_6 rfl (lv_at hl 0 rfl) ?_
  obtain ⟨g1, h⟩ := z_gd h
  refine xs_cod hx hb hX hw hts hown g1 kw1864 dJ0_isLatin1_aae02_7 ?_
  refine lv_if_ne (tgt := 17) hx hb dJ0_isLatin1_aae02_10 (by decide) (fun c => absurd c (by decide)) (fun _ => ?_)
  refine lv_iconst (v := 1) hx hb dJ0_isLatin1_aae02_13 (by decide) ?_
  refine lv_goto (tgt := 18) hx hb dJ0_isLatin1_aae02_14 (by decide) ?_
  have hy := Option.some.inj h
  rw [← hQz, ← hy]
  exact xr_i (v := (1 : Int32)) hx hb hr rfl hlk hK hw dJ0_isLatin1_aae02_18

def bk_J3_checkIndex_8e157_Q_9   (v0 : Int32) (v1 : Int32) (v2 : Option Nat) : Option (Int32) :=
  none
def f_J3_checkIndex_8e157_Q (p0 : Int32) (p1 : Int32) (p2 : Option Nat) : Option (Int32) :=
  if p0 < (0 : Int32) then
  (bk_J3_checkIndex_8e157_Q_9   p0 p1 p2)
  else
  (if p0 < p1 then
  (some p0)
  else
  (bk_J3_checkIndex_8e157_Q_9   p0 p1 p2))
set_option maxHeartbeats 4000000 in
set_option maxRecDepth 100000 in
theorem m_J3_checkIndex_8e157_Q (l : Launch) (dC : Nat → ClassId) (dI : Nat → Nat → Nat) (sz : Nat)  (p0 : Int32) (p1 : Int32) (p2 : Option Nat) (y : Int32) (h : f_J3_checkIndex_8e157_Q p0 p1 p2 = some y) : CI l yJ3_checkIndex_8e157 cJ3_checkIndex_8e157 3 (some .int) ({ frames := 0, cells := 0, slots := 0, locals := 0 } : Room) dC dI sz [.int p0, .int p1, va_rf p2] [] [] y [] := by
  refine CC_of (by decide) (by cases p2 <;> exact Nat.le_of_ble_eq_true rfl) ?_
  intro p e s m below meth c A ls hx hb hml hr hlk hnm hown hts hX hK hP hD hA hl
  have hl : lv_has ls 3 [(0, .int p0), (1, .int p1), (2, va_rf p2)] := by
    have e9 : lv_args 0 [.int p0, .int p1, va_rf p2] = [(0, .int p0), (1, .int p1), (2, va_rf p2)] := by cases p2 <;> rfl
    rw [← e9]; exact hl
  have hown : s.vm.findClass RJ3 = some m.cls := hown
  have hw : Wd dC dI A s.heap [] s.heap [] := ⟨hP, hD, va_S.rf⟩
  generalize hQz : (MQ below (QI dC dI (fun r (_ : Unit) => r = y) (fun _ => Jn []) (fun _ => Jt []) A) ([.int p0, .int p1, va_rf p2] : List Value).toArray s 0 0 A) = Qz
  clear hP hD hnm
  have bk_9_0 : ∀ (v0 : Int32) (v1 : Int32) (v2 : Option Nat) (H : Heap) (locs : List Loc) (ls : Array Slot), bk_J3_checkIndex_8e157_Q_9   v0 v1 v2 = some y → Wd dC dI A s.heap [] H locs → lv_has ls 3 [(0, .int v0), (1, .int v1), (2, va_rf v2)] → W p l e ({ frames := 0, cells := 0, slots := 0, locals := 0 } : Room) s m ([.int p0, .int p1, va_rf p2] : List Value).toArray below meth c H locs 0 0 Qz (F0 m 9 ls []) := by
    intro v0 v1 v2 H locs ls h hw hl
    unfold bk_J3_checkIndex_8e157_Q_9 at h
    refine xaload_n hx hb dJ3_checkIndex_8e157_9 rfl (lv_at hl 2 rfl) ?_
    refine lv_iload_n hx hb dJ3_checkIndex_8e157_10 rfl (lv_at hl 0 rfl) ?_
    refine lv_iload_n hx hb dJ3_checkIndex_8e157_11 rfl (lv_at hl 1 rfl) ?_
    exact absurd h (by simp)
  unfold f_J3_checkIndex_8e157_Q at h
  refine lv_iload_n hx hb dJ3_checkIndex_8e157_0 rfl (lv_at hl 0 rfl) ?_
  refine lv_if_lt (tgt := 9) hx hb dJ3_checkIndex_8e157_1 (by decide) (fun c => ?_) (fun c => ?_)
  · have h := z_t h c
    exact bk_9_0  p0 p1 p2 _ _ _ h hw (lv_sub hl [0, 1, 2] rfl)
  · have h := z_f h c
    refine lv_iload_n hx hb dJ3_checkIndex_8e157_4 rfl (lv_at hl 0 rfl) ?_
    refine lv_iload_n hx hb dJ3_checkIndex_8e157_5 rfl (lv_at hl 1 rfl) ?_
    refine lv_icmp_lt (tgt := 16) hx hb dJ3_checkIndex_8e157_6 (by decide) (fun c => ?_) (fun c => ?_)
    · have h := z_t h c
      refine lv_iload_n hx hb dJ3_checkIndex_8e157_16 rfl (lv_at hl 0 rfl) ?_
      have hy := Option.some.inj h
      rw [← hQz, ← hy]
      exact xr_i (v := p0) hx hb hr rfl hlk hK hw dJ3_checkIndex_8e157_17
    · have h := z_f h c
      exact bk_9_0  p0 p1 p2 _ _ _ h hw (lv_sub hl [0, 1, 2] rfl)

def f_J0_checkIndex_df160 (p0 : Int32) (p1 : Int32) : Option (Unit) :=
  (f_J3_checkIndex_8e157_Q p0 p1 none).bind fun z2 =>
  some ()
set_option maxHeartbeats 4000000 in
set_option maxRecDepth 100000 in
theorem m_J0_checkIndex_df160 (l : Launch) (dC : Nat → ClassId) (dI : Nat → Nat → Nat) (sz : Nat)  (p0 : Int32) (p1 : Int32) (y : Unit) (h : f_J0_checkIndex_df160 p0 p1 = some y) : CV l yJ0_checkIndex_df160 cJ0_checkIndex_df160 2 none ({ frames := 1, cells := 0, slots := 0, locals := 22 } : Room) dC dI sz [.int p0, .int p1] [] [] [] := by
  refine CC_of (by decide) (Nat.le_of_ble_eq_true rfl) ?_
  intro p e s m below meth c A ls hx hb hml hr hlk hnm hown hts hX hK hP hD hA hl
  have hl : lv_has ls 2 [(0, .int p0), (1, .int p1)] := hl
  have hown : s.vm.findClass RJ0 = some m.cls := hown
  have hw : Wd dC dI A s.heap [] s.heap [] := ⟨hP, hD, va_S.rf⟩
  generalize hQz : (MQ below (QV dC dI (fun (_ : Unit) => True) (fun _ => Jn []) (fun _ => Jt []) A) ([.int p0, .int p1] : List Value).toArray s 0 0 A) = Qz
  clear hP hD hnm
  unfold f_J0_checkIndex_df160 at h
  refine lv_iload_n hx hb dJ0_checkIndex_df160_0 rfl (lv_at hl 0 rfl) ?_
  refine lv_iload_n hx hb dJ0_checkIndex_df160_1 rfl (lv_at hl 1 rfl) ?_
  refine xs_sio hx hb hX hw hts hown kw718 dJ0_checkIndex_df160_2 (fun r1 => ?_)
  obtain ⟨z2, ez2, h⟩ := z_bd h
  refine xj_i (xrS (As := [.int p0, .int p1, va_rf r1]) (rest := []) ⟨hx, hb, hml, hown, hts⟩ (m_J3_checkIndex_8e157_Q l dC dI _  p0 p1 r1 z2 ez2) kw722 kw720 kw721 kw123 hd_J3_checkIndex_8e157 ⟨rfl, rfl⟩ rfl rfl ⟨rfl, rfl⟩ hX hK hw [] (by decide) rfl rfl hl.1 rfl rfl dJ0_checkIndex_df160_5) hw hA [] (by decide) rfl rfl (fun H locs hw => ?_)
  refine lv_pop hx hb dJ0_checkIndex_df160_8 rfl ?_
  have hy := Option.some.inj h
  rw [← hQz]
  exact xr_v hx hb hr hlk hK hw dJ0_checkIndex_df160_9

def f_J1_charAt_3b067 (p0 : Nat) (p1 : Int32) : Option (Int32) :=
  zgd (decide (p0 < 9)) <|
  (f_J0_checkIndex_df160 p1 (Int32.ofNat (lnS.getD p0 0))).bind fun z2 =>
  zgd (decide (p0 < 9)) <|
  zgd (zin p1 (lnS.getD p0 0)) <|
  zgd (zch (((((btS.getD p0 []).getD p1.toNatClampNeg 0) &&& (255 : Int32)).toUInt32 % 65536).toInt32)) <|
  some (((((btS.getD p0 []).getD p1.toNatClampNeg 0) &&& (255 : Int32)).toUInt32 % 65536).toInt32)
set_option maxHeartbeats 4000000 in
set_option maxRecDepth 100000 in
theorem m_J1_charAt_3b067 (l : Launch) (dC : Nat → ClassId) (dI : Nat → Nat → Nat) (sz : Nat)  (p0 : Nat) (p1 : Int32) (y : Int32) (h : f_J1_charAt_3b067 p0 p1 = some y) : CI l yJ1_charAt_3b067 cJ1_charAt_3b067 2 (some .char) ({ frames := 2, cells := 0, slots := 0, locals := 43 } : Room) dC dI sz [.ref (dI 102 p0), .int p1] [] [] y [] := by
  refine CC_of (by decide) (Nat.le_of_ble_eq_true rfl) ?_
  intro p e s m below meth c A ls hx hb hml hr hlk hnm hown hts hX hK hP hD hA hl
  have hl : lv_has ls 2 [(0, .ref (dI 102 p0)), (1, .int p1)] := hl
  have hown : s.vm.findClass RJ1 = some m.cls := hown
  have hw : Wd dC dI A s.heap [] s.heap [] := ⟨hP, hD, va_S.rf⟩
  generalize hQz : (MQ below (QI dC dI (fun r (_ : Unit) => r = y) (fun _ => Jn []) (fun _ => Jt []) A) ([.ref (dI 102 p0), .int p1] : List Value).toArray s 0 0 A) = Qz
  clear hP hD hnm
  unfold f_J1_charAt_3b067 at h
  refine lv_iload_n hx hb dJ1_charAt_3b067_0 rfl (lv_at hl 1 rfl) ?_
  refine lv_aload_n hx hb dJ1_charAt_3b067_1 rfl (lv_at hl 0 rfl) ?_
  obtain ⟨g1, h⟩ := z_gd h
  refine xs_len hx hb hX hw g1 dJ1_charAt_3b067_2 ?_
  obtain ⟨z2, ez2, h⟩ := z_bd h
  refine xj_v (xrS (As := [.int p1, .int (Int32.ofNat (lnS.getD p0 0))]) (rest := []) ⟨hx, hb, hml, hown, hts⟩ (m_J0_checkIndex_df160 l dC dI _  p1 (Int32.ofNat (lnS.getD p0 0)) z2 ez2) kw717 kw715 kw716 kw121 hd_J0_checkIndex_df160 ⟨rfl, rfl⟩ rfl rfl ⟨rfl, rfl⟩ hX hK hw [] (by decide) rfl rfl hl.1 rfl rfl dJ1_charAt_3b067_3) hw hA [] (by decide) rfl rfl (fun H locs hw => ?_)
  refine lv_aload_n hx hb dJ1_charAt_3b067_6 rfl (lv_at hl 0 rfl) ?_
  refine lv_iload_n hx hb dJ1_charAt_3b067_7 rfl (lv_at hl 1 rfl) ?_
  obtain ⟨g3, h⟩ := z_gd h
  obtain ⟨g4, h⟩ := z_gd h
  refine xs_ld hx hb hX hw g3 g4 dJ1_charAt_3b067_8 ?_
  refine lv_sipush (v := 255) hx hb dJ1_charAt_3b067_9 (by decide) ?_
  refine lv_iand hx hb dJ1_charAt_3b067_12 ?_
  refine lv_i2c hx hb dJ1_charAt_3b067_13 rfl ?_
  obtain ⟨g5, h⟩ := z_gd h
  have hy := Option.some.inj h
  rw [← hQz, ← hy]
  exact xr_i (v := ((((btS.getD p0 []).getD p1.toNatClampNeg 0) &&& (255 : Int32)).toUInt32 % 65536).toInt32) hx hb hr (z_ch g5) hlk hK hw dJ1_charAt_3b067_14

def f_J0_charAt_5068e (p9 : Nat) (p0 : Int32) : Option (Int32) :=
  zgd (decide (p9 < 9)) <|
  (f_J0_isLatin1_aae02 p9).bind fun z1 =>
  if z1 = (0 : Int32) then
  (none)
  else
  (zgd (decide (p9 < 9)) <|
  (f_J1_charAt_3b067 p9 p0).bind fun z4 =>
  zgd (zch z4) <|
  some z4)
set_option maxHeartbeats 4000000 in
set_option maxRecDepth 100000 in
theorem m_J0_charAt_5068e (l : Launch) (dC : Nat → ClassId) (dI : Nat → Nat → Nat) (sz : Nat)  (p9 : Nat) (p0 : Int32) (y : Int32) (h : f_J0_charAt_5068e p9 p0 = some y) : CI l yJ0_charAt_5068e cJ0_charAt_5068e 2 (some .char) ({ frames := 3, cells := 0, slots := 0, locals := 64 } : Room) dC dI sz [.ref (dI 101 p9), .int p0] [] [] y [] := by
  refine CC_of (by decide) (Nat.le_of_ble_eq_true rfl) ?_
  intro p e s m below meth c A ls hx hb hml hr hlk hnm hown hts hX hK hP hD hA hl
  have hl : lv_has ls 2 [(0, .ref (dI 101 p9)), (1, .int p0)] := hl
  have hown : s.vm.findClass RJ0 = some m.cls := hown
  have hw : Wd dC dI A s.heap [] s.heap [] := ⟨hP, hD, va_S.rf⟩
  generalize hQz : (MQ below (QI dC dI (fun r (_ : Unit) => r = y) (fun _ => Jn []) (fun _ => Jt []) A) ([.ref (dI 101 p9), .int p0] : List Value).toArray s 0 0 A) = Qz
  clear hP hD hnm
  unfold f_J0_charAt_5068e at h
  refine lv_aload_n hx hb dJ0_charAt_5068e_0 rfl (lv_at hl 0 rfl) ?_
  obtain ⟨g2, h⟩ := z_gd h
  obtain ⟨z1, ez1, h⟩ := z_bd h
  refine xj_i (xrT (As := []) (rest := []) ⟨hx, hb, hml, hown, hts⟩ (m_J0_isLatin1_aae02 l dC dI _  p9 z1 ez1) g2 rfl kw711 kw708 kw709 kw710 kw121 hd_J0_isLatin1_aae02 ⟨rfl, rfl⟩ rfl rfl ⟨rfl, rfl⟩ hX hK hw hl.1 rfl rfl dJ0_charAt_5068e_1) hw hA [] (by decide) rfl rfl (fun H locs hw => ?_)
  refine lv_if_eq (tgt := 16) hx hb dJ0_charAt_5068e_4 (by decide) (fun c => ?_) (fun c => ?_)
  · have h := z_t h c
    exact absurd h (by simp)
  · have h := z_f h c
    refine lv_aload_n hx hb dJ0_charAt_5068e_7 rfl (lv_at hl 0 rfl) ?_
    obtain ⟨g3, h⟩ := z_gd h
    refine xs_val hx hb hX hw hts hown g3 kw1863 dJ0_charAt_5068e_8 ?_
    refine lv_iload_n hx hb dJ0_charAt_5068e_11 rfl (lv_at hl 1 rfl) ?_
    obtain ⟨z4, ez4, h⟩ := z_bd h
    refine xj_i (xrS (As := [.ref (dI 102 p9), .int p0]) (rest := []) ⟨hx, hb, hml, hown, hts⟩ (m_J1_charAt_3b067 l dC dI _  p9 p0 z4 ez4) kw714 kw712 kw713 kw122 hd_J1_charAt_3b067 ⟨rfl, rfl⟩ rfl rfl ⟨rfl, rfl⟩ hX hK hw [] (by decide) rfl rfl hl.1 rfl rfl dJ0_charAt_5068e_12) hw hA [] (by decide) rfl rfl (fun H locs hw => ?_)
    obtain ⟨g5, h⟩ := z_gd h
    have hy := Option.some.inj h
    rw [← hQz, ← hy]
    exact xr_i (v := z4) hx hb hr (z_ch g5) hlk hK hw dJ0_charAt_5068e_15

def lb_X6_isSame_53 (o_me : Ob)  (rec_53_0 : Nat × Int32 × Int32 × Int32 → Option (Int32)) (v1 : Nat) (v2 : Int32) (v4 : Int32) (v5 : Int32) : Option (Int32) :=
  if v4 ≤ v5 then
  (some (1 : Int32))
  else
  (zgd (zin ((gI o_me 7) + v5) 400) <|
  zgd (decide (v1 < 9)) <|
  (f_J0_charAt_5068e v1 (v2 + v5)).bind fun z5 =>
  if (gA o_me 0 ((gI o_me 7) + v5).toNatClampNeg) = z5 then
  (zlt (v5 + (1 : Int32)) fun x7 =>
  rec_53_0 (v1, v2, v4, x7))
  else
  (some (0 : Int32)))
def lp_X6_isSame_53 (o_me : Ob)  : Nat → (Nat × Int32 × Int32 × Int32) → Option (Int32) := zit (fun rec a => lb_X6_isSame_53 o_me  rec a.1 a.2.1 a.2.2.1 a.2.2.2)
def f_X6_isSame (o_me : Ob) (p0 : Nat) (p1 : Int32) (p2 : Int32) : Option (Int32) :=
  zlt (p2 - p1) fun x1 =>
  if p1 < (0 : Int32) then
  (some (0 : Int32))
  else
  (zgd (decide (p0 < 9)) <|
  (f_J0_length_8abf5 p0).bind fun z2 =>
  if z2 < p2 then
  (some (0 : Int32))
  else
  (if x1 = ((gI o_me 8) - (gI o_me 7)) then
  (if (gI o_me 7) < (0 : Int32) then
  (some (0 : Int32))
  else
  (if (gI o_me 8) ≤ (400 : Int32) then
  (lp_X6_isSame_53 o_me  zfu (p0, p1, x1, (0 : Int32)))
  else
  (some (0 : Int32))))
  else
  (some (0 : Int32))))
set_option maxHeartbeats 4000000 in
set_option maxRecDepth 100000 in
theorem m_X6_isSame (l : Launch) (dC : Nat → ClassId) (dI : Nat → Nat → Nat) (sz : Nat) (h_me : Nat) (h_me_code : Nat) (q_me : Nat → Nat) (k_me : Nat → ClassId) (o_me : Ob) (p0 : Nat) (p1 : Int32) (p2 : Int32) (y : Int32) (h : f_X6_isSame o_me p0 p1 p2 = some y) : CI l yX6_isSame cX6_isSame 6 (some .boolean) ({ frames := 4, cells := 0, slots := 0, locals := 85 } : Room) dC dI sz [.ref h_me, .ref (dI 101 p0), .int p1, .int p2] [wX6 h_me h_me_code q_me k_me o_me] [tX6 k_me] y [wX6 h_me h_me_code q_me k_me o_me] := by
  refine CC_of (by decide) (Nat.le_of_ble_eq_true rfl) ?_
  intro p e s m below meth c A ls hx hb hml hr hlk hnm hown hts hX hK hP hD hA hl
  have hl : lv_has ls 6 [(0, .ref h_me), (1, .ref (dI 101 p0)), (2, .int p1), (3, .int p2)] := hl
  have hown : s.vm.findClass RX6 = some m.cls := hown
  have hw : Wd dC dI A s.heap [wX6 h_me h_me_code q_me k_me o_me] s.heap [] := ⟨hP, hD, va_S.rf⟩
  generalize hQz : (MQ below (QI dC dI (fun r (_ : Unit) => r = y) (fun _ => Jn [wX6 h_me h_me_code q_me k_me o_me]) (fun _ => Jt [tX6 k_me]) A) ([.ref h_me, .ref (dI 101 p0), .int p1, .int p2] : List Value).toArray s 0 0 A) = Qz
  clear hP hD hnm
  have lp_53_0 : ∀ (N : Nat), ∀ (v1 : Nat) (v2 : Int32) (v4 : Int32) (v5 : Int32) (H : Heap) (locs : List Loc) (ls : Array Slot), lp_X6_isSame_53 o_me  N (v1, v2, v4, v5) = some y → Wd dC dI A s.heap [wX6 h_me h_me_code q_me k_me o_me] H locs → lv_has ls 6 [(0, .ref h_me), (1, .ref (dI 101 v1)), (2, .int v2), (4, .int v4), (5, .int v5)] → W p l e ({ frames := 4, cells := 0, slots := 0, locals := 85 } : Room) s m ([.ref h_me, .ref (dI 101 p0), .int p1, .int p2] : List Value).toArray below meth c H locs 0 0 Qz (F0 m 53 ls []) := by
    intro N
    induction N with
    | zero =>
      intro v1 v2 v4 v5 H locs ls h hw hl
      exact absurd (show (none : Option (Int32)) = some y from h) (by simp)
    | succ N ih =>
      intro v1 v2 v4 v5 H locs ls h hw hl
      have h : lb_X6_isSame_53 o_me  (lp_X6_isSame_53 o_me  N) v1 v2 v4 v5 = some y := h
      unfold lb_X6_isSame_53 at h
      refine lv_iload hx hb dX6_isSame_53 (lv_at hl 4 rfl) ?_
      refine lv_iload hx hb dX6_isSame_55 (lv_at hl 3 rfl) ?_
      refine lv_icmp_ge (tgt := 91) hx hb dX6_isSame_57 (by decide) (fun c => ?_) (fun c => ?_)
      · have h := z_t h c
        refine lv_iconst (v := 1) hx hb dX6_isSame_91 (by decide) ?_
        have hy := Option.some.inj h
        rw [← hQz, ← hy]
        exact xr_i (v := (1 : Int32)) hx hb hr rfl hlk hK hw dX6_isSame_92
      · have h := z_f h c
        refine lv_aload_n hx hb dX6_isSame_60 rfl (lv_at hl 0 rfl) ?_
        refine fgX6_0 hx hb hts hown hK hw 0 rfl kw201 dX6_isSame_61 ?_
        refine lv_aload_n hx hb dX6_isSame_64 rfl (lv_at hl 0 rfl) ?_
        refine fgX6_7 hx hb hts hown hK hw 0 rfl kw211 dX6_isSame_65 ?_
        refine lv_iload hx hb dX6_isSame_68 (lv_at hl 4 rfl) ?_
        refine lv_iadd hx hb dX6_isSame_70 ?_
        obtain ⟨g4, h⟩ := z_gd h
        refine faX6_0 hx hb hK hw 0 rfl rfl g4 dX6_isSame_71 ?_
        refine lv_aload_n hx hb dX6_isSame_72 rfl (lv_at hl 1 rfl) ?_
        refine lv_iload_n hx hb dX6_isSame_73 rfl (lv_at hl 2 rfl) ?_
        refine lv_iload hx hb dX6_isSame_74 (lv_at hl 4 rfl) ?_
        refine lv_iadd hx hb dX6_isSame_76 ?_
        obtain ⟨g6, h⟩ := z_gd h
        obtain ⟨z5, ez5, h⟩ := z_bd h
        refine xj_i (xrT (As := [.int (v2 + v5)]) (rest := [.int (gA o_me 0 ((gI o_me 7) + v5).toNatClampNeg)]) ⟨hx, hb, hml, hown, hts⟩ (m_J0_charAt_5068e l dC dI _  v1 (v2 + v5) z5 ez5) g6 rfl kw707 kw704 kw705 kw706 kw121 hd_J0_charAt_5068e ⟨rfl, rfl⟩ rfl rfl ⟨rfl, rfl⟩ hX hK hw hl.1 rfl rfl dX6_isSame_77) hw hA [] (by decide) rfl rfl (fun H locs hw => ?_)
        refine lv_icmp_eq (tgt := 85) hx hb dX6_isSame_80 (by decide) (fun c => ?_) (fun c => ?_)
        · have h := z_t h c
          obtain ⟨x7, ex7, h⟩ := z_lt h
          refine lv_iinc (v := x7) (lv' := [(5, .int x7), (0, .ref h_me), (1, .ref (dI 101 v1)), (2, .int v2), (4, .int v4)]) hx hb dX6_isSame_85 hl (k := 4) rfl ((congrArg (v5 + ·) (show Int32.ofInt 1 = (1 : Int32) from by decide)).trans ex7.symm) (by decide) rfl (fun ls hl => ?_)
          refine lv_goto (tgt := 53) hx hb dX6_isSame_88 (by decide) ?_
          exact ih v1 v2 v4 x7 _ _ _ h hw (lv_sub hl [1, 2, 3, 4, 0] rfl)
        · have h := z_f h c
          refine lv_iconst (v := 0) hx hb dX6_isSame_83 (by decide) ?_
          have hy := Option.some.inj h
          rw [← hQz, ← hy]
          exact xr_i (v := (0 : Int32)) hx hb hr rfl hlk hK hw dX6_isSame_84
  unfold f_X6_isSame at h
  refine lv_iload_n hx hb dX6_isSame_0 rfl (lv_at hl 3 rfl) ?_
  refine lv_iload_n hx hb dX6_isSame_1 rfl (lv_at hl 2 rfl) ?_
  refine lv_isub hx hb dX6_isSame_2 ?_
  obtain ⟨x1, ex1, h⟩ := z_lt h
  refine lv_fi (v := x1) ex1.symm ?_
  refine lv_istore (lv' := [(4, .int x1), (0, .ref h_me), (1, .ref (dI 101 p0)), (2, .int p1), (3, .int p2)]) hx hb dX6_isSame_3 hl (by decide) rfl (fun ls hl => ?_)
  refine lv_iload_n hx hb dX6_isSame_5 rfl (lv_at hl 3 rfl) ?_
  refine lv_if_lt (tgt := 48) hx hb dX6_isSame_6 (by decide) (fun c => ?_) (fun c => ?_)
  · have h := z_t h c
    refine lv_iconst (v := 0) hx hb dX6_isSame_48 (by decide) ?_
    have hy := Option.some.inj h
    rw [← hQz, ← hy]
    exact xr_i (v := (0 : Int32)) hx hb hr rfl hlk hK hw dX6_isSame_49
  · have h := z_f h c
    refine lv_iload_n hx hb dX6_isSame_9 rfl (lv_at hl 4 rfl) ?_
    refine lv_aload_n hx hb dX6_isSame_10 rfl (lv_at hl 2 rfl) ?_
    obtain ⟨g3, h⟩ := z_gd h
    obtain ⟨z2, ez2, h⟩ := z_bd h
    refine xj_i (xrT (As := []) (rest := [.int p2]) ⟨hx, hb, hml, hown, hts⟩ (m_J0_length_8abf5 l dC dI _  p0 z2 ez2) g3 rfl kw697 kw694 kw695 kw696 kw121 hd_J0_length_8abf5 ⟨rfl, rfl⟩ rfl rfl ⟨rfl, rfl⟩ hX hK hw hl.1 rfl rfl dX6_isSame_11) hw hA [] (by decide) rfl rfl (fun H locs hw => ?_)
    refine lv_icmp_gt (tgt := 48) hx hb dX6_isSame_14 (by decide) (fun c => ?_) (fun c => ?_)
    · have h := z_t h c
      refine lv_iconst (v := 0) hx hb dX6_isSame_48 (by decide) ?_
      have hy := Option.some.inj h
      rw [← hQz, ← hy]
      exact xr_i (v := (0 : Int32)) hx hb hr rfl hlk hK hw dX6_isSame_49
    · have h := z_f h c
      refine lv_iload hx hb dX6_isSame_17 (lv_at hl 0 rfl) ?_
      refine lv_aload_n hx hb dX6_isSame_19 rfl (lv_at hl 1 rfl) ?_
      refine fgX6_8 hx hb hts hown hK hw 0 rfl kw212 dX6_isSame_20 ?_
      refine lv_aload_n hx hb dX6_isSame_23 rfl (lv_at hl 1 rfl) ?_
      refine fgX6_7 hx hb hts hown hK hw 0 rfl kw211 dX6_isSame_24 ?_
      refine lv_isub hx hb dX6_isSame_27 ?_
      refine lv_icmp_ne (tgt := 48) hx hb dX6_isSame_28 (by decide) (fun c => ?_) (fun c => ?_)
      · have h := z_f h c
        refine lv_iconst (v := 0) hx hb dX6_isSame_48 (by decide) ?_
        have hy := Option.some.inj h
        rw [← hQz, ← hy]
        exact xr_i (v := (0 : Int32)) hx hb hr rfl hlk hK hw dX6_isSame_49
      · have h := z_t h c
        refine lv_aload_n hx hb dX6_isSame_31 rfl (lv_at hl 1 rfl) ?_
        refine fgX6_7 hx hb hts hown hK hw 0 rfl kw211 dX6_isSame_32 ?_
        refine lv_if_lt (tgt := 48) hx hb dX6_isSame_35 (by decide) (fun c => ?_) (fun c => ?_)
        · have h := z_t h c
          refine lv_iconst (v := 0) hx hb dX6_isSame_48 (by decide) ?_
          have hy := Option.some.inj h
          rw [← hQz, ← hy]
          exact xr_i (v := (0 : Int32)) hx hb hr rfl hlk hK hw dX6_isSame_49
        · have h := z_f h c
          refine lv_aload_n hx hb dX6_isSame_38 rfl (lv_at hl 1 rfl) ?_
          refine fgX6_8 hx hb hts hown hK hw 0 rfl kw212 dX6_isSame_39 ?_
          refine lv_sipush (v := 400) hx hb dX6_isSame_42 (by decide) ?_
          refine lv_icmp_le (tgt := 50) hx hb dX6_isSame_45 (by decide) (fun c => ?_) (fun c => ?_)
          · have h := z_t h c
            refine lv_iconst (v := 0) hx hb dX6_isSame_50 (by decide) ?_
            refine lv_istore (lv' := [(5, .int (0 : Int32)), (4, .int x1), (0, .ref h_me), (1, .ref (dI 101 p0)), (2, .int p1), (3, .int p2)]) hx hb dX6_isSame_51 hl (by decide) rfl (fun ls hl => ?_)
            exact lp_53_0  zfu p0 p1 x1 (0 : Int32) _ _ _ h hw (lv_sub hl [2, 3, 4, 1, 0] rfl)
          · have h := z_f h c
            refine lv_iconst (v := 0) hx hb dX6_isSame_48 (by decide) ?_
            have hy := Option.some.inj h
            rw [← hQz, ← hy]
            exact xr_i (v := (0 : Int32)) hx hb hr rfl hlk hK hw dX6_isSame_49

