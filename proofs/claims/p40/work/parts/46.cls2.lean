def f_X8_law_R (nc_me_reader_code : Nat) (ns_me_reader_code : Nat) (o_me : Ob) (o_me_reader : Ob) (o_me_reader_code : Ob) (o_me_isles : Ob) : Option (Int32 × Ob × Ob × Ob) :=
  if (gI o_me_isles 9) < (6 : Int32) then
  ((f_X6_readText nc_me_reader_code ns_me_reader_code o_me_reader o_me_reader_code (1 : Int32)).bind fun z1 =>
  zlt (sI z1.2.1 2 (0 : Int32)) fun o2 =>
  if z1.1 = (0 : Int32) then
  ((f_X8_refuse o_me (-6 : Int32)).bind fun z3 =>
  some (z3.1, z3.2, o2, z1.2.2))
  else
  (none))
  else
  (zlt (sI o_me_reader 2 (0 : Int32)) fun o4 =>
  (f_X8_refuse o_me (-5 : Int32)).bind fun z5 =>
  some (z5.1, z5.2, o4, o_me_reader_code))
set_option maxHeartbeats 4000000 in
set_option maxRecDepth 100000 in
theorem m_X8_law_R (l : Launch) (dC : Nat → ClassId) (dI : Nat → Nat → Nat) (sz : Nat) (h_me : Nat) (h_me_reader : Nat) (h_me_machine : Nat) (h_me_isles : Nat) (h_me_court : Nat) (h_me_study : Nat) (h_me_paper : Nat) (h_me_paperCourt : Nat) (h_me_past : Nat) (h_me_pastAhead : Nat) (h_me_movingAhead : Nat) (h_me_reader_code : Nat) (h_me_isles_now : Nat) (q_me : Nat → Nat) (k_me : Nat → ClassId) (q_me_reader : Nat → Nat) (k_me_reader : Nat → ClassId) (q_me_reader_code : Nat → Nat) (k_me_reader_code : Nat → ClassId) (q_me_isles : Nat → Nat) (k_me_isles : Nat → ClassId) (nc_me_reader_code : Nat) (ns_me_reader_code : Nat) (o_me : Ob) (o_me_reader : Ob) (o_me_reader_code : Ob) (o_me_isles : Ob) (y : Int32 × Ob × Ob × Ob) (h : f_X8_law_R nc_me_reader_code ns_me_reader_code o_me o_me_reader o_me_reader_code o_me_isles = some y) : CI l yX8_law cX8_law 2 (some .int) ({ frames := 933, cells := 0, slots := 0, locals := 20757 } : Room) dC dI sz [.ref h_me] [wX8 h_me h_me_reader h_me_machine h_me_isles h_me_court h_me_study h_me_paper h_me_paperCourt h_me_past h_me_pastAhead h_me_movingAhead q_me k_me o_me, wX6 h_me_reader h_me_reader_code q_me_reader k_me_reader o_me_reader, wX0 h_me_reader_code nc_me_reader_code ns_me_reader_code q_me_reader_code k_me_reader_code o_me_reader_code, wX2 h_me_isles h_me_isles_now q_me_isles k_me_isles o_me_isles] [tX8 k_me, tX6 k_me_reader, tX0 k_me_reader_code, tX2 k_me_isles] y.1 [wX8 h_me h_me_reader h_me_machine h_me_isles h_me_court h_me_study h_me_paper h_me_paperCourt h_me_past h_me_pastAhead h_me_movingAhead q_me k_me y.2.1, wX6 h_me_reader h_me_reader_code q_me_reader k_me_reader y.2.2.1, wX0 h_me_reader_code nc_me_reader_code ns_me_reader_code q_me_reader_code k_me_reader_code y.2.2.2, wX2 h_me_isles h_me_isles_now q_me_isles k_me_isles o_me_isles] := by
  refine CC_of (by decide) (Nat.le_of_ble_eq_true rfl) ?_
  intro p e s m below meth c A ls hx hb hml hr hlk hnm hown hts hX hK hP hD hA hl
  have hl : lv_has ls 2 [(0, .ref h_me)] := hl
  have hown : s.vm.findClass RX8 = some m.cls := hown
  have hw : Wd dC dI A s.heap [wX8 h_me h_me_reader h_me_machine h_me_isles h_me_court h_me_study h_me_paper h_me_paperCourt h_me_past h_me_pastAhead h_me_movingAhead q_me k_me o_me, wX6 h_me_reader h_me_reader_code q_me_reader k_me_reader o_me_reader, wX0 h_me_reader_code nc_me_reader_code ns_me_reader_code q_me_reader_code k_me_reader_code o_me_reader_code, wX2 h_me_isles h_me_isles_now q_me_isles k_me_isles o_me_isles] s.heap [] := ⟨hP, hD, va_S.rf⟩
  generalize hQz : (MQ below (QI dC dI (fun r (_ : Unit) => r = y.1) (fun _ => Jn [wX8 h_me h_me_reader h_me_machine h_me_isles h_me_court h_me_study h_me_paper h_me_paperCourt h_me_past h_me_pastAhead h_me_movingAhead q_me k_me y.2.1, wX6 h_me_reader h_me_reader_code q_me_reader k_me_reader y.2.2.1, wX0 h_me_reader_code nc_me_reader_code ns_me_reader_code q_me_reader_code k_me_reader_code y.2.2.2, wX2 h_me_isles h_me_isles_now q_me_isles k_me_isles o_me_isles]) (fun _ => Jt [tX8 k_me, tX6 k_me_reader, tX0 k_me_reader_code, tX2 k_me_isles]) A) ([.ref h_me] : List Value).toArray s 0 0 A) = Qz
  clear hP hD hnm
  unfold f_X8_law_R at h
  refine lv_aload_n hx hb dX8_law_0 rfl (lv_at hl 0 rfl) ?_
  refine fgX8_2 hx hb hts hown hK hw 0 rfl kw444 dX8_law_1 ?_
  refine fgX2_9 hx hb hts hown hK hw 3 rfl kw323 dX8_law_4 ?_
  refine lv_bipush (v := 6) hx hb dX8_law_7 (by decide) ?_
  refine lv_icmp_lt (tgt := 27) hx hb dX8_law_9 (by decide) (fun c => ?_) (fun c => ?_)
  · have h := z_t h c
    refine lv_aload_n hx hb dX8_law_27 rfl (lv_at hl 0 rfl) ?_
    refine fgX8_0 hx hb hts hown hK hw 0 rfl kw442 dX8_law_28 ?_
    refine lv_iconst (v := 1) hx hb dX8_law_31 (by decide) ?_
    obtain ⟨z1, ez1, h⟩ := z_bd h
    refine xj_i (xrV (As := [.int (1 : Int32)]) (rest := []) ⟨hx, hb, hml, hown, hts⟩ (m_X6_readText l dC dI _ h_me_reader h_me_reader_code q_me_reader k_me_reader q_me_reader_code k_me_reader_code nc_me_reader_code ns_me_reader_code o_me_reader o_me_reader_code (1 : Int32) z1 ez1) kw667 kw664 kw665 kw666 kw111 hd_X6_readText ⟨rfl, rfl⟩ rfl rfl ⟨rfl, rfl⟩ hX hK hw [1, 2] (by decide) rfl rfl rfl rfl rfl hl.1 rfl rfl dX8_law_32) hw hA [1, 2] (by decide) rfl rfl (fun H locs hw => ?_)
    have hw : Wd dC dI A s.heap [wX8 h_me h_me_reader h_me_machine h_me_isles h_me_court h_me_study h_me_paper h_me_paperCourt h_me_past h_me_pastAhead h_me_movingAhead q_me k_me o_me, wX6 h_me_reader h_me_reader_code q_me_reader k_me_reader z1.2.1, wX0 h_me_reader_code nc_me_reader_code ns_me_reader_code q_me_reader_code k_me_reader_code z1.2.2, wX2 h_me_isles h_me_isles_now q_me_isles k_me_isles o_me_isles] H locs := hw
    refine lv_istore_n (lv' := [(1, .int z1.1), (0, .ref h_me)]) hx hb dX8_law_35 rfl hl (by decide) rfl (fun ls hl => ?_)
    refine lv_aload_n hx hb dX8_law_36 rfl (lv_at hl 1 rfl) ?_
    refine fgX8_0 hx hb hts hown hK hw 0 rfl kw442 dX8_law_37 ?_
    refine lv_iconst (v := 0) hx hb dX8_law_40 (by decide) ?_
    refine fpX6_2 hx hb hts hown hK hw 1 rfl kw205 dX8_law_41 (fun H locs hw => ?_)
    obtain ⟨o2, eo2, h⟩ := z_lt h
    have hw : Wd dC dI A s.heap [wX8 h_me h_me_reader h_me_machine h_me_isles h_me_court h_me_study h_me_paper h_me_paperCourt h_me_past h_me_pastAhead h_me_movingAhead q_me k_me o_me, wX6 h_me_reader h_me_reader_code q_me_reader k_me_reader o2, wX0 h_me_reader_code nc_me_reader_code ns_me_reader_code q_me_reader_code k_me_reader_code z1.2.2, wX2 h_me_isles h_me_isles_now q_me_isles k_me_isles o_me_isles] H locs := by rw [eo2]; exact hw
    refine lv_iload_n hx hb dX8_law_44 rfl (lv_at hl 0 rfl) ?_
    refine lv_if_eq (tgt := 72) hx hb dX8_law_45 (by decide) (fun c => ?_) (fun c => ?_)
    · have h := z_t h c
      refine lv_aload_n hx hb dX8_law_72 rfl (lv_at hl 1 rfl) ?_
      refine lv_bipush (v := (-6)) hx hb dX8_law_73 (by decide) ?_
      obtain ⟨z3, ez3, h⟩ := z_bd h
      refine xj_i (xrV (As := [.int (-6 : Int32)]) (rest := []) ⟨hx, hb, hml, hown, hts⟩ (m_X8_refuse l dC dI _ h_me h_me_reader h_me_machine h_me_isles h_me_court h_me_study h_me_paper h_me_paperCourt h_me_past h_me_pastAhead h_me_movingAhead q_me k_me o_me (-6 : Int32) z3 ez3) kw508 kw505 kw507 kw0 kw110 hd_X8_refuse ⟨rfl, rfl⟩ rfl rfl ⟨rfl, rfl⟩ hX hK hw [0] (by decide) rfl rfl rfl rfl rfl hl.1 rfl rfl dX8_law_75) hw hA [0] (by decide) rfl rfl (fun H locs hw => ?_)
      have hw : Wd dC dI A s.heap [wX8 h_me h_me_reader h_me_machine h_me_isles h_me_court h_me_study h_me_paper h_me_paperCourt h_me_past h_me_pastAhead h_me_movingAhead q_me k_me z3.2, wX6 h_me_reader h_me_reader_code q_me_reader k_me_reader o2, wX0 h_me_reader_code nc_me_reader_code ns_me_reader_code q_me_reader_code k_me_reader_code z1.2.2, wX2 h_me_isles h_me_isles_now q_me_isles k_me_isles o_me_isles] H locs := hw
      have hy := Option.some.inj h
      rw [← hQz, ← hy]
      exact xr_i (v := z3.1) hx hb hr rfl hlk hK hw dX8_law_78
    · have h := z_f h c
      refine lv_aload_n hx hb dX8_law_48 rfl (lv_at hl 1 rfl) ?_
      refine lv_aload_n hx hb dX8_law_49 rfl (lv_at hl 1 rfl) ?_
      refine fgX8_2 hx hb hts hown hK hw 0 rfl kw444 dX8_law_50 ?_
      refine lv_aload_n hx hb dX8_law_53 rfl (lv_at hl 1 rfl) ?_
      refine fgX8_0 hx hb hts hown hK hw 0 rfl kw442 dX8_law_54 ?_
      refine fgX6_1 hx hb hts hown hK hw 1 rfl kw203 dX8_law_57 ?_
      exact absurd h (by simp)
  · have h := z_f h c
    refine lv_aload_n hx hb dX8_law_12 rfl (lv_at hl 0 rfl) ?_
    refine fgX8_0 hx hb hts hown hK hw 0 rfl kw442 dX8_law_13 ?_
    refine lv_iconst (v := 0) hx hb dX8_law_16 (by decide) ?_
    refine fpX6_2 hx hb hts hown hK hw 1 rfl kw205 dX8_law_17 (fun H locs hw => ?_)
    obtain ⟨o4, eo4, h⟩ := z_lt h
    have hw : Wd dC dI A s.heap [wX8 h_me h_me_reader h_me_machine h_me_isles h_me_court h_me_study h_me_paper h_me_paperCourt h_me_past h_me_pastAhead h_me_movingAhead q_me k_me o_me, wX6 h_me_reader h_me_reader_code q_me_reader k_me_reader o4, wX0 h_me_reader_code nc_me_reader_code ns_me_reader_code q_me_reader_code k_me_reader_code o_me_reader_code, wX2 h_me_isles h_me_isles_now q_me_isles k_me_isles o_me_isles] H locs := by rw [eo4]; exact hw
    refine lv_aload_n hx hb dX8_law_20 rfl (lv_at hl 0 rfl) ?_
    refine lv_bipush (v := (-5)) hx hb dX8_law_21 (by decide) ?_
    obtain ⟨z5, ez5, h⟩ := z_bd h
    refine xj_i (xrV (As := [.int (-5 : Int32)]) (rest := []) ⟨hx, hb, hml, hown, hts⟩ (m_X8_refuse l dC dI _ h_me h_me_reader h_me_machine h_me_isles h_me_court h_me_study h_me_paper h_me_paperCourt h_me_past h_me_pastAhead h_me_movingAhead q_me k_me o_me (-5 : Int32) z5 ez5) kw508 kw505 kw507 kw0 kw110 hd_X8_refuse ⟨rfl, rfl⟩ rfl rfl ⟨rfl, rfl⟩ hX hK hw [0] (by decide) rfl rfl rfl rfl rfl hl.1 rfl rfl dX8_law_23) hw hA [0] (by decide) rfl rfl (fun H locs hw => ?_)
    have hw : Wd dC dI A s.heap [wX8 h_me h_me_reader h_me_machine h_me_isles h_me_court h_me_study h_me_paper h_me_paperCourt h_me_past h_me_pastAhead h_me_movingAhead q_me k_me z5.2, wX6 h_me_reader h_me_reader_code q_me_reader k_me_reader o4, wX0 h_me_reader_code nc_me_reader_code ns_me_reader_code q_me_reader_code k_me_reader_code o_me_reader_code, wX2 h_me_isles h_me_isles_now q_me_isles k_me_isles o_me_isles] H locs := hw
    have hy := Option.some.inj h
    rw [← hQz, ← hy]
    exact xr_i (v := z5.1) hx hb hr rfl hlk hK hw dX8_law_26

def bk_X8_image_R_9   (o_me : Ob) : Option (Int32 × Ob) :=
  (f_X8_refuse o_me (-1 : Int32)).bind fun z1 =>
  some (z1.1, z1.2)
def f_X8_image_R (o_me : Ob) (p0 : Int32) : Option (Int32 × Ob) :=
  if p0 < (0 : Int32) then
  (bk_X8_image_R_9   o_me)
  else
  (if p0 < (2 : Int32) then
  (none)
  else
  (bk_X8_image_R_9   o_me))
set_option maxHeartbeats 4000000 in
set_option maxRecDepth 100000 in
theorem m_X8_image_R (l : Launch) (dC : Nat → ClassId) (dI : Nat → Nat → Nat) (sz : Nat) (h_me : Nat) (h_me_reader : Nat) (h_me_machine : Nat) (h_me_isles : Nat) (h_me_court : Nat) (h_me_study : Nat) (h_me_paper : Nat) (h_me_paperCourt : Nat) (h_me_past : Nat) (h_me_pastAhead : Nat) (h_me_movingAhead : Nat) (q_me : Nat → Nat) (k_me : Nat → ClassId) (o_me : Ob) (p0 : Int32) (y : Int32 × Ob) (h : f_X8_image_R o_me p0 = some y) : CI l yX8_image cX8_image 2 (some .int) ({ frames := 1, cells := 0, slots := 0, locals := 21 } : Room) dC dI sz [.ref h_me, .int p0] [wX8 h_me h_me_reader h_me_machine h_me_isles h_me_court h_me_study h_me_paper h_me_paperCourt h_me_past h_me_pastAhead h_me_movingAhead q_me k_me o_me] [tX8 k_me] y.1 [wX8 h_me h_me_reader h_me_machine h_me_isles h_me_court h_me_study h_me_paper h_me_paperCourt h_me_past h_me_pastAhead h_me_movingAhead q_me k_me y.2] := by
  refine CC_of (by decide) (Nat.le_of_ble_eq_true rfl) ?_
  intro p e s m below meth c A ls hx hb hml hr hlk hnm hown hts hX hK hP hD hA hl
  have hl : lv_has ls 2 [(0, .ref h_me), (1, .int p0)] := hl
  have hown : s.vm.findClass RX8 = some m.cls := hown
  have hw : Wd dC dI A s.heap [wX8 h_me h_me_reader h_me_machine h_me_isles h_me_court h_me_study h_me_paper h_me_paperCourt h_me_past h_me_pastAhead h_me_movingAhead q_me k_me o_me] s.heap [] := ⟨hP, hD, va_S.rf⟩
  generalize hQz : (MQ below (QI dC dI (fun r (_ : Unit) => r = y.1) (fun _ => Jn [wX8 h_me h_me_reader h_me_machine h_me_isles h_me_court h_me_study h_me_paper h_me_paperCourt h_me_past h_me_pastAhead h_me_movingAhead q_me k_me y.2]) (fun _ => Jt [tX8 k_me]) A) ([.ref h_me, .int p0] : List Value).toArray s 0 0 A) = Qz
  clear hP hD hnm
  have bk_9_0 : ∀ (o_me : Ob) (H : Heap) (locs : List Loc) (ls : Array Slot), bk_X8_image_R_9   o_me = some y → Wd dC dI A s.heap [wX8 h_me h_me_reader h_me_machine h_me_isles h_me_court h_me_study h_me_paper h_me_paperCourt h_me_past h_me_pastAhead h_me_movingAhead q_me k_me o_me] H locs → lv_has ls 2 [(0, .ref h_me)] → W p l e ({ frames := 1, cells := 0, slots := 0, locals := 21 } : Room) s m ([.ref h_me, .int p0] : List Value).toArray below meth c H locs 0 0 Qz (F0 m 9 ls []) := by
    intro o_me H locs ls h hw hl
    unfold bk_X8_image_R_9 at h
    refine lv_aload_n hx hb dX8_image_9 rfl (lv_at hl 0 rfl) ?_
    refine lv_iconst (v := (-1)) hx hb dX8_image_10 (by decide) ?_
    obtain ⟨z1, ez1, h⟩ := z_bd h
    refine xj_i (xrV (As := [.int (-1 : Int32)]) (rest := []) ⟨hx, hb, hml, hown, hts⟩ (m_X8_refuse l dC dI _ h_me h_me_reader h_me_machine h_me_isles h_me_court h_me_study h_me_paper h_me_paperCourt h_me_past h_me_pastAhead h_me_movingAhead q_me k_me o_me (-1 : Int32) z1 ez1) kw508 kw505 kw507 kw0 kw110 hd_X8_refuse ⟨rfl, rfl⟩ rfl rfl ⟨rfl, rfl⟩ hX hK hw [0] (by decide) rfl rfl rfl rfl rfl hl.1 rfl rfl dX8_image_11) hw hA [0] (by decide) rfl rfl (fun H locs hw => ?_)
    have hw : Wd dC dI A s.heap [wX8 h_me h_me_reader h_me_machine h_me_isles h_me_court h_me_study h_me_paper h_me_paperCourt h_me_past h_me_pastAhead h_me_movingAhead q_me k_me z1.2] H locs := hw
    have hy := Option.some.inj h
    rw [← hQz, ← hy]
    exact xr_i (v := z1.1) hx hb hr rfl hlk hK hw dX8_image_14
  unfold f_X8_image_R at h
  refine lv_iload_n hx hb dX8_image_0 rfl (lv_at hl 1 rfl) ?_
  refine lv_if_lt (tgt := 9) hx hb dX8_image_1 (by decide) (fun c => ?_) (fun c => ?_)
  · have h := z_t h c
    exact bk_9_0  o_me _ _ _ h hw (lv_sub hl [0] rfl)
  · have h := z_f h c
    refine lv_iload_n hx hb dX8_image_4 rfl (lv_at hl 1 rfl) ?_
    refine lv_iconst (v := 2) hx hb dX8_image_5 (by decide) ?_
    refine lv_icmp_lt (tgt := 15) hx hb dX8_image_6 (by decide) (fun c => ?_) (fun c => ?_)
    · have h := z_t h c
      exact absurd h (by simp)
    · have h := z_f h c
      exact bk_9_0  o_me _ _ _ h hw (lv_sub hl [0] rfl)

def bk_X8_image_O_9 (o_me_isles : Ob) (o_me_isles_now : Ob) (o_pool : List CR)  (o_me : Ob) (o_img : Ob) (o_img_now : Ob) : Option (Int32 × Ob × Ob × Ob) :=
  (f_X8_refuse o_me (-1 : Int32)).bind fun z1 =>
  some (z1.1, z1.2, o_img, o_img_now)
def f_X8_image_O (o_me : Ob) (o_me_isles : Ob) (o_me_isles_now : Ob) (o_pool : List CR) (o_img : Ob) (o_img_now : Ob) (p0 : Int32) : Option (Int32 × Ob × Ob × Ob) :=
  if p0 < (0 : Int32) then
  (bk_X8_image_O_9 o_me_isles o_me_isles_now o_pool  o_me o_img o_img_now)
  else
  (if p0 < (2 : Int32) then
  (zgd (zin p0 2) <|
  zgd (zin p0 2) <|
  (f_X2_set_O o_img o_img_now o_pool o_me_isles o_me_isles_now).bind fun z4 =>
  (f_X8_grant o_me (0 : Int32)).bind fun z5 =>
  some (z5.1, z5.2, z4.1, z4.2))
  else
  (bk_X8_image_O_9 o_me_isles o_me_isles_now o_pool  o_me o_img o_img_now))
set_option maxHeartbeats 4000000 in
set_option maxRecDepth 100000 in
theorem m_X8_image_O (l : Launch) (dC : Nat → ClassId) (dI : Nat → Nat → Nat) (sz : Nat) (h_me : Nat) (h_me_reader : Nat) (h_me_machine : Nat) (h_me_isles : Nat) (h_me_court : Nat) (h_me_study : Nat) (h_me_paper : Nat) (h_me_paperCourt : Nat) (h_me_past : Nat) (h_me_pastAhead : Nat) (h_me_movingAhead : Nat) (h_me_isles_now : Nat) (h_img : Nat) (h_img_now : Nat) (q_me : Nat → Nat) (k_me : Nat → ClassId) (q_me_isles : Nat → Nat) (k_me_isles : Nat → ClassId) (q_me_isles_now : Nat → Nat) (k_me_isles_now : Nat → ClassId) (q_img : Nat → Nat) (k_img : Nat → ClassId) (q_img_now : Nat → Nat) (k_img_now : Nat → ClassId) (o_me : Ob) (o_me_isles : Ob) (o_me_isles_now : Ob) (o_pool : List CR) (o_img : Ob) (o_img_now : Ob) (p0 : Int32) (him : gR o_me 7 p0.toNatClampNeg = some h_img) (y : Int32 × Ob × Ob × Ob) (h : f_X8_image_O o_me o_me_isles o_me_isles_now o_pool o_img o_img_now p0 = some y) : CI l yX8_image cX8_image 2 (some .int) ({ frames := 3, cells := 0, slots := 0, locals := 103 } : Room) dC dI sz [.ref h_me, .int p0] [wX8 h_me h_me_reader h_me_machine h_me_isles h_me_court h_me_study h_me_paper h_me_paperCourt h_me_past h_me_pastAhead h_me_movingAhead q_me k_me o_me, wX2 h_me_isles h_me_isles_now q_me_isles k_me_isles o_me_isles, wX4 h_me_isles_now q_me_isles_now k_me_isles_now o_me_isles_now, wPL o_pool, wX2 h_img h_img_now q_img k_img o_img, wX4 h_img_now q_img_now k_img_now o_img_now] [tX8 k_me, tX2 k_me_isles, tX4 k_me_isles_now, tPL o_pool, tX2 k_img, tX4 k_img_now] y.1 [wX8 h_me h_me_reader h_me_machine h_me_isles h_me_court h_me_study h_me_paper h_me_paperCourt h_me_past h_me_pastAhead h_me_movingAhead q_me k_me y.2.1, wX2 h_me_isles h_me_isles_now q_me_isles k_me_isles o_me_isles, wX4 h_me_isles_now q_me_isles_now k_me_isles_now o_me_isles_now, wPL o_pool, wX2 h_img h_img_now q_img k_img y.2.2.1, wX4 h_img_now q_img_now k_img_now y.2.2.2] := by
  refine CC_of (by decide) (Nat.le_of_ble_eq_true rfl) ?_
  intro p e s m below meth c A ls hx hb hml hr hlk hnm hown hts hX hK hP hD hA hl
  have hl : lv_has ls 2 [(0, .ref h_me), (1, .int p0)] := hl
  have hown : s.vm.findClass RX8 = some m.cls := hown
  have hw : Wd dC dI A s.heap [wX8 h_me h_me_reader h_me_machine h_me_isles h_me_court h_me_study h_me_paper h_me_paperCourt h_me_past h_me_pastAhead h_me_movingAhead q_me k_me o_me, wX2 h_me_isles h_me_isles_now q_me_isles k_me_isles o_me_isles, wX4 h_me_isles_now q_me_isles_now k_me_isles_now o_me_isles_now, wPL o_pool, wX2 h_img h_img_now q_img k_img o_img, wX4 h_img_now q_img_now k_img_now o_img_now] s.heap [] := ⟨hP, hD, va_S.rf⟩
  generalize hQz : (MQ below (QI dC dI (fun r (_ : Unit) => r = y.1) (fun _ => Jn [wX8 h_me h_me_reader h_me_machine h_me_isles h_me_court h_me_study h_me_paper h_me_paperCourt h_me_past h_me_pastAhead h_me_movingAhead q_me k_me y.2.1, wX2 h_me_isles h_me_isles_now q_me_isles k_me_isles o_me_isles, wX4 h_me_isles_now q_me_isles_now k_me_isles_now o_me_isles_now, wPL o_pool, wX2 h_img h_img_now q_img k_img y.2.2.1, wX4 h_img_now q_img_now k_img_now y.2.2.2]) (fun _ => Jt [tX8 k_me, tX2 k_me_isles, tX4 k_me_isles_now, tPL o_pool, tX2 k_img, tX4 k_img_now]) A) ([.ref h_me, .int p0] : List Value).toArray s 0 0 A) = Qz
  clear hP hD hnm
  have bk_9_0 : ∀ (o_me : Ob) (o_img : Ob) (o_img_now : Ob) (H : Heap) (locs : List Loc) (ls : Array Slot), bk_X8_image_O_9 o_me_isles o_me_isles_now o_pool  o_me o_img o_img_now = some y → Wd dC dI A s.heap [wX8 h_me h_me_reader h_me_machine h_me_isles h_me_court h_me_study h_me_paper h_me_paperCourt h_me_past h_me_pastAhead h_me_movingAhead q_me k_me o_me, wX2 h_me_isles h_me_isles_now q_me_isles k_me_isles o_me_isles, wX4 h_me_isles_now q_me_isles_now k_me_isles_now o_me_isles_now, wPL o_pool, wX2 h_img h_img_now q_img k_img o_img, wX4 h_img_now q_img_now k_img_now o_img_now] H locs → lv_has ls 2 [(0, .ref h_me)] → W p l e ({ frames := 3, cells := 0, slots := 0, locals := 103 } : Room) s m ([.ref h_me, .int p0] : List Value).toArray below meth c H locs 0 0 Qz (F0 m 9 ls []) := by
    intro o_me o_img o_img_now H locs ls h hw hl
    unfold bk_X8_image_O_9 at h
    refine lv_aload_n hx hb dX8_image_9 rfl (lv_at hl 0 rfl) ?_
    refine lv_iconst (v := (-1)) hx hb dX8_image_10 (by decide) ?_
    obtain ⟨z1, ez1, h⟩ := z_bd h
    refine xj_i (xrV (As := [.int (-1 : Int32)]) (rest := []) ⟨hx, hb, hml, hown, hts⟩ (m_X8_refuse l dC dI _ h_me h_me_reader h_me_machine h_me_isles h_me_court h_me_study h_me_paper h_me_paperCourt h_me_past h_me_pastAhead h_me_movingAhead q_me k_me o_me (-1 : Int32) z1 ez1) kw508 kw505 kw507 kw0 kw110 hd_X8_refuse ⟨rfl, rfl⟩ rfl rfl ⟨rfl, rfl⟩ hX hK hw [0] (by decide) rfl rfl rfl rfl rfl hl.1 rfl rfl dX8_image_11) hw hA [0] (by decide) rfl rfl (fun H locs hw => ?_)
    have hw : Wd dC dI A s.heap [wX8 h_me h_me_reader h_me_machine h_me_isles h_me_court h_me_study h_me_paper h_me_paperCourt h_me_past h_me_pastAhead h_me_movingAhead q_me k_me z1.2, wX2 h_me_isles h_me_isles_now q_me_isles k_me_isles o_me_isles, wX4 h_me_isles_now q_me_isles_now k_me_isles_now o_me_isles_now, wPL o_pool, wX2 h_img h_img_now q_img k_img o_img, wX4 h_img_now q_img_now k_img_now o_img_now] H locs := hw
    have hy := Option.some.inj h
    rw [← hQz, ← hy]
    exact xr_i (v := z1.1) hx hb hr rfl hlk hK hw dX8_image_14
  unfold f_X8_image_O at h
  refine lv_iload_n hx hb dX8_image_0 rfl (lv_at hl 1 rfl) ?_
  refine lv_if_lt (tgt := 9) hx hb dX8_image_1 (by decide) (fun c => ?_) (fun c => ?_)
  · have h := z_t h c
    exact bk_9_0  o_me o_img o_img_now _ _ _ h hw (lv_sub hl [0] rfl)
  · have h := z_f h c
    refine lv_iload_n hx hb dX8_image_4 rfl (lv_at hl 1 rfl) ?_
    refine lv_iconst (v := 2) hx hb dX8_image_5 (by decide) ?_
    refine lv_icmp_lt (tgt := 15) hx hb dX8_image_6 (by decide) (fun c => ?_) (fun c => ?_)
    · have h := z_t h c
      refine lv_aload_n hx hb dX8_image_15 rfl (lv_at hl 0 rfl) ?_
      refine fgX8_7 hx hb hts hown hK hw 0 rfl kw449 dX8_image_16 ?_
      refine lv_iload_n hx hb dX8_image_19 rfl (lv_at hl 1 rfl) ?_
      obtain ⟨g2, h⟩ := z_gd h
      refine faX8_7 hx hb hK hw 0 rfl rfl g2 dX8_image_20 ?_
      refine lv_fv (v := .ref h_img) (congrArg va_rf him) ?_
      refine lv_ifnonnull (tgt := 37) hx hb dX8_image_21 (by decide) ?_
      refine lv_aload_n hx hb dX8_image_37 rfl (lv_at hl 0 rfl) ?_
      refine fgX8_7 hx hb hts hown hK hw 0 rfl kw449 dX8_image_38 ?_
      refine lv_iload_n hx hb dX8_image_41 rfl (lv_at hl 1 rfl) ?_
      obtain ⟨g3, h⟩ := z_gd h
      refine faX8_7 hx hb hK hw 0 rfl rfl g3 dX8_image_42 ?_
      refine lv_fv (v := .ref h_img) (congrArg va_rf him) ?_
      refine lv_aload_n hx hb dX8_image_43 rfl (lv_at hl 0 rfl) ?_
      refine fgX8_2 hx hb hts hown hK hw 0 rfl kw444 dX8_image_44 ?_
      obtain ⟨z4, ez4, h⟩ := z_bd h
      refine xj_v (xrV (As := [.ref h_me_isles]) (rest := []) ⟨hx, hb, hml, hown, hts⟩ (m_X2_set_O l dC dI _ h_img h_img_now h_me_isles h_me_isles_now q_img k_img q_img_now k_img_now q_me_isles k_me_isles q_me_isles_now k_me_isles_now o_img o_img_now o_pool o_me_isles o_me_isles_now z4 ez4) kw1118 kw1115 kw1116 kw1117 kw115 hd_X2_set ⟨rfl, rfl⟩ rfl rfl ⟨rfl, rfl⟩ hX hK hw [4, 5, 3, 1, 2] (by decide) rfl rfl rfl rfl rfl hl.1 rfl rfl dX8_image_47) hw hA [4, 5, 3, 1, 2] (by decide) rfl rfl (fun H locs hw => ?_)
      have hw : Wd dC dI A s.heap [wX8 h_me h_me_reader h_me_machine h_me_isles h_me_court h_me_study h_me_paper h_me_paperCourt h_me_past h_me_pastAhead h_me_movingAhead q_me k_me o_me, wX2 h_me_isles h_me_isles_now q_me_isles k_me_isles o_me_isles, wX4 h_me_isles_now q_me_isles_now k_me_isles_now o_me_isles_now, wPL o_pool, wX2 h_img h_img_now q_img k_img z4.1, wX4 h_img_now q_img_now k_img_now z4.2] H locs := hw
      refine lv_aload_n hx hb dX8_image_50 rfl (lv_at hl 0 rfl) ?_
      refine lv_iconst (v := 0) hx hb dX8_image_51 (by decide) ?_
      obtain ⟨z5, ez5, h⟩ := z_bd h
      refine xj_i (xrV (As := [.int (0 : Int32)]) (rest := []) ⟨hx, hb, hml, hown, hts⟩ (m_X8_grant l dC dI _ h_me h_me_reader h_me_machine h_me_isles h_me_court h_me_study h_me_paper h_me_paperCourt h_me_past h_me_pastAhead h_me_movingAhead q_me k_me o_me (0 : Int32) z5 ez5) kw520 kw517 kw519 kw1 kw110 hd_X8_grant ⟨rfl, rfl⟩ rfl rfl ⟨rfl, rfl⟩ hX hK hw [0] (by decide) rfl rfl rfl rfl rfl hl.1 rfl rfl dX8_image_52) hw hA [0] (by decide) rfl rfl (fun H locs hw => ?_)
      have hw : Wd dC dI A s.heap [wX8 h_me h_me_reader h_me_machine h_me_isles h_me_court h_me_study h_me_paper h_me_paperCourt h_me_past h_me_pastAhead h_me_movingAhead q_me k_me z5.2, wX2 h_me_isles h_me_isles_now q_me_isles k_me_isles o_me_isles, wX4 h_me_isles_now q_me_isles_now k_me_isles_now o_me_isles_now, wPL o_pool, wX2 h_img h_img_now q_img k_img z4.1, wX4 h_img_now q_img_now k_img_now z4.2] H locs := hw
      have hy := Option.some.inj h
      rw [← hQz, ← hy]
      exact xr_i (v := z5.1) hx hb hr rfl hlk hK hw dX8_image_55
    · have h := z_f h c
      exact bk_9_0  o_me o_img o_img_now _ _ _ h hw (lv_sub hl [0] rfl)

def bk_X8_back_N_9   (o_me : Ob) : Option (Int32 × Ob) :=
  (f_X8_refuse o_me (-1 : Int32)).bind fun z1 =>
  some (z1.1, z1.2)
def f_X8_back_N (o_me : Ob) (p0 : Int32) : Option (Int32 × Ob) :=
  if p0 < (0 : Int32) then
  (bk_X8_back_N_9   o_me)
  else
  (if p0 < (2 : Int32) then
  (zgd (zin p0 2) <|
  (f_X8_refuse o_me (-2 : Int32)).bind fun z3 =>
  some (z3.1, z3.2))
  else
  (bk_X8_back_N_9   o_me))
set_option maxHeartbeats 4000000 in
set_option maxRecDepth 100000 in
theorem m_X8_back_N (l : Launch) (dC : Nat → ClassId) (dI : Nat → Nat → Nat) (sz : Nat) (h_me : Nat) (h_me_reader : Nat) (h_me_machine : Nat) (h_me_isles : Nat) (h_me_court : Nat) (h_me_study : Nat) (h_me_paper : Nat) (h_me_paperCourt : Nat) (h_me_past : Nat) (h_me_pastAhead : Nat) (h_me_movingAhead : Nat) (q_me : Nat → Nat) (k_me : Nat → ClassId) (o_me : Ob) (p0 : Int32) (him : gR o_me 7 p0.toNatClampNeg = none) (y : Int32 × Ob) (h : f_X8_back_N o_me p0 = some y) : CI l yX8_back cX8_back 2 (some .int) ({ frames := 1, cells := 0, slots := 0, locals := 21 } : Room) dC dI sz [.ref h_me, .int p0] [wX8 h_me h_me_reader h_me_machine h_me_isles h_me_court h_me_study h_me_paper h_me_paperCourt h_me_past h_me_pastAhead h_me_movingAhead q_me k_me o_me] [tX8 k_me] y.1 [wX8 h_me h_me_reader h_me_machine h_me_isles h_me_court h_me_study h_me_paper h_me_paperCourt h_me_past h_me_pastAhead h_me_movingAhead q_me k_me y.2] := by
  refine CC_of (by decide) (Nat.le_of_ble_eq_true rfl) ?_
  intro p e s m below meth c A ls hx hb hml hr hlk hnm hown hts hX hK hP hD hA hl
  have hl : lv_has ls 2 [(0, .ref h_me), (1, .int p0)] := hl
  have hown : s.vm.findClass RX8 = some m.cls := hown
  have hw : Wd dC dI A s.heap [wX8 h_me h_me_reader h_me_machine h_me_isles h_me_court h_me_study h_me_paper h_me_paperCourt h_me_past h_me_pastAhead h_me_movingAhead q_me k_me o_me] s.heap [] := ⟨hP, hD, va_S.rf⟩
  generalize hQz : (MQ below (QI dC dI (fun r (_ : Unit) => r = y.1) (fun _ => Jn [wX8 h_me h_me_reader h_me_machine h_me_isles h_me_court h_me_study h_me_paper h_me_paperCourt h_me_past h_me_pastAhead h_me_movingAhead q_me k_me y.2]) (fun _ => Jt [tX8 k_me]) A) ([.ref h_me, .int p0] : List Value).toArray s 0 0 A) = Qz
  clear hP hD hnm
  have bk_9_0 : ∀ (o_me : Ob) (H : Heap) (locs : List Loc) (ls : Array Slot), bk_X8_back_N_9   o_me = some y → Wd dC dI A s.heap [wX8 h_me h_me_reader h_me_machine h_me_isles h_me_court h_me_study h_me_paper h_me_paperCourt h_me_past h_me_pastAhead h_me_movingAhead q_me k_me o_me] H locs → lv_has ls 2 [(0, .ref h_me)] → W p l e ({ frames := 1, cells := 0, slots := 0, locals := 21 } : Room) s m ([.ref h_me, .int p0] : List Value).toArray below meth c H locs 0 0 Qz (F0 m 9 ls []) := by
    intro o_me H locs ls h hw hl
    unfold bk_X8_back_N_9 at h
    refine lv_aload_n hx hb dX8_back_9 rfl (lv_at hl 0 rfl) ?_
    refine lv_iconst (v := (-1)) hx hb dX8_back_10 (by decide) ?_
    obtain ⟨z1, ez1, h⟩ := z_bd h
    refine xj_i (xrV (As := [.int (-1 : Int32)]) (rest := []) ⟨hx, hb, hml, hown, hts⟩ (m_X8_refuse l dC dI _ h_me h_me_reader h_me_machine h_me_isles h_me_court h_me_study h_me_paper h_me_paperCourt h_me_past h_me_pastAhead h_me_movingAhead q_me k_me o_me (-1 : Int32) z1 ez1) kw508 kw505 kw507 kw0 kw110 hd_X8_refuse ⟨rfl, rfl⟩ rfl rfl ⟨rfl, rfl⟩ hX hK hw [0] (by decide) rfl rfl rfl rfl rfl hl.1 rfl rfl dX8_back_11) hw hA [0] (by decide) rfl rfl (fun H locs hw => ?_)
    have hw : Wd dC dI A s.heap [wX8 h_me h_me_reader h_me_machine h_me_isles h_me_court h_me_study h_me_paper h_me_paperCourt h_me_past h_me_pastAhead h_me_movingAhead q_me k_me z1.2] H locs := hw
    have hy := Option.some.inj h
    rw [← hQz, ← hy]
    exact xr_i (v := z1.1) hx hb hr rfl hlk hK hw dX8_back_14
  unfold f_X8_back_N at h
  refine lv_iload_n hx hb dX8_back_0 rfl (lv_at hl 1 rfl) ?_
  refine lv_if_lt (tgt := 9) hx hb dX8_back_1 (by decide) (fun c => ?_) (fun c => ?_)
  · have h := z_t h c
    exact bk_9_0  o_me _ _ _ h hw (lv_sub hl [0] rfl)
  · have h := z_f h c
    refine lv_iload_n hx hb dX8_back_4 rfl (lv_at hl 1 rfl) ?_
    refine lv_iconst (v := 2) hx hb dX8_back_5 (by decide) ?_
    refine lv_icmp_lt (tgt := 15) hx hb dX8_back_6 (by decide) (fun c => ?_) (fun c => ?_)
    · have h := z_t h c
      refine lv_aload_n hx hb dX8_back_15 rfl (lv_at hl 0 rfl) ?_
      refine fgX8_7 hx hb hts hown hK hw 0 rfl kw449 dX8_back_16 ?_
      refine lv_iload_n hx hb dX8_back_19 rfl (lv_at hl 1 rfl) ?_
      obtain ⟨g2, h⟩ := z_gd h
      refine faX8_7 hx hb hK hw 0 rfl rfl g2 dX8_back_20 ?_
      refine lv_fv (v := .null) (congrArg va_rf him) ?_
      refine lv_ifnonnullN hx hb dX8_back_21 ?_
      refine lv_aload_n hx hb dX8_back_24 rfl (lv_at hl 0 rfl) ?_
      refine lv_bipush (v := (-2)) hx hb dX8_back_25 (by decide) ?_
      obtain ⟨z3, ez3, h⟩ := z_bd h
      refine xj_i (xrV (As := [.int (-2 : Int32)]) (rest := []) ⟨hx, hb, hml, hown, hts⟩ (m_X8_refuse l dC dI _ h_me h_me_reader h_me_machine h_me_isles h_me_court h_me_study h_me_paper h_me_paperCourt h_me_past h_me_pastAhead h_me_movingAhead q_me k_me o_me (-2 : Int32) z3 ez3) kw508 kw505 kw507 kw0 kw110 hd_X8_refuse ⟨rfl, rfl⟩ rfl rfl ⟨rfl, rfl⟩ hX hK hw [0] (by decide) rfl rfl rfl rfl rfl hl.1 rfl rfl dX8_back_27) hw hA [0] (by decide) rfl rfl (fun H locs hw => ?_)
      have hw : Wd dC dI A s.heap [wX8 h_me h_me_reader h_me_machine h_me_isles h_me_court h_me_study h_me_paper h_me_paperCourt h_me_past h_me_pastAhead h_me_movingAhead q_me k_me z3.2] H locs := hw
      have hy := Option.some.inj h
      rw [← hQz, ← hy]
      exact xr_i (v := z3.1) hx hb hr rfl hlk hK hw dX8_back_30
    · have h := z_f h c
      exact bk_9_0  o_me _ _ _ h hw (lv_sub hl [0] rfl)

def bk_X8_back_O_9 (o_pool : List CR) (o_img : Ob) (o_img_now : Ob)  (o_me : Ob) (o_me_isles : Ob) (o_me_isles_now : Ob) (o_me_past : Ob) : Option (Int32 × Ob × Ob × Ob × Ob) :=
  (f_X8_refuse o_me (-1 : Int32)).bind fun z1 =>
  some (z1.1, z1.2, o_me_isles, o_me_isles_now, o_me_past)
def f_X8_back_O (o_me : Ob) (o_me_isles : Ob) (o_me_isles_now : Ob) (o_me_past : Ob) (o_pool : List CR) (o_img : Ob) (o_img_now : Ob) (p0 : Int32) : Option (Int32 × Ob × Ob × Ob × Ob) :=
  if p0 < (0 : Int32) then
  (bk_X8_back_O_9 o_pool o_img o_img_now  o_me o_me_isles o_me_isles_now o_me_past)
  else
  (if p0 < (2 : Int32) then
  (zgd (zin p0 2) <|
  zgd (zin p0 2) <|
  (f_X2_set_O o_me_isles o_me_isles_now o_pool o_img o_img_now).bind fun z4 =>
  (f_X5_clear o_me_past).bind fun z5 =>
  (f_X8_grant o_me (0 : Int32)).bind fun z6 =>
  some (z6.1, z6.2, z4.1, z4.2, z5))
  else
  (bk_X8_back_O_9 o_pool o_img o_img_now  o_me o_me_isles o_me_isles_now o_me_past))
set_option maxHeartbeats 4000000 in
set_option maxRecDepth 100000 in
theorem m_X8_back_O (l : Launch) (dC : Nat → ClassId) (dI : Nat → Nat → Nat) (sz : Nat) (h_me : Nat) (h_me_reader : Nat) (h_me_machine : Nat) (h_me_isles : Nat) (h_me_court : Nat) (h_me_study : Nat) (h_me_paper : Nat) (h_me_paperCourt : Nat) (h_me_past : Nat) (h_me_pastAhead : Nat) (h_me_movingAhead : Nat) (h_me_isles_now : Nat) (h_img : Nat) (h_img_now : Nat) (q_me : Nat → Nat) (k_me : Nat → ClassId) (q_me_isles : Nat → Nat) (k_me_isles : Nat → ClassId) (q_me_isles_now : Nat → Nat) (k_me_isles_now : Nat → ClassId) (q_me_past : Nat → Nat) (k_me_past : Nat → ClassId) (q_img : Nat → Nat) (k_img : Nat → ClassId) (q_img_now : Nat → Nat) (k_img_now : Nat → ClassId) (o_me : Ob) (o_me_isles : Ob) (o_me_isles_now : Ob) (o_me_past : Ob) (o_pool : List CR) (o_img : Ob) (o_img_now : Ob) (p0 : Int32) (him : gR o_me 7 p0.toNatClampNeg = some h_img) (y : Int32 × Ob × Ob × Ob × Ob) (h : f_X8_back_O o_me o_me_isles o_me_isles_now o_me_past o_pool o_img o_img_now p0 = some y) : CI l yX8_back cX8_back 2 (some .int) ({ frames := 3, cells := 0, slots := 0, locals := 103 } : Room) dC dI sz [.ref h_me, .int p0] [wX8 h_me h_me_reader h_me_machine h_me_isles h_me_court h_me_study h_me_paper h_me_paperCourt h_me_past h_me_pastAhead h_me_movingAhead q_me k_me o_me, wX2 h_me_isles h_me_isles_now q_me_isles k_me_isles o_me_isles, wX4 h_me_isles_now q_me_isles_now k_me_isles_now o_me_isles_now, wX5 h_me_past q_me_past k_me_past o_me_past, wPL o_pool, wX2 h_img h_img_now q_img k_img o_img, wX4 h_img_now q_img_now k_img_now o_img_now] [tX8 k_me, tX2 k_me_isles, tX4 k_me_isles_now, tX5 k_me_past, tPL o_pool, tX2 k_img, tX4 k_img_now] y.1 [wX8 h_me h_me_reader h_me_machine h_me_isles h_me_court h_me_study h_me_paper h_me_paperCourt h_me_past h_me_pastAhead h_me_movingAhead q_me k_me y.2.1, wX2 h_me_isles h_me_isles_now q_me_isles k_me_isles y.2.2.1, wX4 h_me_isles_now q_me_isles_now k_me_isles_now y.2.2.2.1, wX5 h_me_past q_me_past k_me_past y.2.2.2.2, wPL o_pool, wX2 h_img h_img_now q_img k_img o_img, wX4 h_img_now q_img_now k_img_now o_img_now] := by
  refine CC_of (by decide) (Nat.le_of_ble_eq_true rfl) ?_
  intro p e s m below meth c A ls hx hb hml hr hlk hnm hown hts hX hK hP hD hA hl
  have hl : lv_has ls 2 [(0, .ref h_me), (1, .int p0)] := hl
  have hown : s.vm.findClass RX8 = some m.cls := hown
  have hw : Wd dC dI A s.heap [wX8 h_me h_me_reader h_me_machine h_me_isles h_me_court h_me_study h_me_paper h_me_paperCourt h_me_past h_me_pastAhead h_me_movingAhead q_me k_me o_me, wX2 h_me_isles h_me_isles_now q_me_isles k_me_isles o_me_isles, wX4 h_me_isles_now q_me_isles_now k_me_isles_now o_me_isles_now, wX5 h_me_past q_me_past k_me_past o_me_past, wPL o_pool, wX2 h_img h_img_now q_img k_img o_img, wX4 h_img_now q_img_now k_img_now o_img_now] s.heap [] := ⟨hP, hD, va_S.rf⟩
  generalize hQz : (MQ below (QI dC dI (fun r (_ : Unit) => r = y.1) (fun _ => Jn [wX8 h_me h_me_reader h_me_machine h_me_isles h_me_court h_me_study h_me_paper h_me_paperCourt h_me_past h_me_pastAhead h_me_movingAhead q_me k_me y.2.1, wX2 h_me_isles h_me_isles_now q_me_isles k_me_isles y.2.2.1, wX4 h_me_isles_now q_me_isles_now k_me_isles_now y.2.2.2.1, wX5 h_me_past q_me_past k_me_past y.2.2.2.2, wPL o_pool, wX2 h_img h_img_now q_img k_img o_img, wX4 h_img_now q_img_now k_img_now o_img_now]) (fun _ => Jt [tX8 k_me, tX2 k_me_isles, tX4 k_me_isles_now, tX5 k_me_past, tPL o_pool, tX2 k_img, tX4 k_img_now]) A) ([.ref h_me, .int p0] : List Value).toArray s 0 0 A) = Qz
  clear hP hD hnm
  have bk_9_0 : ∀ (o_me : Ob) (o_me_isles : Ob) (o_me_isles_now : Ob) (o_me_past : Ob) (H : Heap) (locs : List Loc) (ls : Array Slot), bk_X8_back_O_9 o_pool o_img o_img_now  o_me o_me_isles o_me_isles_now o_me_past = some y → Wd dC dI A s.heap [wX8 h_me h_me_reader h_me_machine h_me_isles h_me_court h_me_study h_me_paper h_me_paperCourt h_me_past h_me_pastAhead h_me_movingAhead q_me k_me o_me, wX2 h_me_isles h_me_isles_now q_me_isles k_me_isles o_me_isles, wX4 h_me_isles_now q_me_isles_now k_me_isles_now o_me_isles_now, wX5 h_me_past q_me_past k_me_past o_me_past, wPL o_pool, wX2 h_img h_img_now q_img k_img o_img, wX4 h_img_now q_img_now k_img_now o_img_now] H locs → lv_has ls 2 [(0, .ref h_me)] → W p l e ({ frames := 3, cells := 0, slots := 0, locals := 103 } : Room) s m ([.ref h_me, .int p0] : List Value).toArray below meth c H locs 0 0 Qz (F0 m 9 ls []) := by
    intro o_me o_me_isles o_me_isles_now o_me_past H locs ls h hw hl
    unfold bk_X8_back_O_9 at h
    refine lv_aload_n hx hb dX8_back_9 rfl (lv_at hl 0 rfl) ?_
    refine lv_iconst (v := (-1)) hx hb dX8_back_10 (by decide) ?_
    obtain ⟨z1, ez1, h⟩ := z_bd h
    refine xj_i (xrV (As := [.int (-1 : Int32)]) (rest := []) ⟨hx, hb, hml, hown, hts⟩ (m_X8_refuse l dC dI _ h_me h_me_reader h_me_machine h_me_isles h_me_court h_me_study h_me_paper h_me_paperCourt h_me_past h_me_pastAhead h_me_movingAhead q_me k_me o_me (-1 : Int32) z1 ez1) kw508 kw505 kw507 kw0 kw110 hd_X8_refuse ⟨rfl, rfl⟩ rfl rfl ⟨rfl, rfl⟩ hX hK hw [0] (by decide) rfl rfl rfl rfl rfl hl.1 rfl rfl dX8_back_11) hw hA [0] (by decide) rfl rfl (fun H locs hw => ?_)
    have hw : Wd dC dI A s.heap [wX8 h_me h_me_reader h_me_machine h_me_isles h_me_court h_me_study h_me_paper h_me_paperCourt h_me_past h_me_pastAhead h_me_movingAhead q_me k_me z1.2, wX2 h_me_isles h_me_isles_now q_me_isles k_me_isles o_me_isles, wX4 h_me_isles_now q_me_isles_now k_me_isles_now o_me_isles_now, wX5 h_me_past q_me_past k_me_past o_me_past, wPL o_pool, wX2 h_img h_img_now q_img k_img o_img, wX4 h_img_now q_img_now k_img_now o_img_now] H locs := hw
    have hy := Option.some.inj h
    rw [← hQz, ← hy]
    exact xr_i (v := z1.1) hx hb hr rfl hlk hK hw dX8_back_14
  unfold f_X8_back_O at h
  refine lv_iload_n hx hb dX8_back_0 rfl (lv_at hl 1 rfl) ?_
  refine lv_if_lt (tgt := 9) hx hb dX8_back_1 (by decide) (fun c => ?_) (fun c => ?_)
  · have h := z_t h c
    exact bk_9_0  o_me o_me_isles o_me_isles_now o_me_past _ _ _ h hw (lv_sub hl [0] rfl)
  · have h := z_f h c
    refine lv_iload_n hx hb dX8_back_4 rfl (lv_at hl 1 rfl) ?_
    refine lv_iconst (v := 2) hx hb dX8_back_5 (by decide) ?_
    refine lv_icmp_lt (tgt := 15) hx hb dX8_back_6 (by decide) (fun c => ?_) (fun c => ?_)
    · have h := z_t h c
      refine lv_aload_n hx hb dX8_back_15 rfl (lv_at hl 0 rfl) ?_
      refine fgX8_7 hx hb hts hown hK hw 0 rfl kw449 dX8_back_16 ?_
      refine lv_iload_n hx hb dX8_back_19 rfl (lv_at hl 1 rfl) ?_
      obtain ⟨g2, h⟩ := z_gd h
      refine faX8_7 hx hb hK hw 0 rfl rfl g2 dX8_back_20 ?_
      refine lv_fv (v := .ref h_img) (congrArg va_rf him) ?_
      refine lv_ifnonnull (tgt := 31) hx hb dX8_back_21 (by decide) ?_
      refine lv_aload_n hx hb dX8_back_31 rfl (lv_at hl 0 rfl) ?_
      refine fgX8_2 hx hb hts hown hK hw 0 rfl kw444 dX8_back_32 ?_
      refine lv_aload_n hx hb dX8_back_35 rfl (lv_at hl 0 rfl) ?_
      refine fgX8_7 hx hb hts hown hK hw 0 rfl kw449 dX8_back_36 ?_
      refine lv_iload_n hx hb dX8_back_39 rfl (lv_at hl 1 rfl) ?_
      obtain ⟨g3, h⟩ := z_gd h
      refine faX8_7 hx hb hK hw 0 rfl rfl g3 dX8_back_40 ?_
      refine lv_fv (v := .ref h_img) (congrArg va_rf him) ?_
      obtain ⟨z4, ez4, h⟩ := z_bd h
      refine xj_v (xrV (As := [.ref h_img]) (rest := []) ⟨hx, hb, hml, hown, hts⟩ (m_X2_set_O l dC dI _ h_me_isles h_me_isles_now h_img h_img_now q_me_isles k_me_isles q_me_isles_now k_me_isles_now q_img k_img q_img_now k_img_now o_me_isles o_me_isles_now o_pool o_img o_img_now z4 ez4) kw1118 kw1115 kw1116 kw1117 kw115 hd_X2_set ⟨rfl, rfl⟩ rfl rfl ⟨rfl, rfl⟩ hX hK hw [1, 2, 4, 5, 6] (by decide) rfl rfl rfl rfl rfl hl.1 rfl rfl dX8_back_41) hw hA [1, 2, 4, 5, 6] (by decide) rfl rfl (fun H locs hw => ?_)
      have hw : Wd dC dI A s.heap [wX8 h_me h_me_reader h_me_machine h_me_isles h_me_court h_me_study h_me_paper h_me_paperCourt h_me_past h_me_pastAhead h_me_movingAhead q_me k_me o_me, wX2 h_me_isles h_me_isles_now q_me_isles k_me_isles z4.1, wX4 h_me_isles_now q_me_isles_now k_me_isles_now z4.2, wX5 h_me_past q_me_past k_me_past o_me_past, wPL o_pool, wX2 h_img h_img_now q_img k_img o_img, wX4 h_img_now q_img_now k_img_now o_img_now] H locs := hw
      refine lv_aload_n hx hb dX8_back_44 rfl (lv_at hl 0 rfl) ?_
      refine fgX8_8 hx hb hts hown hK hw 0 rfl kw450 dX8_back_45 ?_
      obtain ⟨z5, ez5, h⟩ := z_bd h
      refine xj_v (xrV (As := []) (rest := []) ⟨hx, hb, hml, hown, hts⟩ (m_X5_clear l dC dI _ h_me_past q_me_past k_me_past o_me_past z5 ez5) kw512 kw509 kw510 kw511 kw119 hd_X5_clear ⟨rfl, rfl⟩ rfl rfl ⟨rfl, rfl⟩ hX hK hw [3] (by decide) rfl rfl rfl rfl rfl hl.1 rfl rfl dX8_back_48) hw hA [3] (by decide) rfl rfl (fun H locs hw => ?_)
      have hw : Wd dC dI A s.heap [wX8 h_me h_me_reader h_me_machine h_me_isles h_me_court h_me_study h_me_paper h_me_paperCourt h_me_past h_me_pastAhead h_me_movingAhead q_me k_me o_me, wX2 h_me_isles h_me_isles_now q_me_isles k_me_isles z4.1, wX4 h_me_isles_now q_me_isles_now k_me_isles_now z4.2, wX5 h_me_past q_me_past k_me_past z5, wPL o_pool, wX2 h_img h_img_now q_img k_img o_img, wX4 h_img_now q_img_now k_img_now o_img_now] H locs := hw
      refine lv_aload_n hx hb dX8_back_51 rfl (lv_at hl 0 rfl) ?_
      refine lv_iconst (v := 0) hx hb dX8_back_52 (by decide) ?_
      obtain ⟨z6, ez6, h⟩ := z_bd h
      refine xj_i (xrV (As := [.int (0 : Int32)]) (rest := []) ⟨hx, hb, hml, hown, hts⟩ (m_X8_grant l dC dI _ h_me h_me_reader h_me_machine h_me_isles h_me_court h_me_study h_me_paper h_me_paperCourt h_me_past h_me_pastAhead h_me_movingAhead q_me k_me o_me (0 : Int32) z6 ez6) kw520 kw517 kw519 kw1 kw110 hd_X8_grant ⟨rfl, rfl⟩ rfl rfl ⟨rfl, rfl⟩ hX hK hw [0] (by decide) rfl rfl rfl rfl rfl hl.1 rfl rfl dX8_back_53) hw hA [0] (by decide) rfl rfl (fun H locs hw => ?_)
      have hw : Wd dC dI A s.heap [wX8 h_me h_me_reader h_me_machine h_me_isles h_me_court h_me_study h_me_paper h_me_paperCourt h_me_past h_me_pastAhead h_me_movingAhead q_me k_me z6.2, wX2 h_me_isles h_me_isles_now q_me_isles k_me_isles z4.1, wX4 h_me_isles_now q_me_isles_now k_me_isles_now z4.2, wX5 h_me_past q_me_past k_me_past z5, wPL o_pool, wX2 h_img h_img_now q_img k_img o_img, wX4 h_img_now q_img_now k_img_now o_img_now] H locs := hw
      have hy := Option.some.inj h
      rw [← hQz, ← hy]
      exact xr_i (v := z6.1) hx hb hr rfl hlk hK hw dX8_back_56
    · have h := z_f h c
      exact bk_9_0  o_me o_me_isles o_me_isles_now o_me_past _ _ _ h hw (lv_sub hl [0] rfl)
