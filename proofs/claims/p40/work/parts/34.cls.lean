def f_X8_stopped (o_me : Ob) : Option (Int32) :=
  some (gI o_me 14)
set_option maxHeartbeats 4000000 in
set_option maxRecDepth 100000 in
theorem m_X8_stopped (l : Launch) (dC : Nat → ClassId) (dI : Nat → Nat → Nat) (sz : Nat) (h_me : Nat) (h_me_reader : Nat) (h_me_machine : Nat) (h_me_isles : Nat) (h_me_court : Nat) (h_me_study : Nat) (h_me_paper : Nat) (h_me_paperCourt : Nat) (h_me_past : Nat) (h_me_pastAhead : Nat) (h_me_movingAhead : Nat) (q_me : Nat → Nat) (k_me : Nat → ClassId) (o_me : Ob) (y : Int32) (h : f_X8_stopped o_me = some y) : CI l yX8_stopped cX8_stopped 1 (some .int) ({ frames := 0, cells := 0, slots := 0, locals := 0 } : Room) dC dI sz [.ref h_me] [wX8 h_me h_me_reader h_me_machine h_me_isles h_me_court h_me_study h_me_paper h_me_paperCourt h_me_past h_me_pastAhead h_me_movingAhead q_me k_me o_me] [tX8 k_me] y [wX8 h_me h_me_reader h_me_machine h_me_isles h_me_court h_me_study h_me_paper h_me_paperCourt h_me_past h_me_pastAhead h_me_movingAhead q_me k_me o_me] := by
  refine CC_of (by decide) (Nat.le_of_ble_eq_true rfl) ?_
  intro p e s m below meth c A ls hx hb hml hr hlk hnm hown hts hX hK hP hD hA hl
  have hl : lv_has ls 1 [(0, .ref h_me)] := hl
  have hown : s.vm.findClass RX8 = some m.cls := hown
  have hw : Wd dC dI A s.heap [wX8 h_me h_me_reader h_me_machine h_me_isles h_me_court h_me_study h_me_paper h_me_paperCourt h_me_past h_me_pastAhead h_me_movingAhead q_me k_me o_me] s.heap [] := ⟨hP, hD, va_S.rf⟩
  generalize hQz : (MQ below (QI dC dI (fun r (_ : Unit) => r = y) (fun _ => Jn [wX8 h_me h_me_reader h_me_machine h_me_isles h_me_court h_me_study h_me_paper h_me_paperCourt h_me_past h_me_pastAhead h_me_movingAhead q_me k_me o_me]) (fun _ => Jt [tX8 k_me]) A) ([.ref h_me] : List Value).toArray s 0 0 A) = Qz
  clear hP hD hnm
  unfold f_X8_stopped at h
  refine lv_aload_n hx hb dX8_stopped_0 rfl (lv_at hl 0 rfl) ?_
  refine fgX8_14 hx hb hts hown hK hw 0 rfl kw456 dX8_stopped_1 ?_
  have hy := Option.some.inj h
  rw [← hQz, ← hy]
  exact xr_i (v := gI o_me 14) hx hb hr rfl hlk hK hw dX8_stopped_4

def bk_X8_strength_17   (o_me : Ob) (o_me_isles : Ob) : Option (Int32 × Ob × Ob) :=
  (f_X8_refuse o_me (-1 : Int32)).bind fun z2 =>
  some (z2.1, z2.2, o_me_isles)
def f_X8_strength (o_me : Ob) (o_me_isles : Ob) (p0 : Int32) (p1 : Int32) (p2 : Int32) : Option (Int32 × Ob × Ob) :=
  (f_X8_isRace p1).bind fun z1 =>
  if z1 = (0 : Int32) then
  (bk_X8_strength_17   o_me o_me_isles)
  else
  (if p2 < (0 : Int32) then
  (bk_X8_strength_17   o_me o_me_isles)
  else
  (if p2 ≤ (9 : Int32) then
  ((f_X2_isPerson o_me_isles p0).bind fun z3 =>
  if z3 = (0 : Int32) then
  ((f_X8_refuse o_me (-2 : Int32)).bind fun z10 =>
  some (z10.1, z10.2, o_me_isles))
  else
  (zlt ((p0 * (4 : Int32)) + p1) fun x4 =>
  zgd (zin x4 28) <|
  zlt (gA o_me_isles 2 x4.toNatClampNeg) fun x6 =>
  zgd (zin x4 28) <|
  zlt (tA o_me_isles 2 x4.toNatClampNeg p2) fun o8 =>
  (f_X8_grant o_me x6).bind fun z9 =>
  some (z9.1, z9.2, o8)))
  else
  (bk_X8_strength_17   o_me o_me_isles)))
set_option maxHeartbeats 4000000 in
set_option maxRecDepth 100000 in
theorem m_X8_strength (l : Launch) (dC : Nat → ClassId) (dI : Nat → Nat → Nat) (sz : Nat) (h_me : Nat) (h_me_reader : Nat) (h_me_machine : Nat) (h_me_isles : Nat) (h_me_court : Nat) (h_me_study : Nat) (h_me_paper : Nat) (h_me_paperCourt : Nat) (h_me_past : Nat) (h_me_pastAhead : Nat) (h_me_movingAhead : Nat) (h_me_isles_now : Nat) (q_me : Nat → Nat) (k_me : Nat → ClassId) (q_me_isles : Nat → Nat) (k_me_isles : Nat → ClassId) (o_me : Ob) (o_me_isles : Ob) (p0 : Int32) (p1 : Int32) (p2 : Int32) (y : Int32 × Ob × Ob) (h : f_X8_strength o_me o_me_isles p0 p1 p2 = some y) : CI l yX8_strength cX8_strength 6 (some .int) ({ frames := 1, cells := 0, slots := 0, locals := 21 } : Room) dC dI sz [.ref h_me, .int p0, .int p1, .int p2] [wX8 h_me h_me_reader h_me_machine h_me_isles h_me_court h_me_study h_me_paper h_me_paperCourt h_me_past h_me_pastAhead h_me_movingAhead q_me k_me o_me, wX2 h_me_isles h_me_isles_now q_me_isles k_me_isles o_me_isles] [tX8 k_me, tX2 k_me_isles] y.1 [wX8 h_me h_me_reader h_me_machine h_me_isles h_me_court h_me_study h_me_paper h_me_paperCourt h_me_past h_me_pastAhead h_me_movingAhead q_me k_me y.2.1, wX2 h_me_isles h_me_isles_now q_me_isles k_me_isles y.2.2] := by
  refine CC_of (by decide) (Nat.le_of_ble_eq_true rfl) ?_
  intro p e s m below meth c A ls hx hb hml hr hlk hnm hown hts hX hK hP hD hA hl
  have hl : lv_has ls 6 [(0, .ref h_me), (1, .int p0), (2, .int p1), (3, .int p2)] := hl
  have hown : s.vm.findClass RX8 = some m.cls := hown
  have hw : Wd dC dI A s.heap [wX8 h_me h_me_reader h_me_machine h_me_isles h_me_court h_me_study h_me_paper h_me_paperCourt h_me_past h_me_pastAhead h_me_movingAhead q_me k_me o_me, wX2 h_me_isles h_me_isles_now q_me_isles k_me_isles o_me_isles] s.heap [] := ⟨hP, hD, va_S.rf⟩
  generalize hQz : (MQ below (QI dC dI (fun r (_ : Unit) => r = y.1) (fun _ => Jn [wX8 h_me h_me_reader h_me_machine h_me_isles h_me_court h_me_study h_me_paper h_me_paperCourt h_me_past h_me_pastAhead h_me_movingAhead q_me k_me y.2.1, wX2 h_me_isles h_me_isles_now q_me_isles k_me_isles y.2.2]) (fun _ => Jt [tX8 k_me, tX2 k_me_isles]) A) ([.ref h_me, .int p0, .int p1, .int p2] : List Value).toArray s 0 0 A) = Qz
  clear hP hD hnm
  have bk_17_0 : ∀ (o_me : Ob) (o_me_isles : Ob) (H : Heap) (locs : List Loc) (ls : Array Slot), bk_X8_strength_17   o_me o_me_isles = some y → Wd dC dI A s.heap [wX8 h_me h_me_reader h_me_machine h_me_isles h_me_court h_me_study h_me_paper h_me_paperCourt h_me_past h_me_pastAhead h_me_movingAhead q_me k_me o_me, wX2 h_me_isles h_me_isles_now q_me_isles k_me_isles o_me_isles] H locs → lv_has ls 6 [(0, .ref h_me)] → W p l e ({ frames := 1, cells := 0, slots := 0, locals := 21 } : Room) s m ([.ref h_me, .int p0, .int p1, .int p2] : List Value).toArray below meth c H locs 0 0 Qz (F0 m 17 ls []) := by
    intro o_me o_me_isles H locs ls h hw hl
    unfold bk_X8_strength_17 at h
    refine lv_aload_n hx hb dX8_strength_17 rfl (lv_at hl 0 rfl) ?_
    refine lv_iconst (v := (-1)) hx hb dX8_strength_18 (by decide) ?_
    obtain ⟨z2, ez2, h⟩ := z_bd h
    refine xj_i (xrV (As := [.int (-1 : Int32)]) (rest := []) ⟨hx, hb, hml, hown, hts⟩ (m_X8_refuse l dC dI _ h_me h_me_reader h_me_machine h_me_isles h_me_court h_me_study h_me_paper h_me_paperCourt h_me_past h_me_pastAhead h_me_movingAhead q_me k_me o_me (-1 : Int32) z2 ez2) kw508 kw505 kw507 kw0 kw110 hd_X8_refuse ⟨rfl, rfl⟩ rfl rfl ⟨rfl, rfl⟩ hX hK hw [0] (by decide) rfl rfl rfl rfl rfl hl.1 rfl rfl dX8_strength_19) hw hA [0] (by decide) rfl rfl (fun H locs hw => ?_)
    have hw : Wd dC dI A s.heap [wX8 h_me h_me_reader h_me_machine h_me_isles h_me_court h_me_study h_me_paper h_me_paperCourt h_me_past h_me_pastAhead h_me_movingAhead q_me k_me z2.2, wX2 h_me_isles h_me_isles_now q_me_isles k_me_isles o_me_isles] H locs := hw
    have hy := Option.some.inj h
    rw [← hQz, ← hy]
    exact xr_i (v := z2.1) hx hb hr rfl hlk hK hw dX8_strength_22
  unfold f_X8_strength at h
  refine lv_iload_n hx hb dX8_strength_0 rfl (lv_at hl 2 rfl) ?_
  obtain ⟨z1, ez1, h⟩ := z_bd h
  refine xj_i (xrS (As := [.int p1]) (rest := []) ⟨hx, hb, hml, hown, hts⟩ (m_X8_isRace l dC dI _  p1 z1 ez1) kw527 kw525 kw526 kw110 hd_X8_isRace ⟨rfl, rfl⟩ rfl rfl ⟨rfl, rfl⟩ hX hK hw [] (by decide) rfl rfl hl.1 rfl rfl dX8_strength_1) hw hA [] (by decide) rfl rfl (fun H locs hw => ?_)
  refine lv_if_eq (tgt := 17) hx hb dX8_strength_4 (by decide) (fun c => ?_) (fun c => ?_)
  · have h := z_t h c
    exact bk_17_0  o_me o_me_isles _ _ _ h hw (lv_sub hl [0] rfl)
  · have h := z_f h c
    refine lv_iload_n hx hb dX8_strength_7 rfl (lv_at hl 3 rfl) ?_
    refine lv_if_lt (tgt := 17) hx hb dX8_strength_8 (by decide) (fun c => ?_) (fun c => ?_)
    · have h := z_t h c
      exact bk_17_0  o_me o_me_isles _ _ _ h hw (lv_sub hl [0] rfl)
    · have h := z_f h c
      refine lv_iload_n hx hb dX8_strength_11 rfl (lv_at hl 3 rfl) ?_
      refine lv_bipush (v := 9) hx hb dX8_strength_12 (by decide) ?_
      refine lv_icmp_le (tgt := 23) hx hb dX8_strength_14 (by decide) (fun c => ?_) (fun c => ?_)
      · have h := z_t h c
        refine lv_aload_n hx hb dX8_strength_23 rfl (lv_at hl 0 rfl) ?_
        refine fgX8_2 hx hb hts hown hK hw 0 rfl kw444 dX8_strength_24 ?_
        refine lv_iload_n hx hb dX8_strength_27 rfl (lv_at hl 1 rfl) ?_
        obtain ⟨z3, ez3, h⟩ := z_bd h
        refine xj_i (xrV (As := [.int p0]) (rest := []) ⟨hx, hb, hml, hown, hts⟩ (m_X2_isPerson l dC dI _ h_me_isles h_me_isles_now q_me_isles k_me_isles o_me_isles p0 z3 ez3) kw504 kw501 kw502 kw503 kw115 hd_X2_isPerson ⟨rfl, rfl⟩ rfl rfl ⟨rfl, rfl⟩ hX hK hw [1] (by decide) rfl rfl rfl rfl rfl hl.1 rfl rfl dX8_strength_28) hw hA [1] (by decide) rfl rfl (fun H locs hw => ?_)
        have hw : Wd dC dI A s.heap [wX8 h_me h_me_reader h_me_machine h_me_isles h_me_court h_me_study h_me_paper h_me_paperCourt h_me_past h_me_pastAhead h_me_movingAhead q_me k_me o_me, wX2 h_me_isles h_me_isles_now q_me_isles k_me_isles o_me_isles] H locs := hw
        refine lv_if_ne (tgt := 41) hx hb dX8_strength_31 (by decide) (fun c => ?_) (fun c => ?_)
        · have h := z_f h c
          refine lv_iload_n hx hb dX8_strength_41 rfl (lv_at hl 1 rfl) ?_
          refine lv_iconst (v := 4) hx hb dX8_strength_42 (by decide) ?_
          refine lv_imul hx hb dX8_strength_43 ?_
          refine lv_iload_n hx hb dX8_strength_44 rfl (lv_at hl 2 rfl) ?_
          refine lv_iadd hx hb dX8_strength_45 ?_
          obtain ⟨x4, ex4, h⟩ := z_lt h
          refine lv_fi (v := x4) ex4.symm ?_
          refine lv_istore (lv' := [(4, .int x4), (0, .ref h_me), (1, .int p0), (2, .int p1), (3, .int p2)]) hx hb dX8_strength_46 hl (by decide) rfl (fun ls hl => ?_)
          refine lv_aload_n hx hb dX8_strength_48 rfl (lv_at hl 1 rfl) ?_
          refine fgX8_2 hx hb hts hown hK hw 0 rfl kw444 dX8_strength_49 ?_
          refine fgX2_2 hx hb hts hown hK hw 1 rfl kw305 dX8_strength_52 ?_
          refine lv_iload hx hb dX8_strength_55 (lv_at hl 0 rfl) ?_
          obtain ⟨g5, h⟩ := z_gd h
          refine faX2_2 hx hb hK hw 1 rfl rfl g5 dX8_strength_57 ?_
          obtain ⟨x6, ex6, h⟩ := z_lt h
          refine lv_fi (v := x6) ex6.symm ?_
          refine lv_istore (lv' := [(5, .int x6), (4, .int x4), (0, .ref h_me), (1, .int p0), (2, .int p1), (3, .int p2)]) hx hb dX8_strength_58 hl (by decide) rfl (fun ls hl => ?_)
          refine lv_aload_n hx hb dX8_strength_60 rfl (lv_at hl 2 rfl) ?_
          refine fgX8_2 hx hb hts hown hK hw 0 rfl kw444 dX8_strength_61 ?_
          refine fgX2_2 hx hb hts hown hK hw 1 rfl kw305 dX8_strength_64 ?_
          refine lv_iload hx hb dX8_strength_67 (lv_at hl 1 rfl) ?_
          refine lv_iload_n hx hb dX8_strength_69 rfl (lv_at hl 5 rfl) ?_
          obtain ⟨g7, h⟩ := z_gd h
          refine fbX2_2 hx hb hK hw 1 rfl rfl g7 dX8_strength_70 (fun H locs hw => ?_)
          obtain ⟨o8, eo8, h⟩ := z_lt h
          have hw : Wd dC dI A s.heap [wX8 h_me h_me_reader h_me_machine h_me_isles h_me_court h_me_study h_me_paper h_me_paperCourt h_me_past h_me_pastAhead h_me_movingAhead q_me k_me o_me, wX2 h_me_isles h_me_isles_now q_me_isles k_me_isles o8] H locs := by rw [eo8]; exact hw
          refine lv_aload_n hx hb dX8_strength_71 rfl (lv_at hl 2 rfl) ?_
          refine lv_iload hx hb dX8_strength_72 (lv_at hl 0 rfl) ?_
          obtain ⟨z9, ez9, h⟩ := z_bd h
          refine xj_i (xrV (As := [.int x6]) (rest := []) ⟨hx, hb, hml, hown, hts⟩ (m_X8_grant l dC dI _ h_me h_me_reader h_me_machine h_me_isles h_me_court h_me_study h_me_paper h_me_paperCourt h_me_past h_me_pastAhead h_me_movingAhead q_me k_me o_me x6 z9 ez9) kw520 kw517 kw519 kw1 kw110 hd_X8_grant ⟨rfl, rfl⟩ rfl rfl ⟨rfl, rfl⟩ hX hK hw [0] (by decide) rfl rfl rfl rfl rfl hl.1 rfl rfl dX8_strength_74) hw hA [0] (by decide) rfl rfl (fun H locs hw => ?_)
          have hw : Wd dC dI A s.heap [wX8 h_me h_me_reader h_me_machine h_me_isles h_me_court h_me_study h_me_paper h_me_paperCourt h_me_past h_me_pastAhead h_me_movingAhead q_me k_me z9.2, wX2 h_me_isles h_me_isles_now q_me_isles k_me_isles o8] H locs := hw
          have hy := Option.some.inj h
          rw [← hQz, ← hy]
          exact xr_i (v := z9.1) hx hb hr rfl hlk hK hw dX8_strength_77
        · have h := z_t h c
          refine lv_aload_n hx hb dX8_strength_34 rfl (lv_at hl 0 rfl) ?_
          refine lv_bipush (v := (-2)) hx hb dX8_strength_35 (by decide) ?_
          obtain ⟨z10, ez10, h⟩ := z_bd h
          refine xj_i (xrV (As := [.int (-2 : Int32)]) (rest := []) ⟨hx, hb, hml, hown, hts⟩ (m_X8_refuse l dC dI _ h_me h_me_reader h_me_machine h_me_isles h_me_court h_me_study h_me_paper h_me_paperCourt h_me_past h_me_pastAhead h_me_movingAhead q_me k_me o_me (-2 : Int32) z10 ez10) kw508 kw505 kw507 kw0 kw110 hd_X8_refuse ⟨rfl, rfl⟩ rfl rfl ⟨rfl, rfl⟩ hX hK hw [0] (by decide) rfl rfl rfl rfl rfl hl.1 rfl rfl dX8_strength_37) hw hA [0] (by decide) rfl rfl (fun H locs hw => ?_)
          have hw : Wd dC dI A s.heap [wX8 h_me h_me_reader h_me_machine h_me_isles h_me_court h_me_study h_me_paper h_me_paperCourt h_me_past h_me_pastAhead h_me_movingAhead q_me k_me z10.2, wX2 h_me_isles h_me_isles_now q_me_isles k_me_isles o_me_isles] H locs := hw
          have hy := Option.some.inj h
          rw [← hQz, ← hy]
          exact xr_i (v := z10.1) hx hb hr rfl hlk hK hw dX8_strength_40
      · have h := z_f h c
        exact bk_17_0  o_me o_me_isles _ _ _ h hw (lv_sub hl [0] rfl)

def f_X8_take (o_me : Ob) (o_me_machine : Ob) (o_me_isles : Ob) (o_me_isles_now : Ob) (o_me_court : Ob) (o_me_past : Ob) (o_pool : List CR) (p0 : Int32) : Option (Int32 × Ob × Ob × Ob × Ob × Ob) :=
  (f_X1_moved_O o_me_court o_me_isles o_me_isles_now o_me_machine o_pool o_me_past (2 : Int32) p0).bind fun z1 =>
  (f_X8_answer o_me z1.1).bind fun z2 =>
  some (z2.1, z2.2, z1.2.2.2.1, z1.2.2.1, z1.2.1, z1.2.2.2.2)
set_option maxHeartbeats 4000000 in
set_option maxRecDepth 100000 in
theorem m_X8_take (l : Launch) (dC : Nat → ClassId) (dI : Nat → Nat → Nat) (sz : Nat) (h_me : Nat) (h_me_reader : Nat) (h_me_machine : Nat) (h_me_isles : Nat) (h_me_court : Nat) (h_me_study : Nat) (h_me_paper : Nat) (h_me_paperCourt : Nat) (h_me_past : Nat) (h_me_pastAhead : Nat) (h_me_movingAhead : Nat) (h_me_isles_now : Nat) (q_me : Nat → Nat) (k_me : Nat → ClassId) (q_me_machine : Nat → Nat) (k_me_machine : Nat → ClassId) (q_me_isles : Nat → Nat) (k_me_isles : Nat → ClassId) (q_me_isles_now : Nat → Nat) (k_me_isles_now : Nat → ClassId) (q_me_court : Nat → Nat) (k_me_court : Nat → ClassId) (q_me_past : Nat → Nat) (k_me_past : Nat → ClassId) (o_me : Ob) (o_me_machine : Ob) (o_me_isles : Ob) (o_me_isles_now : Ob) (o_me_court : Ob) (o_me_past : Ob) (o_pool : List CR) (p0 : Int32) (y : Int32 × Ob × Ob × Ob × Ob × Ob) (h : f_X8_take o_me o_me_machine o_me_isles o_me_isles_now o_me_court o_me_past o_pool p0 = some y) : CI l yX8_take cX8_take 2 (some .int) ({ frames := 6, cells := 0, slots := 0, locals := 163 } : Room) dC dI sz [.ref h_me, .int p0] [wX8 h_me h_me_reader h_me_machine h_me_isles h_me_court h_me_study h_me_paper h_me_paperCourt h_me_past h_me_pastAhead h_me_movingAhead q_me k_me o_me, wX3 h_me_machine q_me_machine k_me_machine o_me_machine, wX2 h_me_isles h_me_isles_now q_me_isles k_me_isles o_me_isles, wX4 h_me_isles_now q_me_isles_now k_me_isles_now o_me_isles_now, wX1 h_me_court h_me_isles h_me_machine q_me_court k_me_court o_me_court, wX5 h_me_past q_me_past k_me_past o_me_past, wPL o_pool] [tX8 k_me, tX3 k_me_machine, tX2 k_me_isles, tX4 k_me_isles_now, tX1 k_me_court, tX5 k_me_past, tPL o_pool] y.1 [wX8 h_me h_me_reader h_me_machine h_me_isles h_me_court h_me_study h_me_paper h_me_paperCourt h_me_past h_me_pastAhead h_me_movingAhead q_me k_me y.2.1, wX3 h_me_machine q_me_machine k_me_machine y.2.2.1, wX2 h_me_isles h_me_isles_now q_me_isles k_me_isles o_me_isles, wX4 h_me_isles_now q_me_isles_now k_me_isles_now y.2.2.2.1, wX1 h_me_court h_me_isles h_me_machine q_me_court k_me_court y.2.2.2.2.1, wX5 h_me_past q_me_past k_me_past y.2.2.2.2.2, wPL o_pool] := by
  refine CC_of (by decide) (Nat.le_of_ble_eq_true rfl) ?_
  intro p e s m below meth c A ls hx hb hml hr hlk hnm hown hts hX hK hP hD hA hl
  have hl : lv_has ls 2 [(0, .ref h_me), (1, .int p0)] := hl
  have hown : s.vm.findClass RX8 = some m.cls := hown
  have hw : Wd dC dI A s.heap [wX8 h_me h_me_reader h_me_machine h_me_isles h_me_court h_me_study h_me_paper h_me_paperCourt h_me_past h_me_pastAhead h_me_movingAhead q_me k_me o_me, wX3 h_me_machine q_me_machine k_me_machine o_me_machine, wX2 h_me_isles h_me_isles_now q_me_isles k_me_isles o_me_isles, wX4 h_me_isles_now q_me_isles_now k_me_isles_now o_me_isles_now, wX1 h_me_court h_me_isles h_me_machine q_me_court k_me_court o_me_court, wX5 h_me_past q_me_past k_me_past o_me_past, wPL o_pool] s.heap [] := ⟨hP, hD, va_S.rf⟩
  generalize hQz : (MQ below (QI dC dI (fun r (_ : Unit) => r = y.1) (fun _ => Jn [wX8 h_me h_me_reader h_me_machine h_me_isles h_me_court h_me_study h_me_paper h_me_paperCourt h_me_past h_me_pastAhead h_me_movingAhead q_me k_me y.2.1, wX3 h_me_machine q_me_machine k_me_machine y.2.2.1, wX2 h_me_isles h_me_isles_now q_me_isles k_me_isles o_me_isles, wX4 h_me_isles_now q_me_isles_now k_me_isles_now y.2.2.2.1, wX1 h_me_court h_me_isles h_me_machine q_me_court k_me_court y.2.2.2.2.1, wX5 h_me_past q_me_past k_me_past y.2.2.2.2.2, wPL o_pool]) (fun _ => Jt [tX8 k_me, tX3 k_me_machine, tX2 k_me_isles, tX4 k_me_isles_now, tX1 k_me_court, tX5 k_me_past, tPL o_pool]) A) ([.ref h_me, .int p0] : List Value).toArray s 0 0 A) = Qz
  clear hP hD hnm
  unfold f_X8_take at h
  refine lv_aload_n hx hb dX8_take_0 rfl (lv_at hl 0 rfl) ?_
  refine lv_aload_n hx hb dX8_take_1 rfl (lv_at hl 0 rfl) ?_
  refine fgX8_3 hx hb hts hown hK hw 0 rfl kw445 dX8_take_2 ?_
  refine lv_iconst (v := 2) hx hb dX8_take_5 (by decide) ?_
  refine lv_iload_n hx hb dX8_take_6 rfl (lv_at hl 1 rfl) ?_
  refine lv_aload_n hx hb dX8_take_7 rfl (lv_at hl 0 rfl) ?_
  refine fgX8_8 hx hb hts hown hK hw 0 rfl kw450 dX8_take_8 ?_
  obtain ⟨z1, ez1, h⟩ := z_bd h
  refine xj_i (xrV (As := [.int (2 : Int32), .int p0, .ref h_me_past]) (rest := [.ref h_me]) ⟨hx, hb, hml, hown, hts⟩ (m_X1_moved_O l dC dI _ h_me_court h_me_isles h_me_machine h_me_isles_now h_me_past q_me_court k_me_court q_me_isles k_me_isles q_me_isles_now k_me_isles_now q_me_machine k_me_machine q_me_past k_me_past o_me_court o_me_isles o_me_isles_now o_me_machine o_pool o_me_past (2 : Int32) p0 z1 ez1) kw852 kw849 kw850 kw851 kw117 hd_X1_moved ⟨rfl, rfl⟩ rfl rfl ⟨rfl, rfl⟩ hX hK hw [4, 2, 3, 1, 6, 5] (by decide) rfl rfl rfl rfl rfl hl.1 rfl rfl dX8_take_11) hw hA [4, 2, 3, 1, 6, 5] (by decide) rfl rfl (fun H locs hw => ?_)
  have hw : Wd dC dI A s.heap [wX8 h_me h_me_reader h_me_machine h_me_isles h_me_court h_me_study h_me_paper h_me_paperCourt h_me_past h_me_pastAhead h_me_movingAhead q_me k_me o_me, wX3 h_me_machine q_me_machine k_me_machine z1.2.2.2.1, wX2 h_me_isles h_me_isles_now q_me_isles k_me_isles o_me_isles, wX4 h_me_isles_now q_me_isles_now k_me_isles_now z1.2.2.1, wX1 h_me_court h_me_isles h_me_machine q_me_court k_me_court z1.2.1, wX5 h_me_past q_me_past k_me_past z1.2.2.2.2, wPL o_pool] H locs := hw
  obtain ⟨z2, ez2, h⟩ := z_bd h
  refine xj_i (xrV (As := [.int z1.1]) (rest := []) ⟨hx, hb, hml, hown, hts⟩ (m_X8_answer l dC dI _ h_me h_me_reader h_me_machine h_me_isles h_me_court h_me_study h_me_paper h_me_paperCourt h_me_past h_me_pastAhead h_me_movingAhead q_me k_me o_me z1.1 z2 ez2) kw918 kw915 kw917 kw26 kw110 hd_X8_answer ⟨rfl, rfl⟩ rfl rfl ⟨rfl, rfl⟩ hX hK hw [0] (by decide) rfl rfl rfl rfl rfl hl.1 rfl rfl dX8_take_14) hw hA [0] (by decide) rfl rfl (fun H locs hw => ?_)
  have hw : Wd dC dI A s.heap [wX8 h_me h_me_reader h_me_machine h_me_isles h_me_court h_me_study h_me_paper h_me_paperCourt h_me_past h_me_pastAhead h_me_movingAhead q_me k_me z2.2, wX3 h_me_machine q_me_machine k_me_machine z1.2.2.2.1, wX2 h_me_isles h_me_isles_now q_me_isles k_me_isles o_me_isles, wX4 h_me_isles_now q_me_isles_now k_me_isles_now z1.2.2.1, wX1 h_me_court h_me_isles h_me_machine q_me_court k_me_court z1.2.1, wX5 h_me_past q_me_past k_me_past z1.2.2.2.2, wPL o_pool] H locs := hw
  have hy := Option.some.inj h
  rw [← hQz, ← hy]
  exact xr_i (v := z2.1) hx hb hr rfl hlk hK hw dX8_take_17

def f_X2_setTerm (o_me : Ob) (o_me_now : Ob) (p0 : Int32) (p1 : Int32) : Option (Ob × Ob) :=
  if p0 = (0 : Int32) then
  (zlt (sI o_me_now 4 p1) fun o3 =>
  some (o_me, o3))
  else
  (if p0 = (1 : Int32) then
  (zlt (sI o_me 11 p1) fun o2 =>
  some (o2, o_me_now))
  else
  (zlt (sI o_me 12 p1) fun o1 =>
  some (o1, o_me_now)))
set_option maxHeartbeats 4000000 in
set_option maxRecDepth 100000 in
theorem m_X2_setTerm (l : Launch) (dC : Nat → ClassId) (dI : Nat → Nat → Nat) (sz : Nat) (h_me : Nat) (h_me_now : Nat) (q_me : Nat → Nat) (k_me : Nat → ClassId) (q_me_now : Nat → Nat) (k_me_now : Nat → ClassId) (o_me : Ob) (o_me_now : Ob) (p0 : Int32) (p1 : Int32) (y : Ob × Ob) (h : f_X2_setTerm o_me o_me_now p0 p1 = some y) : CV l yX2_setTerm cX2_setTerm 3 none ({ frames := 0, cells := 0, slots := 0, locals := 0 } : Room) dC dI sz [.ref h_me, .int p0, .int p1] [wX2 h_me h_me_now q_me k_me o_me, wX4 h_me_now q_me_now k_me_now o_me_now] [tX2 k_me, tX4 k_me_now] [wX2 h_me h_me_now q_me k_me y.1, wX4 h_me_now q_me_now k_me_now y.2] := by
  refine CC_of (by decide) (Nat.le_of_ble_eq_true rfl) ?_
  intro p e s m below meth c A ls hx hb hml hr hlk hnm hown hts hX hK hP hD hA hl
  have hl : lv_has ls 3 [(0, .ref h_me), (1, .int p0), (2, .int p1)] := hl
  have hown : s.vm.findClass RX2 = some m.cls := hown
  have hw : Wd dC dI A s.heap [wX2 h_me h_me_now q_me k_me o_me, wX4 h_me_now q_me_now k_me_now o_me_now] s.heap [] := ⟨hP, hD, va_S.rf⟩
  generalize hQz : (MQ below (QV dC dI (fun (_ : Unit) => True) (fun _ => Jn [wX2 h_me h_me_now q_me k_me y.1, wX4 h_me_now q_me_now k_me_now y.2]) (fun _ => Jt [tX2 k_me, tX4 k_me_now]) A) ([.ref h_me, .int p0, .int p1] : List Value).toArray s 0 0 A) = Qz
  clear hP hD hnm
  unfold f_X2_setTerm at h
  refine lv_iload_n hx hb dX2_setTerm_0 rfl (lv_at hl 1 rfl) ?_
  refine lv_if_ne (tgt := 15) hx hb dX2_setTerm_1 (by decide) (fun c => ?_) (fun c => ?_)
  · have h := z_f h c
    refine lv_iload_n hx hb dX2_setTerm_15 rfl (lv_at hl 1 rfl) ?_
    refine lv_iconst (v := 1) hx hb dX2_setTerm_16 (by decide) ?_
    refine lv_icmp_ne (tgt := 28) hx hb dX2_setTerm_17 (by decide) (fun c => ?_) (fun c => ?_)
    · have h := z_f h c
      refine lv_aload_n hx hb dX2_setTerm_28 rfl (lv_at hl 0 rfl) ?_
      refine lv_iload_n hx hb dX2_setTerm_29 rfl (lv_at hl 2 rfl) ?_
      refine fpX2_12 hx hb hts hown hK hw 0 rfl kw328 dX2_setTerm_30 (fun H locs hw => ?_)
      obtain ⟨o1, eo1, h⟩ := z_lt h
      have hw : Wd dC dI A s.heap [wX2 h_me h_me_now q_me k_me o1, wX4 h_me_now q_me_now k_me_now o_me_now] H locs := by rw [eo1]; exact hw
      have hy := Option.some.inj h
      rw [← hQz, ← hy]
      exact xr_v hx hb hr hlk hK hw dX2_setTerm_33
    · have h := z_t h c
      refine lv_aload_n hx hb dX2_setTerm_20 rfl (lv_at hl 0 rfl) ?_
      refine lv_iload_n hx hb dX2_setTerm_21 rfl (lv_at hl 2 rfl) ?_
      refine fpX2_11 hx hb hts hown hK hw 0 rfl kw326 dX2_setTerm_22 (fun H locs hw => ?_)
      obtain ⟨o2, eo2, h⟩ := z_lt h
      have hw : Wd dC dI A s.heap [wX2 h_me h_me_now q_me k_me o2, wX4 h_me_now q_me_now k_me_now o_me_now] H locs := by rw [eo2]; exact hw
      refine lv_goto (tgt := 33) hx hb dX2_setTerm_25 (by decide) ?_
      have hy := Option.some.inj h
      rw [← hQz, ← hy]
      exact xr_v hx hb hr hlk hK hw dX2_setTerm_33
  · have h := z_t h c
    refine lv_aload_n hx hb dX2_setTerm_4 rfl (lv_at hl 0 rfl) ?_
    refine fgX2_0 hx hb hts hown hK hw 0 rfl kw295 dX2_setTerm_5 ?_
    refine lv_iload_n hx hb dX2_setTerm_8 rfl (lv_at hl 2 rfl) ?_
    refine fpX4_4 hx hb hts hown hK hw 1 rfl kw279 dX2_setTerm_9 (fun H locs hw => ?_)
    obtain ⟨o3, eo3, h⟩ := z_lt h
    have hw : Wd dC dI A s.heap [wX2 h_me h_me_now q_me k_me o_me, wX4 h_me_now q_me_now k_me_now o3] H locs := by rw [eo3]; exact hw
    refine lv_goto (tgt := 33) hx hb dX2_setTerm_12 (by decide) ?_
    have hy := Option.some.inj h
    rw [← hQz, ← hy]
    exact xr_v hx hb hr hlk hK hw dX2_setTerm_33

def bk_X8_terms_41   (o_me : Ob) (o_me_isles : Ob) (o_me_isles_now : Ob) (o_me_past : Ob) : Option (Int32 × Ob × Ob × Ob × Ob) :=
  (f_X8_refuse o_me (-1 : Int32)).bind fun z1 =>
  some (z1.1, z1.2, o_me_isles, o_me_isles_now, o_me_past)
def bk_X8_terms_31   (v1 : Int32) (v2 : Int32) (s0 : Int32) (o_me : Ob) (o_me_isles : Ob) (o_me_isles_now : Ob) (o_me_past : Ob) : Option (Int32 × Ob × Ob × Ob × Ob) :=
  if v2 < (0 : Int32) then
  (bk_X8_terms_41   o_me o_me_isles o_me_isles_now o_me_past)
  else
  (if v2 ≤ s0 then
  ((f_X2_term o_me_isles o_me_isles_now v1).bind fun z2 =>
  (f_X2_setTerm o_me_isles o_me_isles_now v1 v2).bind fun z3 =>
  (f_X5_clear o_me_past).bind fun z4 =>
  (f_X8_grant o_me z2).bind fun z5 =>
  some (z5.1, z5.2, z3.1, z3.2, z4))
  else
  (bk_X8_terms_41   o_me o_me_isles o_me_isles_now o_me_past))
def f_X8_terms (o_me : Ob) (o_me_isles : Ob) (o_me_isles_now : Ob) (o_me_past : Ob) (p0 : Int32) (p1 : Int32) : Option (Int32 × Ob × Ob × Ob × Ob) :=
  if p0 = (0 : Int32) then
  (bk_X8_terms_31   p0 p1 (999 : Int32) o_me o_me_isles o_me_isles_now o_me_past)
  else
  (if p0 = (1 : Int32) then
  (bk_X8_terms_31   p0 p1 (10 : Int32) o_me o_me_isles o_me_isles_now o_me_past)
  else
  (if p0 = (2 : Int32) then
  (bk_X8_terms_31   p0 p1 (9 : Int32) o_me o_me_isles o_me_isles_now o_me_past)
  else
  (bk_X8_terms_31   p0 p1 (-1 : Int32) o_me o_me_isles o_me_isles_now o_me_past)))
set_option maxHeartbeats 4000000 in
set_option maxRecDepth 100000 in
theorem m_X8_terms (l : Launch) (dC : Nat → ClassId) (dI : Nat → Nat → Nat) (sz : Nat) (h_me : Nat) (h_me_reader : Nat) (h_me_machine : Nat) (h_me_isles : Nat) (h_me_court : Nat) (h_me_study : Nat) (h_me_paper : Nat) (h_me_paperCourt : Nat) (h_me_past : Nat) (h_me_pastAhead : Nat) (h_me_movingAhead : Nat) (h_me_isles_now : Nat) (q_me : Nat → Nat) (k_me : Nat → ClassId) (q_me_isles : Nat → Nat) (k_me_isles : Nat → ClassId) (q_me_isles_now : Nat → Nat) (k_me_isles_now : Nat → ClassId) (q_me_past : Nat → Nat) (k_me_past : Nat → ClassId) (o_me : Ob) (o_me_isles : Ob) (o_me_isles_now : Ob) (o_me_past : Ob) (p0 : Int32) (p1 : Int32) (y : Int32 × Ob × Ob × Ob × Ob) (h : f_X8_terms o_me o_me_isles o_me_isles_now o_me_past p0 p1 = some y) : CI l yX8_terms cX8_terms 5 (some .int) ({ frames := 1, cells := 0, slots := 0, locals := 22 } : Room) dC dI sz [.ref h_me, .int p0, .int p1] [wX8 h_me h_me_reader h_me_machine h_me_isles h_me_court h_me_study h_me_paper h_me_paperCourt h_me_past h_me_pastAhead h_me_movingAhead q_me k_me o_me, wX2 h_me_isles h_me_isles_now q_me_isles k_me_isles o_me_isles, wX4 h_me_isles_now q_me_isles_now k_me_isles_now o_me_isles_now, wX5 h_me_past q_me_past k_me_past o_me_past] [tX8 k_me, tX2 k_me_isles, tX4 k_me_isles_now, tX5 k_me_past] y.1 [wX8 h_me h_me_reader h_me_machine h_me_isles h_me_court h_me_study h_me_paper h_me_paperCourt h_me_past h_me_pastAhead h_me_movingAhead q_me k_me y.2.1, wX2 h_me_isles h_me_isles_now q_me_isles k_me_isles y.2.2.1, wX4 h_me_isles_now q_me_isles_now k_me_isles_now y.2.2.2.1, wX5 h_me_past q_me_past k_me_past y.2.2.2.2] := by
  refine CC_of (by decide) (Nat.le_of_ble_eq_true rfl) ?_
  intro p e s m below meth c A ls hx hb hml hr hlk hnm hown hts hX hK hP hD hA hl
  have hl : lv_has ls 5 [(0, .ref h_me), (1, .int p0), (2, .int p1)] := hl
  have hown : s.vm.findClass RX8 = some m.cls := hown
  have hw : Wd dC dI A s.heap [wX8 h_me h_me_reader h_me_machine h_me_isles h_me_court h_me_study h_me_paper h_me_paperCourt h_me_past h_me_pastAhead h_me_movingAhead q_me k_me o_me, wX2 h_me_isles h_me_isles_now q_me_isles k_me_isles o_me_isles, wX4 h_me_isles_now q_me_isles_now k_me_isles_now o_me_isles_now, wX5 h_me_past q_me_past k_me_past o_me_past] s.heap [] := ⟨hP, hD, va_S.rf⟩
  generalize hQz : (MQ below (QI dC dI (fun r (_ : Unit) => r = y.1) (fun _ => Jn [wX8 h_me h_me_reader h_me_machine h_me_isles h_me_court h_me_study h_me_paper h_me_paperCourt h_me_past h_me_pastAhead h_me_movingAhead q_me k_me y.2.1, wX2 h_me_isles h_me_isles_now q_me_isles k_me_isles y.2.2.1, wX4 h_me_isles_now q_me_isles_now k_me_isles_now y.2.2.2.1, wX5 h_me_past q_me_past k_me_past y.2.2.2.2]) (fun _ => Jt [tX8 k_me, tX2 k_me_isles, tX4 k_me_isles_now, tX5 k_me_past]) A) ([.ref h_me, .int p0, .int p1] : List Value).toArray s 0 0 A) = Qz
  clear hP hD hnm
  have bk_41_1 : ∀ (o_me : Ob) (o_me_isles : Ob) (o_me_isles_now : Ob) (o_me_past : Ob) (H : Heap) (locs : List Loc) (ls : Array Slot), bk_X8_terms_41   o_me o_me_isles o_me_isles_now o_me_past = some y → Wd dC dI A s.heap [wX8 h_me h_me_reader h_me_machine h_me_isles h_me_court h_me_study h_me_paper h_me_paperCourt h_me_past h_me_pastAhead h_me_movingAhead q_me k_me o_me, wX2 h_me_isles h_me_isles_now q_me_isles k_me_isles o_me_isles, wX4 h_me_isles_now q_me_isles_now k_me_isles_now o_me_isles_now, wX5 h_me_past q_me_past k_me_past o_me_past] H locs → lv_has ls 5 [(0, .ref h_me)] → W p l e ({ frames := 1, cells := 0, slots := 0, locals := 22 } : Room) s m ([.ref h_me, .int p0, .int p1] : List Value).toArray below meth c H locs 0 0 Qz (F0 m 41 ls []) := by
    intro o_me o_me_isles o_me_isles_now o_me_past H locs ls h hw hl
    unfold bk_X8_terms_41 at h
    refine lv_aload_n hx hb dX8_terms_41 rfl (lv_at hl 0 rfl) ?_
    refine lv_iconst (v := (-1)) hx hb dX8_terms_42 (by decide) ?_
    obtain ⟨z1, ez1, h⟩ := z_bd h
    refine xj_i (xrV (As := [.int (-1 : Int32)]) (rest := []) ⟨hx, hb, hml, hown, hts⟩ (m_X8_refuse l dC dI _ h_me h_me_reader h_me_machine h_me_isles h_me_court h_me_study h_me_paper h_me_paperCourt h_me_past h_me_pastAhead h_me_movingAhead q_me k_me o_me (-1 : Int32) z1 ez1) kw508 kw505 kw507 kw0 kw110 hd_X8_refuse ⟨rfl, rfl⟩ rfl rfl ⟨rfl, rfl⟩ hX hK hw [0] (by decide) rfl rfl rfl rfl rfl hl.1 rfl rfl dX8_terms_43) hw hA [0] (by decide) rfl rfl (fun H locs hw => ?_)
    have hw : Wd dC dI A s.heap [wX8 h_me h_me_reader h_me_machine h_me_isles h_me_court h_me_study h_me_paper h_me_paperCourt h_me_past h_me_pastAhead h_me_movingAhead q_me k_me z1.2, wX2 h_me_isles h_me_isles_now q_me_isles k_me_isles o_me_isles, wX4 h_me_isles_now q_me_isles_now k_me_isles_now o_me_isles_now, wX5 h_me_past q_me_past k_me_past o_me_past] H locs := hw
    have hy := Option.some.inj h
    rw [← hQz, ← hy]
    exact xr_i (v := z1.1) hx hb hr rfl hlk hK hw dX8_terms_46
  have bk_31_0 : ∀ (v1 : Int32) (v2 : Int32) (s0 : Int32) (o_me : Ob) (o_me_isles : Ob) (o_me_isles_now : Ob) (o_me_past : Ob) (H : Heap) (locs : List Loc) (ls : Array Slot), bk_X8_terms_31   v1 v2 s0 o_me o_me_isles o_me_isles_now o_me_past = some y → Wd dC dI A s.heap [wX8 h_me h_me_reader h_me_machine h_me_isles h_me_court h_me_study h_me_paper h_me_paperCourt h_me_past h_me_pastAhead h_me_movingAhead q_me k_me o_me, wX2 h_me_isles h_me_isles_now q_me_isles k_me_isles o_me_isles, wX4 h_me_isles_now q_me_isles_now k_me_isles_now o_me_isles_now, wX5 h_me_past q_me_past k_me_past o_me_past] H locs → lv_has ls 5 [(0, .ref h_me), (1, .int v1), (2, .int v2)] → W p l e ({ frames := 1, cells := 0, slots := 0, locals := 22 } : Room) s m ([.ref h_me, .int p0, .int p1] : List Value).toArray below meth c H locs 0 0 Qz (F0 m 31 ls [.int s0]) := by
    intro v1 v2 s0 o_me o_me_isles o_me_isles_now o_me_past H locs ls h hw hl
    unfold bk_X8_terms_31 at h
    refine lv_istore_n (lv' := [(3, .int s0), (0, .ref h_me), (1, .int v1), (2, .int v2)]) hx hb dX8_terms_31 rfl hl (by decide) rfl (fun ls hl => ?_)
    refine lv_iload_n hx hb dX8_terms_32 rfl (lv_at hl 3 rfl) ?_
    refine lv_if_lt (tgt := 41) hx hb dX8_terms_33 (by decide) (fun c => ?_) (fun c => ?_)
    · have h := z_t h c
      exact bk_41_1  o_me o_me_isles o_me_isles_now o_me_past _ _ _ h hw (lv_sub hl [1] rfl)
    · have h := z_f h c
      refine lv_iload_n hx hb dX8_terms_36 rfl (lv_at hl 3 rfl) ?_
      refine lv_iload_n hx hb dX8_terms_37 rfl (lv_at hl 0 rfl) ?_
      refine lv_icmp_le (tgt := 47) hx hb dX8_terms_38 (by decide) (fun c => ?_) (fun c => ?_)
      · have h := z_t h c
        refine lv_aload_n hx hb dX8_terms_47 rfl (lv_at hl 1 rfl) ?_
        refine fgX8_2 hx hb hts hown hK hw 0 rfl kw444 dX8_terms_48 ?_
        refine lv_iload_n hx hb dX8_terms_51 rfl (lv_at hl 2 rfl) ?_
        obtain ⟨z2, ez2, h⟩ := z_bd h
        refine xj_i (xrV (As := [.int v1]) (rest := []) ⟨hx, hb, hml, hown, hts⟩ (m_X2_term l dC dI _ h_me_isles h_me_isles_now q_me_isles k_me_isles q_me_isles_now k_me_isles_now o_me_isles o_me_isles_now v1 z2 ez2) kw623 kw620 kw621 kw622 kw115 hd_X2_term ⟨rfl, rfl⟩ rfl rfl ⟨rfl, rfl⟩ hX hK hw [1, 2] (by decide) rfl rfl rfl rfl rfl hl.1 rfl rfl dX8_terms_52) hw hA [1, 2] (by decide) rfl rfl (fun H locs hw => ?_)
        have hw : Wd dC dI A s.heap [wX8 h_me h_me_reader h_me_machine h_me_isles h_me_court h_me_study h_me_paper h_me_paperCourt h_me_past h_me_pastAhead h_me_movingAhead q_me k_me o_me, wX2 h_me_isles h_me_isles_now q_me_isles k_me_isles o_me_isles, wX4 h_me_isles_now q_me_isles_now k_me_isles_now o_me_isles_now, wX5 h_me_past q_me_past k_me_past o_me_past] H locs := hw
        refine lv_istore (lv' := [(4, .int z2), (3, .int s0), (0, .ref h_me), (1, .int v1), (2, .int v2)]) hx hb dX8_terms_55 hl (by decide) rfl (fun ls hl => ?_)
        refine lv_aload_n hx hb dX8_terms_57 rfl (lv_at hl 2 rfl) ?_
        refine fgX8_2 hx hb hts hown hK hw 0 rfl kw444 dX8_terms_58 ?_
        refine lv_iload_n hx hb dX8_terms_61 rfl (lv_at hl 3 rfl) ?_
        refine lv_iload_n hx hb dX8_terms_62 rfl (lv_at hl 4 rfl) ?_
        obtain ⟨z3, ez3, h⟩ := z_bd h
        refine xj_v (xrV (As := [.int v1, .int v2]) (rest := []) ⟨hx, hb, hml, hown, hts⟩ (m_X2_setTerm l dC dI _ h_me_isles h_me_isles_now q_me_isles k_me_isles q_me_isles_now k_me_isles_now o_me_isles o_me_isles_now v1 v2 z3 ez3) kw627 kw624 kw625 kw626 kw115 hd_X2_setTerm ⟨rfl, rfl⟩ rfl rfl ⟨rfl, rfl⟩ hX hK hw [1, 2] (by decide) rfl rfl rfl rfl rfl hl.1 rfl rfl dX8_terms_63) hw hA [1, 2] (by decide) rfl rfl (fun H locs hw => ?_)
        have hw : Wd dC dI A s.heap [wX8 h_me h_me_reader h_me_machine h_me_isles h_me_court h_me_study h_me_paper h_me_paperCourt h_me_past h_me_pastAhead h_me_movingAhead q_me k_me o_me, wX2 h_me_isles h_me_isles_now q_me_isles k_me_isles z3.1, wX4 h_me_isles_now q_me_isles_now k_me_isles_now z3.2, wX5 h_me_past q_me_past k_me_past o_me_past] H locs := hw
        refine lv_aload_n hx hb dX8_terms_66 rfl (lv_at hl 2 rfl) ?_
        refine fgX8_8 hx hb hts hown hK hw 0 rfl kw450 dX8_terms_67 ?_
        obtain ⟨z4, ez4, h⟩ := z_bd h
        refine xj_v (xrV (As := []) (rest := []) ⟨hx, hb, hml, hown, hts⟩ (m_X5_clear l dC dI _ h_me_past q_me_past k_me_past o_me_past z4 ez4) kw512 kw509 kw510 kw511 kw119 hd_X5_clear ⟨rfl, rfl⟩ rfl rfl ⟨rfl, rfl⟩ hX hK hw [3] (by decide) rfl rfl rfl rfl rfl hl.1 rfl rfl dX8_terms_70) hw hA [3] (by decide) rfl rfl (fun H locs hw => ?_)
        have hw : Wd dC dI A s.heap [wX8 h_me h_me_reader h_me_machine h_me_isles h_me_court h_me_study h_me_paper h_me_paperCourt h_me_past h_me_pastAhead h_me_movingAhead q_me k_me o_me, wX2 h_me_isles h_me_isles_now q_me_isles k_me_isles z3.1, wX4 h_me_isles_now q_me_isles_now k_me_isles_now z3.2, wX5 h_me_past q_me_past k_me_past z4] H locs := hw
        refine lv_aload_n hx hb dX8_terms_73 rfl (lv_at hl 2 rfl) ?_
        refine lv_iload hx hb dX8_terms_74 (lv_at hl 0 rfl) ?_
        obtain ⟨z5, ez5, h⟩ := z_bd h
        refine xj_i (xrV (As := [.int z2]) (rest := []) ⟨hx, hb, hml, hown, hts⟩ (m_X8_grant l dC dI _ h_me h_me_reader h_me_machine h_me_isles h_me_court h_me_study h_me_paper h_me_paperCourt h_me_past h_me_pastAhead h_me_movingAhead q_me k_me o_me z2 z5 ez5) kw520 kw517 kw519 kw1 kw110 hd_X8_grant ⟨rfl, rfl⟩ rfl rfl ⟨rfl, rfl⟩ hX hK hw [0] (by decide) rfl rfl rfl rfl rfl hl.1 rfl rfl dX8_terms_76) hw hA [0] (by decide) rfl rfl (fun H locs hw => ?_)
        have hw : Wd dC dI A s.heap [wX8 h_me h_me_reader h_me_machine h_me_isles h_me_court h_me_study h_me_paper h_me_paperCourt h_me_past h_me_pastAhead h_me_movingAhead q_me k_me z5.2, wX2 h_me_isles h_me_isles_now q_me_isles k_me_isles z3.1, wX4 h_me_isles_now q_me_isles_now k_me_isles_now z3.2, wX5 h_me_past q_me_past k_me_past z4] H locs := hw
        have hy := Option.some.inj h
        rw [← hQz, ← hy]
        exact xr_i (v := z5.1) hx hb hr rfl hlk hK hw dX8_terms_79
      · have h := z_f h c
        exact bk_41_1  o_me o_me_isles o_me_isles_now o_me_past _ _ _ h hw (lv_sub hl [1] rfl)
  unfold f_X8_terms at h
  refine lv_iload_n hx hb dX8_terms_0 rfl (lv_at hl 1 rfl) ?_
  refine lv_if_ne (tgt := 10) hx hb dX8_terms_1 (by decide) (fun c => ?_) (fun c => ?_)
  · have h := z_f h c
    refine lv_iload_n hx hb dX8_terms_10 rfl (lv_at hl 1 rfl) ?_
    refine lv_iconst (v := 1) hx hb dX8_terms_11 (by decide) ?_
    refine lv_icmp_ne (tgt := 20) hx hb dX8_terms_12 (by decide) (fun c => ?_) (fun c => ?_)
    · have h := z_f h c
      refine lv_iload_n hx hb dX8_terms_20 rfl (lv_at hl 1 rfl) ?_
      refine lv_iconst (v := 2) hx hb dX8_terms_21 (by decide) ?_
      refine lv_icmp_ne (tgt := 30) hx hb dX8_terms_22 (by decide) (fun c => ?_) (fun c => ?_)
      · have h := z_f h c
        refine lv_iconst (v := (-1)) hx hb dX8_terms_30 (by decide) ?_
        exact bk_31_0  p0 p1 (-1 : Int32) o_me o_me_isles o_me_isles_now o_me_past _ _ _ h hw (lv_sub hl [0, 1, 2] rfl)
      · have h := z_t h c
        refine lv_bipush (v := 9) hx hb dX8_terms_25 (by decide) ?_
        refine lv_goto (tgt := 31) hx hb dX8_terms_27 (by decide) ?_
        exact bk_31_0  p0 p1 (9 : Int32) o_me o_me_isles o_me_isles_now o_me_past _ _ _ h hw (lv_sub hl [0, 1, 2] rfl)
    · have h := z_t h c
      refine lv_bipush (v := 10) hx hb dX8_terms_15 (by decide) ?_
      refine lv_goto (tgt := 31) hx hb dX8_terms_17 (by decide) ?_
      exact bk_31_0  p0 p1 (10 : Int32) o_me o_me_isles o_me_isles_now o_me_past _ _ _ h hw (lv_sub hl [0, 1, 2] rfl)
  · have h := z_t h c
    refine lv_sipush (v := 999) hx hb dX8_terms_4 (by decide) ?_
    refine lv_goto (tgt := 31) hx hb dX8_terms_7 (by decide) ?_
    exact bk_31_0  p0 p1 (999 : Int32) o_me o_me_isles o_me_isles_now o_me_past _ _ _ h hw (lv_sub hl [0, 1, 2] rfl)

def f_X4_readFrom_AX5_1 (o_me : Ob) (o_a0 : Ob) (p1 : Int32) : Option (Ob) :=
  if p1 < (0 : Int32) then
  (some o_me)
  else
  (if p1 ≤ (255 : Int32) then
  (zgd (zcp p1 (0 : Int32) (7 : Int32) 272 7) <|
  zlt (cA o_me 0 (gA o_a0 1) p1 (0 : Int32) (7 : Int32)) fun o2 =>
  zgd (zcp (p1 + (7 : Int32)) (0 : Int32) (7 : Int32) 272 7) <|
  zlt (cA o2 1 (gA o_a0 1) (p1 + (7 : Int32)) (0 : Int32) (7 : Int32)) fun o4 =>
  zgd (zin ((p1 + (17 : Int32)) - (3 : Int32)) 272) <|
  zlt (sI o4 2 (gA o_a0 1 ((p1 + (17 : Int32)) - (3 : Int32)).toNatClampNeg)) fun o6 =>
  zgd (zin ((p1 + (17 : Int32)) - (2 : Int32)) 272) <|
  zlt (sI o6 3 (gA o_a0 1 ((p1 + (17 : Int32)) - (2 : Int32)).toNatClampNeg)) fun o8 =>
  zgd (zin ((p1 + (17 : Int32)) - (1 : Int32)) 272) <|
  zlt (sI o8 4 (gA o_a0 1 ((p1 + (17 : Int32)) - (1 : Int32)).toNatClampNeg)) fun o10 =>
  some o10)
  else
  (some o_me))
set_option maxHeartbeats 4000000 in
set_option maxRecDepth 100000 in
theorem m_X4_readFrom_AX5_1 (l : Launch) (dC : Nat → ClassId) (dI : Nat → Nat → Nat) (sz : Nat) (h_me : Nat) (h_a0 : Nat) (q_me : Nat → Nat) (k_me : Nat → ClassId) (q_a0 : Nat → Nat) (k_a0 : Nat → ClassId) (o_me : Ob) (o_a0 : Ob) (p1 : Int32) (y : Ob) (h : f_X4_readFrom_AX5_1 o_me o_a0 p1 = some y) : CV l yX4_readFrom cX4_readFrom 3 none ({ frames := 1, cells := 0, slots := 0, locals := 60 } : Room) dC dI sz [.ref h_me, .ref (q_a0 1), .int p1] [wX4 h_me q_me k_me o_me, wX5 h_a0 q_a0 k_a0 o_a0] [tX4 k_me, tX5 k_a0] [wX4 h_me q_me k_me y, wX5 h_a0 q_a0 k_a0 o_a0] := by
  refine CC_of (by decide) (Nat.le_of_ble_eq_true rfl) ?_
  intro p e s m below meth c A ls hx hb hml hr hlk hnm hown hts hX hK hP hD hA hl
  have hl : lv_has ls 3 [(0, .ref h_me), (1, .ref (q_a0 1)), (2, .int p1)] := hl
  have hown : s.vm.findClass RX4 = some m.cls := hown
  have hw : Wd dC dI A s.heap [wX4 h_me q_me k_me o_me, wX5 h_a0 q_a0 k_a0 o_a0] s.heap [] := ⟨hP, hD, va_S.rf⟩
  generalize hQz : (MQ below (QV dC dI (fun (_ : Unit) => True) (fun _ => Jn [wX4 h_me q_me k_me y, wX5 h_a0 q_a0 k_a0 o_a0]) (fun _ => Jt [tX4 k_me, tX5 k_a0]) A) ([.ref h_me, .ref (q_a0 1), .int p1] : List Value).toArray s 0 0 A) = Qz
  clear hP hD hnm
  unfold f_X4_readFrom_AX5_1 at h
  refine lv_iload_n hx hb dX4_readFrom_0 rfl (lv_at hl 2 rfl) ?_
  refine lv_if_lt (tgt := 13) hx hb dX4_readFrom_1 (by decide) (fun c => ?_) (fun c => ?_)
  · have h := z_t h c
    have hy := Option.some.inj h
    rw [← hQz, ← hy]
    exact xr_v hx hb hr hlk hK hw dX4_readFrom_13
  · have h := z_f h c
    refine lv_iload_n hx hb dX4_readFrom_4 rfl (lv_at hl 2 rfl) ?_
    refine lv_aload_n hx hb dX4_readFrom_5 rfl (lv_at hl 1 rfl) ?_
    refine fnX5_1 hx hb hK hw 1 rfl rfl dX4_readFrom_6 ?_
    refine lv_fi (v := 272) (by decide) ?_
    refine lv_bipush (v := 17) hx hb dX4_readFrom_7 (by decide) ?_
    refine lv_isub hx hb dX4_readFrom_9 ?_
    refine lv_fi (v := 255) (by decide) ?_
    refine lv_icmp_le (tgt := 14) hx hb dX4_readFrom_10 (by decide) (fun c => ?_) (fun c => ?_)
    · have h := z_t h c
      refine lv_aload_n hx hb dX4_readFrom_14 rfl (lv_at hl 1 rfl) ?_
      refine lv_iload_n hx hb dX4_readFrom_15 rfl (lv_at hl 2 rfl) ?_
      refine lv_aload_n hx hb dX4_readFrom_16 rfl (lv_at hl 0 rfl) ?_
      refine fgX4_0 hx hb hts hown hK hw 0 rfl kw261 dX4_readFrom_17 ?_
      refine lv_iconst (v := 0) hx hb dX4_readFrom_20 (by decide) ?_
      refine lv_bipush (v := 7) hx hb dX4_readFrom_21 (by decide) ?_
      obtain ⟨g1, h⟩ := z_gd h
      refine xcopy (n0 := 1) (j0 := 2) (u0 := 1) (n1 := 0) (j1 := 1) (u1 := 0) hx hb (hml.trans hl.1.symm) hown hts kw826 kw812 kw811 kw125 hK hw rfl rfl rfl rfl rfl rfl rfl rfl g1 (Nat.le_of_ble_eq_true rfl) (Nat.le_of_ble_eq_true rfl) dX4_readFrom_23 (fun H locs hw => ?_)
      obtain ⟨o2, eo2, h⟩ := z_lt h
      have hw : Wd dC dI A s.heap [wX4 h_me q_me k_me o2, wX5 h_a0 q_a0 k_a0 o_a0] H locs := by rw [eo2]; exact hw
      refine lv_aload_n hx hb dX4_readFrom_26 rfl (lv_at hl 1 rfl) ?_
      refine lv_iload_n hx hb dX4_readFrom_27 rfl (lv_at hl 2 rfl) ?_
      refine lv_bipush (v := 7) hx hb dX4_readFrom_28 (by decide) ?_
      refine lv_iadd hx hb dX4_readFrom_30 ?_
      refine lv_aload_n hx hb dX4_readFrom_31 rfl (lv_at hl 0 rfl) ?_
      refine fgX4_1 hx hb hts hown hK hw 0 rfl kw265 dX4_readFrom_32 ?_
      refine lv_iconst (v := 0) hx hb dX4_readFrom_35 (by decide) ?_
      refine lv_bipush (v := 7) hx hb dX4_readFrom_36 (by decide) ?_
      obtain ⟨g3, h⟩ := z_gd h
      refine xcopy (n0 := 1) (j0 := 2) (u0 := 1) (n1 := 0) (j1 := 2) (u1 := 1) hx hb (hml.trans hl.1.symm) hown hts kw826 kw812 kw811 kw125 hK hw rfl rfl rfl rfl rfl rfl rfl rfl g3 (Nat.le_of_ble_eq_true rfl) (Nat.le_of_ble_eq_true rfl) dX4_readFrom_38 (fun H locs hw => ?_)
      obtain ⟨o4, eo4, h⟩ := z_lt h
      have hw : Wd dC dI A s.heap [wX4 h_me q_me k_me o4, wX5 h_a0 q_a0 k_a0 o_a0] H locs := by rw [eo4]; exact hw
      refine lv_aload_n hx hb dX4_readFrom_41 rfl (lv_at hl 0 rfl) ?_
      refine lv_aload_n hx hb dX4_readFrom_42 rfl (lv_at hl 1 rfl) ?_
      refine lv_iload_n hx hb dX4_readFrom_43 rfl (lv_at hl 2 rfl) ?_
      refine lv_bipush (v := 17) hx hb dX4_readFrom_44 (by decide) ?_
      refine lv_iadd hx hb dX4_readFrom_46 ?_
      refine lv_iconst (v := 3) hx hb dX4_readFrom_47 (by decide) ?_
      refine lv_isub hx hb dX4_readFrom_48 ?_
      obtain ⟨g5, h⟩ := z_gd h
      refine faX5_1 hx hb hK hw 1 rfl rfl g5 dX4_readFrom_49 ?_
      refine fpX4_2 hx hb hts hown hK hw 0 rfl kw268 dX4_readFrom_50 (fun H locs hw => ?_)
      obtain ⟨o6, eo6, h⟩ := z_lt h
      have hw : Wd dC dI A s.heap [wX4 h_me q_me k_me o6, wX5 h_a0 q_a0 k_a0 o_a0] H locs := by rw [eo6]; exact hw
      refine lv_aload_n hx hb dX4_readFrom_53 rfl (lv_at hl 0 rfl) ?_
      refine lv_aload_n hx hb dX4_readFrom_54 rfl (lv_at hl 1 rfl) ?_
      refine lv_iload_n hx hb dX4_readFrom_55 rfl (lv_at hl 2 rfl) ?_
      refine lv_bipush (v := 17) hx hb dX4_readFrom_56 (by decide) ?_
      refine lv_iadd hx hb dX4_readFrom_58 ?_
      refine lv_iconst (v := 2) hx hb dX4_readFrom_59 (by decide) ?_
      refine lv_isub hx hb dX4_readFrom_60 ?_
      obtain ⟨g7, h⟩ := z_gd h
      refine faX5_1 hx hb hK hw 1 rfl rfl g7 dX4_readFrom_61 ?_
      refine fpX4_3 hx hb hts hown hK hw 0 rfl kw273 dX4_readFrom_62 (fun H locs hw => ?_)
      obtain ⟨o8, eo8, h⟩ := z_lt h
      have hw : Wd dC dI A s.heap [wX4 h_me q_me k_me o8, wX5 h_a0 q_a0 k_a0 o_a0] H locs := by rw [eo8]; exact hw
      refine lv_aload_n hx hb dX4_readFrom_65 rfl (lv_at hl 0 rfl) ?_
      refine lv_aload_n hx hb dX4_readFrom_66 rfl (lv_at hl 1 rfl) ?_
      refine lv_iload_n hx hb dX4_readFrom_67 rfl (lv_at hl 2 rfl) ?_
      refine lv_bipush (v := 17) hx hb dX4_readFrom_68 (by decide) ?_
      refine lv_iadd hx hb dX4_readFrom_70 ?_
      refine lv_iconst (v := 1) hx hb dX4_readFrom_71 (by decide) ?_
      refine lv_isub hx hb dX4_readFrom_72 ?_
      obtain ⟨g9, h⟩ := z_gd h
      refine faX5_1 hx hb hK hw 1 rfl rfl g9 dX4_readFrom_73 ?_
      refine fpX4_4 hx hb hts hown hK hw 0 rfl kw277 dX4_readFrom_74 (fun H locs hw => ?_)
      obtain ⟨o10, eo10, h⟩ := z_lt h
      have hw : Wd dC dI A s.heap [wX4 h_me q_me k_me o10, wX5 h_a0 q_a0 k_a0 o_a0] H locs := by rw [eo10]; exact hw
      have hy := Option.some.inj h
      rw [← hQz, ← hy]
      exact xr_v hx hb hr hlk hK hw dX4_readFrom_77
    · have h := z_f h c
      have hy := Option.some.inj h
      rw [← hQz, ← hy]
      exact xr_v hx hb hr hlk hK hw dX4_readFrom_13

def f_X5_bringBack_O (o_me : Ob) (o_a0 : Ob) : Option (Int32 × Ob × Ob) :=
  if (gI o_me 3) = (0 : Int32) then
  (some ((-1 : Int32), o_me, o_a0))
  else
  (zlt (sI o_me 3 ((gI o_me 3) - (1 : Int32))) fun o1 =>
  zlt (((gI o1 2) + (gI o1 3)) - ((gI o1 2) + (gI o1 3)) / (16 : Int32) * (16 : Int32)) fun x2 =>
  (f_X4_readFrom_AX5_1 o_a0 o1 (x2 * (17 : Int32))).bind fun z3 =>
  zgd (zin x2 16) <|
  some (gA o1 0 x2.toNatClampNeg, o1, z3))
set_option maxHeartbeats 4000000 in
set_option maxRecDepth 100000 in
theorem m_X5_bringBack_O (l : Launch) (dC : Nat → ClassId) (dI : Nat → Nat → Nat) (sz : Nat) (h_me : Nat) (h_a0 : Nat) (q_me : Nat → Nat) (k_me : Nat → ClassId) (q_a0 : Nat → Nat) (k_a0 : Nat → ClassId) (o_me : Ob) (o_a0 : Ob) (y : Int32 × Ob × Ob) (h : f_X5_bringBack_O o_me o_a0 = some y) : CI l yX5_bringBack cX5_bringBack 3 (some .int) ({ frames := 2, cells := 0, slots := 0, locals := 82 } : Room) dC dI sz [.ref h_me, .ref h_a0] [wX5 h_me q_me k_me o_me, wX4 h_a0 q_a0 k_a0 o_a0] [tX5 k_me, tX4 k_a0] y.1 [wX5 h_me q_me k_me y.2.1, wX4 h_a0 q_a0 k_a0 y.2.2] := by
  refine CC_of (by decide) (Nat.le_of_ble_eq_true rfl) ?_
  intro p e s m below meth c A ls hx hb hml hr hlk hnm hown hts hX hK hP hD hA hl
  have hl : lv_has ls 3 [(0, .ref h_me), (1, .ref h_a0)] := hl
  have hown : s.vm.findClass RX5 = some m.cls := hown
  have hw : Wd dC dI A s.heap [wX5 h_me q_me k_me o_me, wX4 h_a0 q_a0 k_a0 o_a0] s.heap [] := ⟨hP, hD, va_S.rf⟩
  generalize hQz : (MQ below (QI dC dI (fun r (_ : Unit) => r = y.1) (fun _ => Jn [wX5 h_me q_me k_me y.2.1, wX4 h_a0 q_a0 k_a0 y.2.2]) (fun _ => Jt [tX5 k_me, tX4 k_a0]) A) ([.ref h_me, .ref h_a0] : List Value).toArray s 0 0 A) = Qz
  clear hP hD hnm
  unfold f_X5_bringBack_O at h
  refine lv_aload_n hx hb dX5_bringBack_0 rfl (lv_at hl 0 rfl) ?_
  refine fgX5_3 hx hb hts hown hK hw 0 rfl kw429 dX5_bringBack_1 ?_
  refine lv_if_ne (tgt := 9) hx hb dX5_bringBack_4 (by decide) (fun c => ?_) (fun c => ?_)
  · have h := z_f h c
    refine lv_aload_n hx hb dX5_bringBack_9 rfl (lv_at hl 0 rfl) ?_
    refine lv_dup hx hb dX5_bringBack_10 rfl ?_
    refine fgX5_3 hx hb hts hown hK hw 0 rfl kw429 dX5_bringBack_11 ?_
    refine lv_iconst (v := 1) hx hb dX5_bringBack_14 (by decide) ?_
    refine lv_isub hx hb dX5_bringBack_15 ?_
    refine fpX5_3 hx hb hts hown hK hw 0 rfl kw429 dX5_bringBack_16 (fun H locs hw => ?_)
    obtain ⟨o1, eo1, h⟩ := z_lt h
    have hw : Wd dC dI A s.heap [wX5 h_me q_me k_me o1, wX4 h_a0 q_a0 k_a0 o_a0] H locs := by rw [eo1]; exact hw
    refine lv_aload_n hx hb dX5_bringBack_19 rfl (lv_at hl 0 rfl) ?_
    refine fgX5_2 hx hb hts hown hK hw 0 rfl kw428 dX5_bringBack_20 ?_
    refine lv_aload_n hx hb dX5_bringBack_23 rfl (lv_at hl 0 rfl) ?_
    refine fgX5_3 hx hb hts hown hK hw 0 rfl kw429 dX5_bringBack_24 ?_
    refine lv_iadd hx hb dX5_bringBack_27 ?_
    refine lv_bipush (v := 16) hx hb dX5_bringBack_28 (by decide) ?_
    refine lv_irem hx hb dX5_bringBack_30 (by decide) ?_
    obtain ⟨x2, ex2, h⟩ := z_lt h
    refine lv_fi (v := x2) ex2.symm ?_
    refine lv_istore_n (lv' := [(2, .int x2), (0, .ref h_me), (1, .ref h_a0)]) hx hb dX5_bringBack_31 rfl hl (by decide) rfl (fun ls hl => ?_)
    refine lv_aload_n hx hb dX5_bringBack_32 rfl (lv_at hl 2 rfl) ?_
    refine lv_aload_n hx hb dX5_bringBack_33 rfl (lv_at hl 1 rfl) ?_
    refine fgX5_1 hx hb hts hown hK hw 0 rfl kw427 dX5_bringBack_34 ?_
    refine lv_iload_n hx hb dX5_bringBack_37 rfl (lv_at hl 0 rfl) ?_
    refine lv_bipush (v := 17) hx hb dX5_bringBack_38 (by decide) ?_
    refine lv_imul hx hb dX5_bringBack_40 ?_
    obtain ⟨z3, ez3, h⟩ := z_bd h
    refine xj_v (xrV (As := [.ref (q_me 1), .int (x2 * (17 : Int32))]) (rest := []) ⟨hx, hb, hml, hown, hts⟩ (m_X4_readFrom_AX5_1 l dC dI _ h_a0 h_me q_a0 k_a0 q_me k_me o_a0 o1 (x2 * (17 : Int32)) z3 ez3) kw942 kw939 kw940 kw941 kw116 hd_X4_readFrom ⟨rfl, rfl⟩ rfl rfl ⟨rfl, rfl⟩ hX hK hw [1, 0] (by decide) rfl rfl rfl rfl rfl hl.1 rfl rfl dX5_bringBack_41) hw hA [1, 0] (by decide) rfl rfl (fun H locs hw => ?_)
    have hw : Wd dC dI A s.heap [wX5 h_me q_me k_me o1, wX4 h_a0 q_a0 k_a0 z3] H locs := hw
    refine lv_aload_n hx hb dX5_bringBack_44 rfl (lv_at hl 1 rfl) ?_
    refine fgX5_0 hx hb hts hown hK hw 0 rfl kw426 dX5_bringBack_45 ?_
    refine lv_iload_n hx hb dX5_bringBack_48 rfl (lv_at hl 0 rfl) ?_
    obtain ⟨g4, h⟩ := z_gd h
    refine faX5_0 hx hb hK hw 0 rfl rfl g4 dX5_bringBack_49 ?_
    have hy := Option.some.inj h
    rw [← hQz, ← hy]
    exact xr_i (v := gA o1 0 x2.toNatClampNeg) hx hb hr rfl hlk hK hw dX5_bringBack_50
  · have h := z_t h c
    refine lv_iconst (v := (-1)) hx hb dX5_bringBack_7 (by decide) ?_
    have hy := Option.some.inj h
    rw [← hQz, ← hy]
    exact xr_i (v := (-1 : Int32)) hx hb hr rfl hlk hK hw dX5_bringBack_8

def f_X8_undo (o_me : Ob) (o_me_isles : Ob) (o_me_isles_now : Ob) (o_me_past : Ob) : Option (Int32 × Ob × Ob × Ob) :=
  if (gI o_me_past 3) = (0 : Int32) then
  ((f_X8_refuse o_me (-3 : Int32)).bind fun z3 =>
  some (z3.1, z3.2, o_me_isles_now, o_me_past))
  else
  ((f_X5_bringBack_O o_me_past o_me_isles_now).bind fun z1 =>
  (f_X8_grant o_me z1.1).bind fun z2 =>
  some (z2.1, z2.2, z1.2.2, z1.2.1))
set_option maxHeartbeats 4000000 in
set_option maxRecDepth 100000 in
theorem m_X8_undo (l : Launch) (dC : Nat → ClassId) (dI : Nat → Nat → Nat) (sz : Nat) (h_me : Nat) (h_me_reader : Nat) (h_me_machine : Nat) (h_me_isles : Nat) (h_me_court : Nat) (h_me_study : Nat) (h_me_paper : Nat) (h_me_paperCourt : Nat) (h_me_past : Nat) (h_me_pastAhead : Nat) (h_me_movingAhead : Nat) (h_me_isles_now : Nat) (q_me : Nat → Nat) (k_me : Nat → ClassId) (q_me_isles : Nat → Nat) (k_me_isles : Nat → ClassId) (q_me_isles_now : Nat → Nat) (k_me_isles_now : Nat → ClassId) (q_me_past : Nat → Nat) (k_me_past : Nat → ClassId) (o_me : Ob) (o_me_isles : Ob) (o_me_isles_now : Ob) (o_me_past : Ob) (y : Int32 × Ob × Ob × Ob) (h : f_X8_undo o_me o_me_isles o_me_isles_now o_me_past = some y) : CI l yX8_undo cX8_undo 1 (some .int) ({ frames := 3, cells := 0, slots := 0, locals := 104 } : Room) dC dI sz [.ref h_me] [wX8 h_me h_me_reader h_me_machine h_me_isles h_me_court h_me_study h_me_paper h_me_paperCourt h_me_past h_me_pastAhead h_me_movingAhead q_me k_me o_me, wX2 h_me_isles h_me_isles_now q_me_isles k_me_isles o_me_isles, wX4 h_me_isles_now q_me_isles_now k_me_isles_now o_me_isles_now, wX5 h_me_past q_me_past k_me_past o_me_past] [tX8 k_me, tX2 k_me_isles, tX4 k_me_isles_now, tX5 k_me_past] y.1 [wX8 h_me h_me_reader h_me_machine h_me_isles h_me_court h_me_study h_me_paper h_me_paperCourt h_me_past h_me_pastAhead h_me_movingAhead q_me k_me y.2.1, wX2 h_me_isles h_me_isles_now q_me_isles k_me_isles o_me_isles, wX4 h_me_isles_now q_me_isles_now k_me_isles_now y.2.2.1, wX5 h_me_past q_me_past k_me_past y.2.2.2] := by
  refine CC_of (by decide) (Nat.le_of_ble_eq_true rfl) ?_
  intro p e s m below meth c A ls hx hb hml hr hlk hnm hown hts hX hK hP hD hA hl
  have hl : lv_has ls 1 [(0, .ref h_me)] := hl
  have hown : s.vm.findClass RX8 = some m.cls := hown
  have hw : Wd dC dI A s.heap [wX8 h_me h_me_reader h_me_machine h_me_isles h_me_court h_me_study h_me_paper h_me_paperCourt h_me_past h_me_pastAhead h_me_movingAhead q_me k_me o_me, wX2 h_me_isles h_me_isles_now q_me_isles k_me_isles o_me_isles, wX4 h_me_isles_now q_me_isles_now k_me_isles_now o_me_isles_now, wX5 h_me_past q_me_past k_me_past o_me_past] s.heap [] := ⟨hP, hD, va_S.rf⟩
  generalize hQz : (MQ below (QI dC dI (fun r (_ : Unit) => r = y.1) (fun _ => Jn [wX8 h_me h_me_reader h_me_machine h_me_isles h_me_court h_me_study h_me_paper h_me_paperCourt h_me_past h_me_pastAhead h_me_movingAhead q_me k_me y.2.1, wX2 h_me_isles h_me_isles_now q_me_isles k_me_isles o_me_isles, wX4 h_me_isles_now q_me_isles_now k_me_isles_now y.2.2.1, wX5 h_me_past q_me_past k_me_past y.2.2.2]) (fun _ => Jt [tX8 k_me, tX2 k_me_isles, tX4 k_me_isles_now, tX5 k_me_past]) A) ([.ref h_me] : List Value).toArray s 0 0 A) = Qz
  clear hP hD hnm
  unfold f_X8_undo at h
  refine lv_aload_n hx hb dX8_undo_0 rfl (lv_at hl 0 rfl) ?_
  refine fgX8_8 hx hb hts hown hK hw 0 rfl kw450 dX8_undo_1 ?_
  refine fgX5_3 hx hb hts hown hK hw 3 rfl kw430 dX8_undo_4 ?_
  refine lv_if_ne (tgt := 17) hx hb dX8_undo_7 (by decide) (fun c => ?_) (fun c => ?_)
  · have h := z_f h c
    refine lv_aload_n hx hb dX8_undo_17 rfl (lv_at hl 0 rfl) ?_
    refine lv_aload_n hx hb dX8_undo_18 rfl (lv_at hl 0 rfl) ?_
    refine fgX8_8 hx hb hts hown hK hw 0 rfl kw450 dX8_undo_19 ?_
    refine lv_aload_n hx hb dX8_undo_22 rfl (lv_at hl 0 rfl) ?_
    refine fgX8_2 hx hb hts hown hK hw 0 rfl kw444 dX8_undo_23 ?_
    refine fgX2_0 hx hb hts hown hK hw 1 rfl kw297 dX8_undo_26 ?_
    obtain ⟨z1, ez1, h⟩ := z_bd h
    refine xj_i (xrV (As := [.ref h_me_isles_now]) (rest := [.ref h_me]) ⟨hx, hb, hml, hown, hts⟩ (m_X5_bringBack_O l dC dI _ h_me_past h_me_isles_now q_me_past k_me_past q_me_isles_now k_me_isles_now o_me_past o_me_isles_now z1 ez1) kw938 kw935 kw936 kw937 kw119 hd_X5_bringBack ⟨rfl, rfl⟩ rfl rfl ⟨rfl, rfl⟩ hX hK hw [3, 2] (by decide) rfl rfl rfl rfl rfl hl.1 rfl rfl dX8_undo_29) hw hA [3, 2] (by decide) rfl rfl (fun H locs hw => ?_)
    have hw : Wd dC dI A s.heap [wX8 h_me h_me_reader h_me_machine h_me_isles h_me_court h_me_study h_me_paper h_me_paperCourt h_me_past h_me_pastAhead h_me_movingAhead q_me k_me o_me, wX2 h_me_isles h_me_isles_now q_me_isles k_me_isles o_me_isles, wX4 h_me_isles_now q_me_isles_now k_me_isles_now z1.2.2, wX5 h_me_past q_me_past k_me_past z1.2.1] H locs := hw
    obtain ⟨z2, ez2, h⟩ := z_bd h
    refine xj_i (xrV (As := [.int z1.1]) (rest := []) ⟨hx, hb, hml, hown, hts⟩ (m_X8_grant l dC dI _ h_me h_me_reader h_me_machine h_me_isles h_me_court h_me_study h_me_paper h_me_paperCourt h_me_past h_me_pastAhead h_me_movingAhead q_me k_me o_me z1.1 z2 ez2) kw520 kw517 kw519 kw1 kw110 hd_X8_grant ⟨rfl, rfl⟩ rfl rfl ⟨rfl, rfl⟩ hX hK hw [0] (by decide) rfl rfl rfl rfl rfl hl.1 rfl rfl dX8_undo_32) hw hA [0] (by decide) rfl rfl (fun H locs hw => ?_)
    have hw : Wd dC dI A s.heap [wX8 h_me h_me_reader h_me_machine h_me_isles h_me_court h_me_study h_me_paper h_me_paperCourt h_me_past h_me_pastAhead h_me_movingAhead q_me k_me z2.2, wX2 h_me_isles h_me_isles_now q_me_isles k_me_isles o_me_isles, wX4 h_me_isles_now q_me_isles_now k_me_isles_now z1.2.2, wX5 h_me_past q_me_past k_me_past z1.2.1] H locs := hw
    have hy := Option.some.inj h
    rw [← hQz, ← hy]
    exact xr_i (v := z2.1) hx hb hr rfl hlk hK hw dX8_undo_35
  · have h := z_t h c
    refine lv_aload_n hx hb dX8_undo_10 rfl (lv_at hl 0 rfl) ?_
    refine lv_bipush (v := (-3)) hx hb dX8_undo_11 (by decide) ?_
    obtain ⟨z3, ez3, h⟩ := z_bd h
    refine xj_i (xrV (As := [.int (-3 : Int32)]) (rest := []) ⟨hx, hb, hml, hown, hts⟩ (m_X8_refuse l dC dI _ h_me h_me_reader h_me_machine h_me_isles h_me_court h_me_study h_me_paper h_me_paperCourt h_me_past h_me_pastAhead h_me_movingAhead q_me k_me o_me (-3 : Int32) z3 ez3) kw508 kw505 kw507 kw0 kw110 hd_X8_refuse ⟨rfl, rfl⟩ rfl rfl ⟨rfl, rfl⟩ hX hK hw [0] (by decide) rfl rfl rfl rfl rfl hl.1 rfl rfl dX8_undo_13) hw hA [0] (by decide) rfl rfl (fun H locs hw => ?_)
    have hw : Wd dC dI A s.heap [wX8 h_me h_me_reader h_me_machine h_me_isles h_me_court h_me_study h_me_paper h_me_paperCourt h_me_past h_me_pastAhead h_me_movingAhead q_me k_me z3.2, wX2 h_me_isles h_me_isles_now q_me_isles k_me_isles o_me_isles, wX4 h_me_isles_now q_me_isles_now k_me_isles_now o_me_isles_now, wX5 h_me_past q_me_past k_me_past o_me_past] H locs := hw
    have hy := Option.some.inj h
    rw [← hQz, ← hy]
    exact xr_i (v := z3.1) hx hb hr rfl hlk hK hw dX8_undo_16

def f_X2_addLaw_Q (o_me : Ob) (o_pool : List CR) (p0 : Option Nat) : Option (Int32 × Ob) :=
  if (gI o_me 9) < (6 : Int32) then
  (zgd (zpo o_pool p0) <|
  zgd (zin (gI o_me 9) 6) <|
  zlt (tR o_me 6 (gI o_me 9).toNatClampNeg p0) fun o3 =>
  zlt (sI o3 9 ((gI o3 9) + (1 : Int32))) fun o4 =>
  some ((gI o4 9) - (1 : Int32), o4))
  else
  (some ((-1 : Int32), o_me))
set_option maxHeartbeats 4000000 in
set_option maxRecDepth 100000 in
theorem m_X2_addLaw_Q (l : Launch) (dC : Nat → ClassId) (dI : Nat → Nat → Nat) (sz : Nat) (h_me : Nat) (h_me_now : Nat) (q_me : Nat → Nat) (k_me : Nat → ClassId) (o_me : Ob) (o_pool : List CR) (p0 : Option Nat) (y : Int32 × Ob) (h : f_X2_addLaw_Q o_me o_pool p0 = some y) : CI l yX2_addLaw cX2_addLaw 2 (some .int) ({ frames := 0, cells := 0, slots := 0, locals := 0 } : Room) dC dI sz [.ref h_me, va_rf p0] [wX2 h_me h_me_now q_me k_me o_me, wPL o_pool] [tX2 k_me, tPL o_pool] y.1 [wX2 h_me h_me_now q_me k_me y.2, wPL o_pool] := by
  refine CC_of (by decide) (by cases p0 <;> exact Nat.le_of_ble_eq_true rfl) ?_
  intro p e s m below meth c A ls hx hb hml hr hlk hnm hown hts hX hK hP hD hA hl
  have hl : lv_has ls 2 [(0, .ref h_me), (1, va_rf p0)] := by
    have e9 : lv_args 0 [.ref h_me, va_rf p0] = [(0, .ref h_me), (1, va_rf p0)] := by cases p0 <;> rfl
    rw [← e9]; exact hl
  have hown : s.vm.findClass RX2 = some m.cls := hown
  have hw : Wd dC dI A s.heap [wX2 h_me h_me_now q_me k_me o_me, wPL o_pool] s.heap [] := ⟨hP, hD, va_S.rf⟩
  generalize hQz : (MQ below (QI dC dI (fun r (_ : Unit) => r = y.1) (fun _ => Jn [wX2 h_me h_me_now q_me k_me y.2, wPL o_pool]) (fun _ => Jt [tX2 k_me, tPL o_pool]) A) ([.ref h_me, va_rf p0] : List Value).toArray s 0 0 A) = Qz
  clear hP hD hnm
  unfold f_X2_addLaw_Q at h
  refine lv_aload_n hx hb dX2_addLaw_0 rfl (lv_at hl 0 rfl) ?_
  refine fgX2_9 hx hb hts hown hK hw 0 rfl kw322 dX2_addLaw_1 ?_
  refine lv_bipush (v := 6) hx hb dX2_addLaw_4 (by decide) ?_
  refine lv_icmp_lt (tgt := 11) hx hb dX2_addLaw_6 (by decide) (fun c => ?_) (fun c => ?_)
  · have h := z_t h c
    refine lv_aload_n hx hb dX2_addLaw_11 rfl (lv_at hl 0 rfl) ?_
    refine fgX2_6 hx hb hts hown hK hw 0 rfl kw314 dX2_addLaw_12 ?_
    refine lv_aload_n hx hb dX2_addLaw_15 rfl (lv_at hl 0 rfl) ?_
    refine fgX2_9 hx hb hts hown hK hw 0 rfl kw322 dX2_addLaw_16 ?_
    refine xaload_n hx hb dX2_addLaw_19 rfl (lv_at hl 1 rfl) ?_
    obtain ⟨g1, h⟩ := z_gd h
    obtain ⟨g2, h⟩ := z_gd h
    refine fbX2q (n := 0) (np := 1) hx hb hK hw rfl rfl rfl g1 g2 dX2_addLaw_20 (fun H locs hw => ?_)
    obtain ⟨o3, eo3, h⟩ := z_lt h
    have hw : Wd dC dI A s.heap [wX2 h_me h_me_now q_me k_me o3, wPL o_pool] H locs := by rw [eo3]; exact hw
    refine lv_aload_n hx hb dX2_addLaw_21 rfl (lv_at hl 0 rfl) ?_
    refine lv_dup hx hb dX2_addLaw_22 rfl ?_
    refine fgX2_9 hx hb hts hown hK hw 0 rfl kw322 dX2_addLaw_23 ?_
    refine lv_iconst (v := 1) hx hb dX2_addLaw_26 (by decide) ?_
    refine lv_iadd hx hb dX2_addLaw_27 ?_
    refine fpX2_9 hx hb hts hown hK hw 0 rfl kw322 dX2_addLaw_28 (fun H locs hw => ?_)
    obtain ⟨o4, eo4, h⟩ := z_lt h
    have hw : Wd dC dI A s.heap [wX2 h_me h_me_now q_me k_me o4, wPL o_pool] H locs := by rw [eo4]; exact hw
    refine lv_aload_n hx hb dX2_addLaw_31 rfl (lv_at hl 0 rfl) ?_
    refine fgX2_9 hx hb hts hown hK hw 0 rfl kw322 dX2_addLaw_32 ?_
    refine lv_iconst (v := 1) hx hb dX2_addLaw_35 (by decide) ?_
    refine lv_isub hx hb dX2_addLaw_36 ?_
    have hy := Option.some.inj h
    rw [← hQz, ← hy]
    exact xr_i (v := (gI o4 9) - (1 : Int32)) hx hb hr rfl hlk hK hw dX2_addLaw_37
  · have h := z_f h c
    refine lv_iconst (v := (-1)) hx hb dX2_addLaw_9 (by decide) ?_
    have hy := Option.some.inj h
    rw [← hQz, ← hy]
    exact xr_i (v := (-1 : Int32)) hx hb hr rfl hlk hK hw dX2_addLaw_10

