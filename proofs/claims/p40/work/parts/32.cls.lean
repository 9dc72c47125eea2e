def bk_X6_addNumber_43  (rec_3_0 : Int32 × Int32 × Ob → Option (Ob)) (v1 : Int32) (v2 : Int32) (o_me : Ob) : Option (Ob) :=
  zlt (v2 + (-8 : Int32)) fun x1 =>
  rec_3_0 (v1, x1, o_me)
def lb_X6_addNumber_3   (rec_3_0 : Int32 × Int32 × Ob → Option (Ob)) (v1 : Int32) (v2 : Int32) (o_me : Ob) : Option (Ob) :=
  if v2 < (0 : Int32) then
  (some o_me)
  else
  (if (400 : Int32) ≤ (gI o_me 2) then
  (bk_X6_addNumber_43  rec_3_0 v1 v2 o_me)
  else
  (zgd (zin (gI o_me 2) 400) <|
  zlt (tA o_me 0 (gI o_me 2).toNatClampNeg (((v1.toUInt32 >>> (v2.toUInt32 &&& Int32.toUInt32 31)).toInt32) &&& (255 : Int32))) fun o3 =>
  zlt (sI o3 2 ((gI o3 2) + (1 : Int32))) fun o4 =>
  bk_X6_addNumber_43  rec_3_0 v1 v2 o4))
def lp_X6_addNumber_3   : Nat → (Int32 × Int32 × Ob) → Option (Ob) := zit (fun rec a => lb_X6_addNumber_3   rec a.1 a.2.1 a.2.2)
def f_X6_addNumber (o_me : Ob) (p0 : Int32) : Option (Ob) :=
  lp_X6_addNumber_3   zfu (p0, (24 : Int32), o_me)
set_option maxHeartbeats 4000000 in
set_option maxRecDepth 100000 in
theorem m_X6_addNumber (l : Launch) (dC : Nat → ClassId) (dI : Nat → Nat → Nat) (sz : Nat) (h_me : Nat) (h_me_code : Nat) (q_me : Nat → Nat) (k_me : Nat → ClassId) (o_me : Ob) (p0 : Int32) (y : Ob) (h : f_X6_addNumber o_me p0 = some y) : CV l yX6_addNumber cX6_addNumber 3 none ({ frames := 0, cells := 0, slots := 0, locals := 0 } : Room) dC dI sz [.ref h_me, .int p0] [wX6 h_me h_me_code q_me k_me o_me] [tX6 k_me] [wX6 h_me h_me_code q_me k_me y] := by
  refine CC_of (by decide) (Nat.le_of_ble_eq_true rfl) ?_
  intro p e s m below meth c A ls hx hb hml hr hlk hnm hown hts hX hK hP hD hA hl
  have hl : lv_has ls 3 [(0, .ref h_me), (1, .int p0)] := hl
  have hown : s.vm.findClass RX6 = some m.cls := hown
  have hw : Wd dC dI A s.heap [wX6 h_me h_me_code q_me k_me o_me] s.heap [] := ⟨hP, hD, va_S.rf⟩
  generalize hQz : (MQ below (QV dC dI (fun (_ : Unit) => True) (fun _ => Jn [wX6 h_me h_me_code q_me k_me y]) (fun _ => Jt [tX6 k_me]) A) ([.ref h_me, .int p0] : List Value).toArray s 0 0 A) = Qz
  clear hP hD hnm
  have bk_43_1 : ∀ (rec_3_0 : Int32 × Int32 × Ob → Option (Ob)) (hrec_3_0 : ∀ (v1 : Int32) (v2 : Int32) (o_me : Ob) (H : Heap) (locs : List Loc) (ls : Array Slot), rec_3_0 (v1, v2, o_me) = some y → Wd dC dI A s.heap [wX6 h_me h_me_code q_me k_me o_me] H locs → lv_has ls 3 [(0, .ref h_me), (1, .int v1), (2, .int v2)] → W p l e ({ frames := 0, cells := 0, slots := 0, locals := 0 } : Room) s m ([.ref h_me, .int p0] : List Value).toArray below meth c H locs 0 0 Qz (F0 m 3 ls [])), ∀ (v1 : Int32) (v2 : Int32) (o_me : Ob) (H : Heap) (locs : List Loc) (ls : Array Slot), bk_X6_addNumber_43  rec_3_0 v1 v2 o_me = some y → Wd dC dI A s.heap [wX6 h_me h_me_code q_me k_me o_me] H locs → lv_has ls 3 [(0, .ref h_me), (1, .int v1), (2, .int v2)] → W p l e ({ frames := 0, cells := 0, slots := 0, locals := 0 } : Room) s m ([.ref h_me, .int p0] : List Value).toArray below meth c H locs 0 0 Qz (F0 m 43 ls []) := by
    intro rec_3_0 hrec_3_0
    intro v1 v2 o_me H locs ls h hw hl
    unfold bk_X6_addNumber_43 at h
    obtain ⟨x1, ex1, h⟩ := z_lt h
    refine lv_iinc (v := x1) (lv' := [(2, .int x1), (0, .ref h_me), (1, .int v1)]) hx hb dX6_addNumber_43 hl (k := 2) rfl ((congrArg (v2 + ·) (show Int32.ofInt (-8) = (-8 : Int32) from by decide)).trans ex1.symm) (by decide) rfl (fun ls hl => ?_)
    refine lv_goto (tgt := 3) hx hb dX6_addNumber_46 (by decide) ?_
    exact hrec_3_0 v1 x1 o_me _ _ _ h hw (lv_sub hl [1, 2, 0] rfl)
  have lp_3_0 : ∀ (N : Nat), ∀ (v1 : Int32) (v2 : Int32) (o_me : Ob) (H : Heap) (locs : List Loc) (ls : Array Slot), lp_X6_addNumber_3   N (v1, v2, o_me) = some y → Wd dC dI A s.heap [wX6 h_me h_me_code q_me k_me o_me] H locs → lv_has ls 3 [(0, .ref h_me), (1, .int v1), (2, .int v2)] → W p l e ({ frames := 0, cells := 0, slots := 0, locals := 0 } : Room) s m ([.ref h_me, .int p0] : List Value).toArray below meth c H locs 0 0 Qz (F0 m 3 ls []) := by
    intro N
    induction N with
    | zero =>
      intro v1 v2 o_me H locs ls h hw hl
      exact absurd (show (none : Option (Ob)) = some y from h) (by simp)
    | succ N ih =>
      intro v1 v2 o_me H locs ls h hw hl
      have h : lb_X6_addNumber_3   (lp_X6_addNumber_3   N) v1 v2 o_me = some y := h
      unfold lb_X6_addNumber_3 at h
      refine lv_iload_n hx hb dX6_addNumber_3 rfl (lv_at hl 2 rfl) ?_
      refine lv_if_lt (tgt := 49) hx hb dX6_addNumber_4 (by decide) (fun c => ?_) (fun c => ?_)
      · have h := z_t h c
        have hy := Option.some.inj h
        rw [← hQz, ← hy]
        exact xr_v hx hb hr hlk hK hw dX6_addNumber_49
      · have h := z_f h c
        refine lv_aload_n hx hb dX6_addNumber_7 rfl (lv_at hl 0 rfl) ?_
        refine fgX6_2 hx hb hts hown hK hw 0 rfl kw204 dX6_addNumber_8 ?_
        refine lv_sipush (v := 400) hx hb dX6_addNumber_11 (by decide) ?_
        refine lv_icmp_ge (tgt := 43) hx hb dX6_addNumber_14 (by decide) (fun c => ?_) (fun c => ?_)
        · have h := z_t h c
          exact bk_43_1 (lp_X6_addNumber_3   N) ih v1 v2 o_me _ _ _ h hw (lv_sub hl [0, 1, 2] rfl)
        · have h := z_f h c
          refine lv_aload_n hx hb dX6_addNumber_17 rfl (lv_at hl 0 rfl) ?_
          refine fgX6_0 hx hb hts hown hK hw 0 rfl kw201 dX6_addNumber_18 ?_
          refine lv_aload_n hx hb dX6_addNumber_21 rfl (lv_at hl 0 rfl) ?_
          refine fgX6_2 hx hb hts hown hK hw 0 rfl kw204 dX6_addNumber_22 ?_
          refine lv_iload_n hx hb dX6_addNumber_25 rfl (lv_at hl 1 rfl) ?_
          refine lv_iload_n hx hb dX6_addNumber_26 rfl (lv_at hl 2 rfl) ?_
          refine lv_iushr (v := _) hx hb dX6_addNumber_27 rfl ?_
          refine lv_sipush (v := 255) hx hb dX6_addNumber_28 (by decide) ?_
          refine lv_iand hx hb dX6_addNumber_31 ?_
          obtain ⟨g2, h⟩ := z_gd h
          refine fbX6_0 hx hb hK hw 0 rfl rfl g2 dX6_addNumber_32 (fun H locs hw => ?_)
          obtain ⟨o3, eo3, h⟩ := z_lt h
          have hw : Wd dC dI A s.heap [wX6 h_me h_me_code q_me k_me o3] H locs := by rw [eo3]; exact hw
          refine lv_aload_n hx hb dX6_addNumber_33 rfl (lv_at hl 0 rfl) ?_
          refine lv_dup hx hb dX6_addNumber_34 rfl ?_
          refine fgX6_2 hx hb hts hown hK hw 0 rfl kw204 dX6_addNumber_35 ?_
          refine lv_iconst (v := 1) hx hb dX6_addNumber_38 (by decide) ?_
          refine lv_iadd hx hb dX6_addNumber_39 ?_
          refine fpX6_2 hx hb hts hown hK hw 0 rfl kw204 dX6_addNumber_40 (fun H locs hw => ?_)
          obtain ⟨o4, eo4, h⟩ := z_lt h
          have hw : Wd dC dI A s.heap [wX6 h_me h_me_code q_me k_me o4] H locs := by rw [eo4]; exact hw
          exact bk_43_1 (lp_X6_addNumber_3   N) ih v1 v2 o4 _ _ _ h hw (lv_sub hl [0, 1, 2] rfl)
  unfold f_X6_addNumber at h
  refine lv_bipush (v := 24) hx hb dX6_addNumber_0 (by decide) ?_
  refine lv_istore_n (lv' := [(2, .int (24 : Int32)), (0, .ref h_me), (1, .int p0)]) hx hb dX6_addNumber_2 rfl hl (by decide) rfl (fun ls hl => ?_)
  exact lp_3_0  zfu p0 (24 : Int32) o_me _ _ _ h hw (lv_sub hl [1, 2, 0] rfl)

def f_X8_feed (o_me : Ob) (o_me_reader : Ob) (p0 : Int32) (p1 : Int32) (p2 : Int32) (p3 : Int32) (p4 : Int32) : Option (Int32 × Ob) :=
  (f_X6_hasRoom o_me_reader (20 : Int32)).bind fun z1 =>
  if z1 = (0 : Int32) then
  (some ((-1 : Int32), o_me_reader))
  else
  ((f_X6_addNumber o_me_reader p0).bind fun z2 =>
  (f_X6_addNumber z2 p1).bind fun z3 =>
  (f_X6_addNumber z3 p2).bind fun z4 =>
  (f_X6_addNumber z4 p3).bind fun z5 =>
  (f_X6_addNumber z5 p4).bind fun z6 =>
  some (gI z6 2, z6))
set_option maxHeartbeats 4000000 in
set_option maxRecDepth 100000 in
theorem m_X8_feed (l : Launch) (dC : Nat → ClassId) (dI : Nat → Nat → Nat) (sz : Nat) (h_me : Nat) (h_me_reader : Nat) (h_me_machine : Nat) (h_me_isles : Nat) (h_me_court : Nat) (h_me_study : Nat) (h_me_paper : Nat) (h_me_paperCourt : Nat) (h_me_past : Nat) (h_me_pastAhead : Nat) (h_me_movingAhead : Nat) (h_me_reader_code : Nat) (q_me : Nat → Nat) (k_me : Nat → ClassId) (q_me_reader : Nat → Nat) (k_me_reader : Nat → ClassId) (o_me : Ob) (o_me_reader : Ob) (p0 : Int32) (p1 : Int32) (p2 : Int32) (p3 : Int32) (p4 : Int32) (y : Int32 × Ob) (h : f_X8_feed o_me o_me_reader p0 p1 p2 p3 p4 = some y) : CI l yX8_feed cX8_feed 6 (some .int) ({ frames := 1, cells := 0, slots := 0, locals := 22 } : Room) dC dI sz [.ref h_me, .int p0, .int p1, .int p2, .int p3, .int p4] [wX8 h_me h_me_reader h_me_machine h_me_isles h_me_court h_me_study h_me_paper h_me_paperCourt h_me_past h_me_pastAhead h_me_movingAhead q_me k_me o_me, wX6 h_me_reader h_me_reader_code q_me_reader k_me_reader o_me_reader] [tX8 k_me, tX6 k_me_reader] y.1 [wX8 h_me h_me_reader h_me_machine h_me_isles h_me_court h_me_study h_me_paper h_me_paperCourt h_me_past h_me_pastAhead h_me_movingAhead q_me k_me o_me, wX6 h_me_reader h_me_reader_code q_me_reader k_me_reader y.2] := by
  refine CC_of (by decide) (Nat.le_of_ble_eq_true rfl) ?_
  intro p e s m below meth c A ls hx hb hml hr hlk hnm hown hts hX hK hP hD hA hl
  have hl : lv_has ls 6 [(0, .ref h_me), (1, .int p0), (2, .int p1), (3, .int p2), (4, .int p3), (5, .int p4)] := hl
  have hown : s.vm.findClass RX8 = some m.cls := hown
  have hw : Wd dC dI A s.heap [wX8 h_me h_me_reader h_me_machine h_me_isles h_me_court h_me_study h_me_paper h_me_paperCourt h_me_past h_me_pastAhead h_me_movingAhead q_me k_me o_me, wX6 h_me_reader h_me_reader_code q_me_reader k_me_reader o_me_reader] s.heap [] := ⟨hP, hD, va_S.rf⟩
  generalize hQz : (MQ below (QI dC dI (fun r (_ : Unit) => r = y.1) (fun _ => Jn [wX8 h_me h_me_reader h_me_machine h_me_isles h_me_court h_me_study h_me_paper h_me_paperCourt h_me_past h_me_pastAhead h_me_movingAhead q_me k_me o_me, wX6 h_me_reader h_me_reader_code q_me_reader k_me_reader y.2]) (fun _ => Jt [tX8 k_me, tX6 k_me_reader]) A) ([.ref h_me, .int p0, .int p1, .int p2, .int p3, .int p4] : List Value).toArray s 0 0 A) = Qz
  clear hP hD hnm
  unfold f_X8_feed at h
  refine lv_aload_n hx hb dX8_feed_0 rfl (lv_at hl 0 rfl) ?_
  refine fgX8_0 hx hb hts hown hK hw 0 rfl kw442 dX8_feed_1 ?_
  refine lv_bipush (v := 20) hx hb dX8_feed_4 (by decide) ?_
  obtain ⟨z1, ez1, h⟩ := z_bd h
  refine xj_i (xrV (As := [.int (20 : Int32)]) (rest := []) ⟨hx, hb, hml, hown, hts⟩ (m_X6_hasRoom l dC dI _ h_me_reader h_me_reader_code q_me_reader k_me_reader o_me_reader (20 : Int32) z1 ez1) kw635 kw632 kw633 kw634 kw111 hd_X6_hasRoom ⟨rfl, rfl⟩ rfl rfl ⟨rfl, rfl⟩ hX hK hw [1] (by decide) rfl rfl rfl rfl rfl hl.1 rfl rfl dX8_feed_6) hw hA [1] (by decide) rfl rfl (fun H locs hw => ?_)
  have hw : Wd dC dI A s.heap [wX8 h_me h_me_reader h_me_machine h_me_isles h_me_court h_me_study h_me_paper h_me_paperCourt h_me_past h_me_pastAhead h_me_movingAhead q_me k_me o_me, wX6 h_me_reader h_me_reader_code q_me_reader k_me_reader o_me_reader] H locs := hw
  refine lv_if_ne (tgt := 14) hx hb dX8_feed_9 (by decide) (fun c => ?_) (fun c => ?_)
  · have h := z_f h c
    refine lv_aload_n hx hb dX8_feed_14 rfl (lv_at hl 0 rfl) ?_
    refine fgX8_0 hx hb hts hown hK hw 0 rfl kw442 dX8_feed_15 ?_
    refine lv_iload_n hx hb dX8_feed_18 rfl (lv_at hl 1 rfl) ?_
    obtain ⟨z2, ez2, h⟩ := z_bd h
    refine xj_v (xrV (As := [.int p0]) (rest := []) ⟨hx, hb, hml, hown, hts⟩ (m_X6_addNumber l dC dI _ h_me_reader h_me_reader_code q_me_reader k_me_reader o_me_reader p0 z2 ez2) kw639 kw636 kw637 kw638 kw111 hd_X6_addNumber ⟨rfl, rfl⟩ rfl rfl ⟨rfl, rfl⟩ hX hK hw [1] (by decide) rfl rfl rfl rfl rfl hl.1 rfl rfl dX8_feed_19) hw hA [1] (by decide) rfl rfl (fun H locs hw => ?_)
    have hw : Wd dC dI A s.heap [wX8 h_me h_me_reader h_me_machine h_me_isles h_me_court h_me_study h_me_paper h_me_paperCourt h_me_past h_me_pastAhead h_me_movingAhead q_me k_me o_me, wX6 h_me_reader h_me_reader_code q_me_reader k_me_reader z2] H locs := hw
    refine lv_aload_n hx hb dX8_feed_22 rfl (lv_at hl 0 rfl) ?_
    refine fgX8_0 hx hb hts hown hK hw 0 rfl kw442 dX8_feed_23 ?_
    refine lv_iload_n hx hb dX8_feed_26 rfl (lv_at hl 2 rfl) ?_
    obtain ⟨z3, ez3, h⟩ := z_bd h
    refine xj_v (xrV (As := [.int p1]) (rest := []) ⟨hx, hb, hml, hown, hts⟩ (m_X6_addNumber l dC dI _ h_me_reader h_me_reader_code q_me_reader k_me_reader z2 p1 z3 ez3) kw639 kw636 kw637 kw638 kw111 hd_X6_addNumber ⟨rfl, rfl⟩ rfl rfl ⟨rfl, rfl⟩ hX hK hw [1] (by decide) rfl rfl rfl rfl rfl hl.1 rfl rfl dX8_feed_27) hw hA [1] (by decide) rfl rfl (fun H locs hw => ?_)
    have hw : Wd dC dI A s.heap [wX8 h_me h_me_reader h_me_machine h_me_isles h_me_court h_me_study h_me_paper h_me_paperCourt h_me_past h_me_pastAhead h_me_movingAhead q_me k_me o_me, wX6 h_me_reader h_me_reader_code q_me_reader k_me_reader z3] H locs := hw
    refine lv_aload_n hx hb dX8_feed_30 rfl (lv_at hl 0 rfl) ?_
    refine fgX8_0 hx hb hts hown hK hw 0 rfl kw442 dX8_feed_31 ?_
    refine lv_iload_n hx hb dX8_feed_34 rfl (lv_at hl 3 rfl) ?_
    obtain ⟨z4, ez4, h⟩ := z_bd h
    refine xj_v (xrV (As := [.int p2]) (rest := []) ⟨hx, hb, hml, hown, hts⟩ (m_X6_addNumber l dC dI _ h_me_reader h_me_reader_code q_me_reader k_me_reader z3 p2 z4 ez4) kw639 kw636 kw637 kw638 kw111 hd_X6_addNumber ⟨rfl, rfl⟩ rfl rfl ⟨rfl, rfl⟩ hX hK hw [1] (by decide) rfl rfl rfl rfl rfl hl.1 rfl rfl dX8_feed_35) hw hA [1] (by decide) rfl rfl (fun H locs hw => ?_)
    have hw : Wd dC dI A s.heap [wX8 h_me h_me_reader h_me_machine h_me_isles h_me_court h_me_study h_me_paper h_me_paperCourt h_me_past h_me_pastAhead h_me_movingAhead q_me k_me o_me, wX6 h_me_reader h_me_reader_code q_me_reader k_me_reader z4] H locs := hw
    refine lv_aload_n hx hb dX8_feed_38 rfl (lv_at hl 0 rfl) ?_
    refine fgX8_0 hx hb hts hown hK hw 0 rfl kw442 dX8_feed_39 ?_
    refine lv_iload hx hb dX8_feed_42 (lv_at hl 4 rfl) ?_
    obtain ⟨z5, ez5, h⟩ := z_bd h
    refine xj_v (xrV (As := [.int p3]) (rest := []) ⟨hx, hb, hml, hown, hts⟩ (m_X6_addNumber l dC dI _ h_me_reader h_me_reader_code q_me_reader k_me_reader z4 p3 z5 ez5) kw639 kw636 kw637 kw638 kw111 hd_X6_addNumber ⟨rfl, rfl⟩ rfl rfl ⟨rfl, rfl⟩ hX hK hw [1] (by decide) rfl rfl rfl rfl rfl hl.1 rfl rfl dX8_feed_44) hw hA [1] (by decide) rfl rfl (fun H locs hw => ?_)
    have hw : Wd dC dI A s.heap [wX8 h_me h_me_reader h_me_machine h_me_isles h_me_court h_me_study h_me_paper h_me_paperCourt h_me_past h_me_pastAhead h_me_movingAhead q_me k_me o_me, wX6 h_me_reader h_me_reader_code q_me_reader k_me_reader z5] H locs := hw
    refine lv_aload_n hx hb dX8_feed_47 rfl (lv_at hl 0 rfl) ?_
    refine fgX8_0 hx hb hts hown hK hw 0 rfl kw442 dX8_feed_48 ?_
    refine lv_iload hx hb dX8_feed_51 (lv_at hl 5 rfl) ?_
    obtain ⟨z6, ez6, h⟩ := z_bd h
    refine xj_v (xrV (As := [.int p4]) (rest := []) ⟨hx, hb, hml, hown, hts⟩ (m_X6_addNumber l dC dI _ h_me_reader h_me_reader_code q_me_reader k_me_reader z5 p4 z6 ez6) kw639 kw636 kw637 kw638 kw111 hd_X6_addNumber ⟨rfl, rfl⟩ rfl rfl ⟨rfl, rfl⟩ hX hK hw [1] (by decide) rfl rfl rfl rfl rfl hl.1 rfl rfl dX8_feed_53) hw hA [1] (by decide) rfl rfl (fun H locs hw => ?_)
    have hw : Wd dC dI A s.heap [wX8 h_me h_me_reader h_me_machine h_me_isles h_me_court h_me_study h_me_paper h_me_paperCourt h_me_past h_me_pastAhead h_me_movingAhead q_me k_me o_me, wX6 h_me_reader h_me_reader_code q_me_reader k_me_reader z6] H locs := hw
    refine lv_aload_n hx hb dX8_feed_56 rfl (lv_at hl 0 rfl) ?_
    refine fgX8_0 hx hb hts hown hK hw 0 rfl kw442 dX8_feed_57 ?_
    refine fgX6_2 hx hb hts hown hK hw 1 rfl kw205 dX8_feed_60 ?_
    have hy := Option.some.inj h
    rw [← hQz, ← hy]
    exact xr_i (v := gI z6 2) hx hb hr rfl hlk hK hw dX8_feed_63
  · have h := z_t h c
    refine lv_iconst (v := (-1)) hx hb dX8_feed_12 (by decide) ?_
    have hy := Option.some.inj h
    rw [← hQz, ← hy]
    exact xr_i (v := (-1 : Int32)) hx hb hr rfl hlk hK hw dX8_feed_13

def lb_J7_fill_d0a16_AX7_8_6   (rec_6_0 : Int64 × Int32 × Int32 × Ob → Option (Ob)) (v1 : Int64) (v3 : Int32) (v4 : Int32) (o_a0 : Ob) : Option (Ob) :=
  if v4 ≤ v3 then
  (some o_a0)
  else
  (zgd (zin v3 20) <|
  zlt (tM o_a0 8 v3.toNatClampNeg v1) fun o2 =>
  zlt (v3 + (1 : Int32)) fun x3 =>
  rec_6_0 (v1, x3, v4, o2))
def lp_J7_fill_d0a16_AX7_8_6   : Nat → (Int64 × Int32 × Int32 × Ob) → Option (Ob) := zit (fun rec a => lb_J7_fill_d0a16_AX7_8_6   rec a.1 a.2.1 a.2.2.1 a.2.2.2)
def f_J7_fill_d0a16_AX7_8 (o_a0 : Ob) (p1 : Int64) : Option (Ob) :=
  lp_J7_fill_d0a16_AX7_8_6   zfu (p1, (0 : Int32), (20 : Int32), o_a0)
set_option maxHeartbeats 4000000 in
set_option maxRecDepth 100000 in
theorem m_J7_fill_d0a16_AX7_8 (l : Launch) (dC : Nat → ClassId) (dI : Nat → Nat → Nat) (sz : Nat) (h_a0 : Nat) (h_a0_court : Nat) (h_a0_court_isles : Nat) (q_a0 : Nat → Nat) (k_a0 : Nat → ClassId) (o_a0 : Ob) (p1 : Int64) (y : Ob) (h : f_J7_fill_d0a16_AX7_8 o_a0 p1 = some y) : CV l yJ7_fill_d0a16 cJ7_fill_d0a16 5 none ({ frames := 0, cells := 0, slots := 0, locals := 0 } : Room) dC dI sz [.ref (q_a0 8), .long p1] [wX7 h_a0 h_a0_court h_a0_court_isles q_a0 k_a0 o_a0] [tX7 k_a0] [wX7 h_a0 h_a0_court h_a0_court_isles q_a0 k_a0 y] := by
  refine CC_of (by decide) (Nat.le_of_ble_eq_true rfl) ?_
  intro p e s m below meth c A ls hx hb hml hr hlk hnm hown hts hX hK hP hD hA hl
  have hl : lv_has ls 5 [(0, .ref (q_a0 8)), (1, .long p1)] := hl
  have hown : s.vm.findClass RJ7 = some m.cls := hown
  have hw : Wd dC dI A s.heap [wX7 h_a0 h_a0_court h_a0_court_isles q_a0 k_a0 o_a0] s.heap [] := ⟨hP, hD, va_S.rf⟩
  generalize hQz : (MQ below (QV dC dI (fun (_ : Unit) => True) (fun _ => Jn [wX7 h_a0 h_a0_court h_a0_court_isles q_a0 k_a0 y]) (fun _ => Jt [tX7 k_a0]) A) ([.ref (q_a0 8), .long p1] : List Value).toArray s 0 0 A) = Qz
  clear hP hD hnm
  have lp_6_0 : ∀ (N : Nat), ∀ (v1 : Int64) (v3 : Int32) (v4 : Int32) (o_a0 : Ob) (H : Heap) (locs : List Loc) (ls : Array Slot), lp_J7_fill_d0a16_AX7_8_6   N (v1, v3, v4, o_a0) = some y → Wd dC dI A s.heap [wX7 h_a0 h_a0_court h_a0_court_isles q_a0 k_a0 o_a0] H locs → lv_has ls 5 [(0, .ref (q_a0 8)), (1, .long v1), (3, .int v3), (4, .int v4)] → W p l e ({ frames := 0, cells := 0, slots := 0, locals := 0 } : Room) s m ([.ref (q_a0 8), .long p1] : List Value).toArray below meth c H locs 0 0 Qz (F0 m 6 ls []) := by
    intro N
    induction N with
    | zero =>
      intro v1 v3 v4 o_a0 H locs ls h hw hl
      exact absurd (show (none : Option (Ob)) = some y from h) (by simp)
    | succ N ih =>
      intro v1 v3 v4 o_a0 H locs ls h hw hl
      have h : lb_J7_fill_d0a16_AX7_8_6   (lp_J7_fill_d0a16_AX7_8_6   N) v1 v3 v4 o_a0 = some y := h
      unfold lb_J7_fill_d0a16_AX7_8_6 at h
      refine lv_iload_n hx hb dJ7_fill_d0a16_6 rfl (lv_at hl 2 rfl) ?_
      refine lv_iload hx hb dJ7_fill_d0a16_7 (lv_at hl 3 rfl) ?_
      refine lv_icmp_ge (tgt := 22) hx hb dJ7_fill_d0a16_9 (by decide) (fun c => ?_) (fun c => ?_)
      · have h := z_t h c
        have hy := Option.some.inj h
        rw [← hQz, ← hy]
        exact xr_v hx hb hr hlk hK hw dJ7_fill_d0a16_22
      · have h := z_f h c
        refine lv_aload_n hx hb dJ7_fill_d0a16_12 rfl (lv_at hl 0 rfl) ?_
        refine lv_iload_n hx hb dJ7_fill_d0a16_13 rfl (lv_at hl 2 rfl) ?_
        refine lv_lload_n hx hb dJ7_fill_d0a16_14 rfl (lv_at hl 1 rfl) ?_
        obtain ⟨g1, h⟩ := z_gd h
        refine fbX7_8 hx hb hK hw 0 rfl rfl g1 dJ7_fill_d0a16_15 (fun H locs hw => ?_)
        obtain ⟨o2, eo2, h⟩ := z_lt h
        have hw : Wd dC dI A s.heap [wX7 h_a0 h_a0_court h_a0_court_isles q_a0 k_a0 o2] H locs := by rw [eo2]; exact hw
        obtain ⟨x3, ex3, h⟩ := z_lt h
        refine lv_iinc (v := x3) (lv' := [(3, .int x3), (0, .ref (q_a0 8)), (1, .long v1), (4, .int v4)]) hx hb dJ7_fill_d0a16_16 hl (k := 2) rfl ((congrArg (v3 + ·) (show Int32.ofInt 1 = (1 : Int32) from by decide)).trans ex3.symm) (by decide) rfl (fun ls hl => ?_)
        refine lv_goto (tgt := 6) hx hb dJ7_fill_d0a16_19 (by decide) ?_
        exact ih v1 x3 v4 o2 _ _ _ h hw (lv_sub hl [1, 2, 0, 3] rfl)
  unfold f_J7_fill_d0a16_AX7_8 at h
  refine lv_iconst (v := 0) hx hb dJ7_fill_d0a16_0 (by decide) ?_
  refine lv_istore_n (lv' := [(3, .int (0 : Int32)), (0, .ref (q_a0 8)), (1, .long p1)]) hx hb dJ7_fill_d0a16_1 rfl hl (by decide) rfl (fun ls hl => ?_)
  refine lv_aload_n hx hb dJ7_fill_d0a16_2 rfl (lv_at hl 1 rfl) ?_
  refine fnX7_8 hx hb hK hw 0 rfl rfl dJ7_fill_d0a16_3 ?_
  refine lv_fi (v := 20) (by decide) ?_
  refine lv_istore (lv' := [(4, .int (20 : Int32)), (3, .int (0 : Int32)), (0, .ref (q_a0 8)), (1, .long p1)]) hx hb dJ7_fill_d0a16_4 hl (by decide) rfl (fun ls hl => ?_)
  exact lp_6_0  zfu p1 (0 : Int32) (20 : Int32) o_a0 _ _ _ h hw (lv_sub hl [2, 3, 1, 0] rfl)

def lb_X7_chanceOfFewer_127 (o_me_court_isles : Ob)  (rec_127_1 : Int32 × Int64 × Int32 × Ob → Option (Int64 × Ob)) (v3 : Int32) (v4 : Int64) (v6 : Int32) (o_me : Ob) : Option (Int64 × Ob) :=
  if v3 ≤ v6 then
  (some (v4, o_me))
  else
  (zgd (zin v6 20) <|
  zlt (v4 + (gM o_me 8 v6.toNatClampNeg)) fun x5 =>
  zlt (v6 + (1 : Int32)) fun x6 =>
  rec_127_1 (v3, x5, x6, o_me))
def lp_X7_chanceOfFewer_127 (o_me_court_isles : Ob)  : Nat → (Int32 × Int64 × Int32 × Ob) → Option (Int64 × Ob) := zit (fun rec a => lb_X7_chanceOfFewer_127 o_me_court_isles  rec a.1 a.2.1 a.2.2.1 a.2.2.2)
def bk_X7_chanceOfFewer_74 (o_me_court_isles : Ob) (rec_27_0 : Int32 × Int32 × Int32 × Ob → Option (Int64 × Ob)) (rec_38_2 : Int32 × Int32 × Int32 × Int32 × Ob → Option (Int64 × Ob)) (v2 : Int32) (v3 : Int32) (v4 : Int32) (v5 : Int32) (s0 : Int64) (o_me : Ob) : Option (Int64 × Ob) :=
  zgd (zin v5 20) <|
  zgd (zin v5 20) <|
  zlt (tM o_me 8 v5.toNatClampNeg ((((gM o_me 8 v5.toNatClampNeg) * (((10 : Int32) - (gI o_me_court_isles 11)).toInt64)) / (10 : Int64)) + s0)) fun o11 =>
  zlt (v5 + (-1 : Int32)) fun x12 =>
  rec_38_2 (v2, v3, v4, x12, o11)
def lb_X7_chanceOfFewer_38 (o_me_court_isles : Ob) (rec_27_0 : Int32 × Int32 × Int32 × Ob → Option (Int64 × Ob)) (rec_38_2 : Int32 × Int32 × Int32 × Int32 × Ob → Option (Int64 × Ob)) (v2 : Int32) (v3 : Int32) (v4 : Int32) (v5 : Int32) (o_me : Ob) : Option (Int64 × Ob) :=
  if v5 < (0 : Int32) then
  (zlt (v4 + (1 : Int32)) fun x8 =>
  rec_27_0 (v2, v3, x8, o_me))
  else
  (if v5 ≤ (0 : Int32) then
  (bk_X7_chanceOfFewer_74 o_me_court_isles rec_27_0 rec_38_2 v2 v3 v4 v5 (0 : Int64) o_me)
  else
  (zgd (zin (v5 - (1 : Int32)) 20) <|
  bk_X7_chanceOfFewer_74 o_me_court_isles rec_27_0 rec_38_2 v2 v3 v4 v5 (((gM o_me 8 (v5 - (1 : Int32)).toNatClampNeg) * ((gI o_me_court_isles 11).toInt64)) / (10 : Int64)) o_me))
def lp_X7_chanceOfFewer_38 (o_me_court_isles : Ob) (rec_27_0 : Int32 × Int32 × Int32 × Ob → Option (Int64 × Ob)) : Nat → (Int32 × Int32 × Int32 × Int32 × Ob) → Option (Int64 × Ob) := zit (fun rec a => lb_X7_chanceOfFewer_38 o_me_court_isles rec_27_0 rec a.1 a.2.1 a.2.2.1 a.2.2.2.1 a.2.2.2.2)
def lb_X7_chanceOfFewer_27 (o_me_court_isles : Ob)  (rec_27_0 : Int32 × Int32 × Int32 × Ob → Option (Int64 × Ob)) (v2 : Int32) (v3 : Int32) (v4 : Int32) (o_me : Ob) : Option (Int64 × Ob) :=
  if v2 ≤ v4 then
  (lp_X7_chanceOfFewer_127 o_me_court_isles  zfu (v3, (0 : Int64), (0 : Int32), o_me))
  else
  (zlt (v3 - (1 : Int32)) fun x7 =>
  lp_X7_chanceOfFewer_38 o_me_court_isles rec_27_0 zfu (v2, v3, v4, x7, o_me))
def lp_X7_chanceOfFewer_27 (o_me_court_isles : Ob)  : Nat → (Int32 × Int32 × Int32 × Ob) → Option (Int64 × Ob) := zit (fun rec a => lb_X7_chanceOfFewer_27 o_me_court_isles  rec a.1 a.2.1 a.2.2.1 a.2.2.2)
def f_X7_chanceOfFewer (o_me : Ob) (o_me_court_isles : Ob) (p0 : Int32) (p1 : Int32) : Option (Int64 × Ob) :=
  (f_J7_fill_d0a16_AX7_8 o_me (0 : Int64)).bind fun z1 =>
  zlt (tM z1 8 (0 : Int32).toNatClampNeg (1000000000000 : Int64)) fun o2 =>
  zlt (if (20 : Int32) < p0 then (20 : Int32) else p0) fun x3 =>
  lp_X7_chanceOfFewer_27 o_me_court_isles  zfu (p1, x3, (0 : Int32), o2)
set_option maxHeartbeats 4000000 in
set_option maxRecDepth 100000 in
theorem m_X7_chanceOfFewer (l : Launch) (dC : Nat → ClassId) (dI : Nat → Nat → Nat) (sz : Nat) (h_me : Nat) (h_me_court : Nat) (h_me_court_isles : Nat) (h_me_court_isles_now : Nat) (q_me : Nat → Nat) (k_me : Nat → ClassId) (q_me_court_isles : Nat → Nat) (k_me_court_isles : Nat → ClassId) (o_me : Ob) (o_me_court_isles : Ob) (p0 : Int32) (p1 : Int32) (y : Int64 × Ob) (h : f_X7_chanceOfFewer o_me o_me_court_isles p0 p1 = some y) : CL l yX7_chanceOfFewer cX7_chanceOfFewer 8 (some .long) ({ frames := 1, cells := 0, slots := 0, locals := 24 } : Room) dC dI sz [.ref h_me, .int p0, .int p1] [wX7 h_me h_me_court h_me_court_isles q_me k_me o_me, wX2 h_me_court_isles h_me_court_isles_now q_me_court_isles k_me_court_isles o_me_court_isles] [tX7 k_me, tX2 k_me_court_isles] y.1 [wX7 h_me h_me_court h_me_court_isles q_me k_me y.2, wX2 h_me_court_isles h_me_court_isles_now q_me_court_isles k_me_court_isles o_me_court_isles] := by
  refine CC_of (by decide) (Nat.le_of_ble_eq_true rfl) ?_
  intro p e s m below meth c A ls hx hb hml hr hlk hnm hown hts hX hK hP hD hA hl
  have hl : lv_has ls 8 [(0, .ref h_me), (1, .int p0), (2, .int p1)] := hl
  have hown : s.vm.findClass RX7 = some m.cls := hown
  have hw : Wd dC dI A s.heap [wX7 h_me h_me_court h_me_court_isles q_me k_me o_me, wX2 h_me_court_isles h_me_court_isles_now q_me_court_isles k_me_court_isles o_me_court_isles] s.heap [] := ⟨hP, hD, va_S.rf⟩
  generalize hQz : (MQ below (QL dC dI (fun r (_ : Unit) => r = y.1) (fun _ => Jn [wX7 h_me h_me_court h_me_court_isles q_me k_me y.2, wX2 h_me_court_isles h_me_court_isles_now q_me_court_isles k_me_court_isles o_me_court_isles]) (fun _ => Jt [tX7 k_me, tX2 k_me_court_isles]) A) ([.ref h_me, .int p0, .int p1] : List Value).toArray s 0 0 A) = Qz
  clear hP hD hnm
  have lp_127_1 : ∀ (N : Nat), ∀ (v3 : Int32) (v4 : Int64) (v6 : Int32) (o_me : Ob) (H : Heap) (locs : List Loc) (ls : Array Slot), lp_X7_chanceOfFewer_127 o_me_court_isles  N (v3, v4, v6, o_me) = some y → Wd dC dI A s.heap [wX7 h_me h_me_court h_me_court_isles q_me k_me o_me, wX2 h_me_court_isles h_me_court_isles_now q_me_court_isles k_me_court_isles o_me_court_isles] H locs → lv_has ls 8 [(0, .ref h_me), (3, .int v3), (4, .long v4), (6, .int v6)] → W p l e ({ frames := 1, cells := 0, slots := 0, locals := 24 } : Room) s m ([.ref h_me, .int p0, .int p1] : List Value).toArray below meth c H locs 0 0 Qz (F0 m 127 ls []) := by
    intro N
    induction N with
    | zero =>
      intro v3 v4 v6 o_me H locs ls h hw hl
      exact absurd (show (none : Option (Int64 × Ob)) = some y from h) (by simp)
    | succ N ih =>
      intro v3 v4 v6 o_me H locs ls h hw hl
      have h : lb_X7_chanceOfFewer_127 o_me_court_isles  (lp_X7_chanceOfFewer_127 o_me_court_isles  N) v3 v4 v6 o_me = some y := h
      unfold lb_X7_chanceOfFewer_127 at h
      refine lv_iload hx hb dX7_chanceOfFewer_127 (lv_at hl 3 rfl) ?_
      refine lv_iload_n hx hb dX7_chanceOfFewer_129 rfl (lv_at hl 1 rfl) ?_
      refine lv_icmp_ge (tgt := 151) hx hb dX7_chanceOfFewer_130 (by decide) (fun c => ?_) (fun c => ?_)
      · have h := z_t h c
        refine lv_lload hx hb dX7_chanceOfFewer_151 (lv_at hl 2 rfl) ?_
        have hy := Option.some.inj h
        rw [← hQz, ← hy]
        exact xr_l (v := v4) hx hb hr hlk hK hw dX7_chanceOfFewer_153
      · have h := z_f h c
        refine lv_lload hx hb dX7_chanceOfFewer_133 (lv_at hl 2 rfl) ?_
        refine lv_aload_n hx hb dX7_chanceOfFewer_135 rfl (lv_at hl 0 rfl) ?_
        refine fgX7_8 hx hb hts hown hK hw 0 rfl kw395 dX7_chanceOfFewer_136 ?_
        refine lv_iload hx hb dX7_chanceOfFewer_139 (lv_at hl 3 rfl) ?_
        obtain ⟨g4, h⟩ := z_gd h
        refine faX7_8 hx hb hK hw 0 rfl rfl g4 dX7_chanceOfFewer_141 ?_
        refine lv_ladd hx hb dX7_chanceOfFewer_142 ?_
        obtain ⟨x5, ex5, h⟩ := z_lt h
        refine lv_fl (v := x5) ex5.symm ?_
        refine lv_lstore (lv' := [(4, .long x5), (0, .ref h_me), (3, .int v3), (6, .int v6)]) hx hb dX7_chanceOfFewer_143 hl (by decide) rfl (fun ls hl => ?_)
        obtain ⟨x6, ex6, h⟩ := z_lt h
        refine lv_iinc (v := x6) (lv' := [(6, .int x6), (4, .long x5), (0, .ref h_me), (3, .int v3)]) hx hb dX7_chanceOfFewer_145 hl (k := 3) rfl ((congrArg (v6 + ·) (show Int32.ofInt 1 = (1 : Int32) from by decide)).trans ex6.symm) (by decide) rfl (fun ls hl => ?_)
        refine lv_goto (tgt := 127) hx hb dX7_chanceOfFewer_148 (by decide) ?_
        exact ih v3 x5 x6 o_me _ _ _ h hw (lv_sub hl [2, 3, 1, 0] rfl)
  have bk_74_3 : ∀ (rec_27_0 : Int32 × Int32 × Int32 × Ob → Option (Int64 × Ob)) (hrec_27_0 : ∀ (v2 : Int32) (v3 : Int32) (v4 : Int32) (o_me : Ob) (H : Heap) (locs : List Loc) (ls : Array Slot), rec_27_0 (v2, v3, v4, o_me) = some y → Wd dC dI A s.heap [wX7 h_me h_me_court h_me_court_isles q_me k_me o_me, wX2 h_me_court_isles h_me_court_isles_now q_me_court_isles k_me_court_isles o_me_court_isles] H locs → lv_has ls 8 [(0, .ref h_me), (2, .int v2), (3, .int v3), (4, .int v4)] → W p l e ({ frames := 1, cells := 0, slots := 0, locals := 24 } : Room) s m ([.ref h_me, .int p0, .int p1] : List Value).toArray below meth c H locs 0 0 Qz (F0 m 27 ls [])) (rec_38_2 : Int32 × Int32 × Int32 × Int32 × Ob → Option (Int64 × Ob)) (hrec_38_2 : ∀ (v2 : Int32) (v3 : Int32) (v4 : Int32) (v5 : Int32) (o_me : Ob) (H : Heap) (locs : List Loc) (ls : Array Slot), rec_38_2 (v2, v3, v4, v5, o_me) = some y → Wd dC dI A s.heap [wX7 h_me h_me_court h_me_court_isles q_me k_me o_me, wX2 h_me_court_isles h_me_court_isles_now q_me_court_isles k_me_court_isles o_me_court_isles] H locs → lv_has ls 8 [(0, .ref h_me), (2, .int v2), (3, .int v3), (4, .int v4), (5, .int v5)] → W p l e ({ frames := 1, cells := 0, slots := 0, locals := 24 } : Room) s m ([.ref h_me, .int p0, .int p1] : List Value).toArray below meth c H locs 0 0 Qz (F0 m 38 ls [])), ∀ (v2 : Int32) (v3 : Int32) (v4 : Int32) (v5 : Int32) (s0 : Int64) (o_me : Ob) (H : Heap) (locs : List Loc) (ls : Array Slot), bk_X7_chanceOfFewer_74 o_me_court_isles rec_27_0 rec_38_2 v2 v3 v4 v5 s0 o_me = some y → Wd dC dI A s.heap [wX7 h_me h_me_court h_me_court_isles q_me k_me o_me, wX2 h_me_court_isles h_me_court_isles_now q_me_court_isles k_me_court_isles o_me_court_isles] H locs → lv_has ls 8 [(0, .ref h_me), (2, .int v2), (3, .int v3), (4, .int v4), (5, .int v5)] → W p l e ({ frames := 1, cells := 0, slots := 0, locals := 24 } : Room) s m ([.ref h_me, .int p0, .int p1] : List Value).toArray below meth c H locs 0 0 Qz (F0 m 74 ls [.long s0]) := by
    intro rec_27_0 hrec_27_0 rec_38_2 hrec_38_2
    intro v2 v3 v4 v5 s0 o_me H locs ls h hw hl
    unfold bk_X7_chanceOfFewer_74 at h
    refine lv_lstore (lv' := [(6, .long s0), (0, .ref h_me), (2, .int v2), (3, .int v3), (4, .int v4), (5, .int v5)]) hx hb dX7_chanceOfFewer_74 hl (by decide) rfl (fun ls hl => ?_)
    refine lv_aload_n hx hb dX7_chanceOfFewer_76 rfl (lv_at hl 1 rfl) ?_
    refine fgX7_8 hx hb hts hown hK hw 0 rfl kw395 dX7_chanceOfFewer_77 ?_
    refine lv_iload hx hb dX7_chanceOfFewer_80 (lv_at hl 5 rfl) ?_
    refine lv_aload_n hx hb dX7_chanceOfFewer_82 rfl (lv_at hl 1 rfl) ?_
    refine fgX7_8 hx hb hts hown hK hw 0 rfl kw395 dX7_chanceOfFewer_83 ?_
    refine lv_iload hx hb dX7_chanceOfFewer_86 (lv_at hl 5 rfl) ?_
    obtain ⟨g9, h⟩ := z_gd h
    refine faX7_8 hx hb hK hw 0 rfl rfl g9 dX7_chanceOfFewer_88 ?_
    refine lv_bipush (v := 10) hx hb dX7_chanceOfFewer_89 (by decide) ?_
    refine lv_aload_n hx hb dX7_chanceOfFewer_91 rfl (lv_at hl 1 rfl) ?_
    refine fgX7_1 hx hb hts hown hK hw 0 rfl kw387 dX7_chanceOfFewer_92 ?_
    refine fgX2_11 hx hb hts hown hK hw 1 rfl kw327 dX7_chanceOfFewer_95 ?_
    refine lv_isub hx hb dX7_chanceOfFewer_98 ?_
    refine lv_i2l hx hb dX7_chanceOfFewer_99 rfl ?_
    refine lv_lmul hx hb dX7_chanceOfFewer_100 ?_
    refine lv_ldc2 (v := 10) hx hb hown (hts _ kw1104) dX7_chanceOfFewer_101 ?_
    refine lv_ldiv hx hb dX7_chanceOfFewer_104 (by decide) ?_
    refine lv_lload hx hb dX7_chanceOfFewer_105 (lv_at hl 0 rfl) ?_
    refine lv_ladd hx hb dX7_chanceOfFewer_107 ?_
    obtain ⟨g10, h⟩ := z_gd h
    refine fbX7_8 hx hb hK hw 0 rfl rfl g10 dX7_chanceOfFewer_108 (fun H locs hw => ?_)
    obtain ⟨o11, eo11, h⟩ := z_lt h
    have hw : Wd dC dI A s.heap [wX7 h_me h_me_court h_me_court_isles q_me k_me o11, wX2 h_me_court_isles h_me_court_isles_now q_me_court_isles k_me_court_isles o_me_court_isles] H locs := by rw [eo11]; exact hw
    obtain ⟨x12, ex12, h⟩ := z_lt h
    refine lv_iinc (v := x12) (lv' := [(5, .int x12), (6, .long s0), (0, .ref h_me), (2, .int v2), (3, .int v3), (4, .int v4)]) hx hb dX7_chanceOfFewer_109 hl (k := 5) rfl ((congrArg (v5 + ·) (show Int32.ofInt (-1) = (-1 : Int32) from by decide)).trans ex12.symm) (by decide) rfl (fun ls hl => ?_)
    refine lv_goto (tgt := 38) hx hb dX7_chanceOfFewer_112 (by decide) ?_
    exact hrec_38_2 v2 v3 v4 x12 o11 _ _ _ h hw (lv_sub hl [2, 3, 4, 5, 0] rfl)
  have lp_38_2 : ∀ (rec_27_0 : Int32 × Int32 × Int32 × Ob → Option (Int64 × Ob)) (hrec_27_0 : ∀ (v2 : Int32) (v3 : Int32) (v4 : Int32) (o_me : Ob) (H : Heap) (locs : List Loc) (ls : Array Slot), rec_27_0 (v2, v3, v4, o_me) = some y → Wd dC dI A s.heap [wX7 h_me h_me_court h_me_court_isles q_me k_me o_me, wX2 h_me_court_isles h_me_court_isles_now q_me_court_isles k_me_court_isles o_me_court_isles] H locs → lv_has ls 8 [(0, .ref h_me), (2, .int v2), (3, .int v3), (4, .int v4)] → W p l e ({ frames := 1, cells := 0, slots := 0, locals := 24 } : Room) s m ([.ref h_me, .int p0, .int p1] : List Value).toArray below meth c H locs 0 0 Qz (F0 m 27 ls [])) (N : Nat), ∀ (v2 : Int32) (v3 : Int32) (v4 : Int32) (v5 : Int32) (o_me : Ob) (H : Heap) (locs : List Loc) (ls : Array Slot), lp_X7_chanceOfFewer_38 o_me_court_isles rec_27_0 N (v2, v3, v4, v5, o_me) = some y → Wd dC dI A s.heap [wX7 h_me h_me_court h_me_court_isles q_me k_me o_me, wX2 h_me_court_isles h_me_court_isles_now q_me_court_isles k_me_court_isles o_me_court_isles] H locs → lv_has ls 8 [(0, .ref h_me), (2, .int v2), (3, .int v3), (4, .int v4), (5, .int v5)] → W p l e ({ frames := 1, cells := 0, slots := 0, locals := 24 } : Room) s m ([.ref h_me, .int p0, .int p1] : List Value).toArray below meth c H locs 0 0 Qz (F0 m 38 ls []) := by
    intro rec_27_0 hrec_27_0
    intro N
    induction N with
    | zero =>
      intro v2 v3 v4 v5 o_me H locs ls h hw hl
      exact absurd (show (none : Option (Int64 × Ob)) = some y from h) (by simp)
    | succ N ih =>
      intro v2 v3 v4 v5 o_me H locs ls h hw hl
      have h : lb_X7_chanceOfFewer_38 o_me_court_isles rec_27_0 (lp_X7_chanceOfFewer_38 o_me_court_isles rec_27_0 N) v2 v3 v4 v5 o_me = some y := h
      unfold lb_X7_chanceOfFewer_38 at h
      refine lv_iload hx hb dX7_chanceOfFewer_38 (lv_at hl 4 rfl) ?_
      refine lv_if_lt (tgt := 115) hx hb dX7_chanceOfFewer_40 (by decide) (fun c => ?_) (fun c => ?_)
      · have h := z_t h c
        obtain ⟨x8, ex8, h⟩ := z_lt h
        refine lv_iinc (v := x8) (lv' := [(4, .int x8), (0, .ref h_me), (2, .int v2), (3, .int v3), (5, .int v5)]) hx hb dX7_chanceOfFewer_115 hl (k := 3) rfl ((congrArg (v4 + ·) (show Int32.ofInt 1 = (1 : Int32) from by decide)).trans ex8.symm) (by decide) rfl (fun ls hl => ?_)
        refine lv_goto (tgt := 27) hx hb dX7_chanceOfFewer_118 (by decide) ?_
        exact hrec_27_0 v2 v3 x8 o_me _ _ _ h hw (lv_sub hl [1, 2, 3, 0] rfl)
      · have h := z_f h c
        refine lv_iload hx hb dX7_chanceOfFewer_43 (lv_at hl 4 rfl) ?_
        refine lv_if_le (tgt := 73) hx hb dX7_chanceOfFewer_45 (by decide) (fun c => ?_) (fun c => ?_)
        · have h := z_t h c
          refine lv_lconst (v := 0) hx hb dX7_chanceOfFewer_73 (by decide) ?_
          exact bk_74_3 rec_27_0 hrec_27_0 (lp_X7_chanceOfFewer_38 o_me_court_isles rec_27_0 N) ih v2 v3 v4 v5 (0 : Int64) o_me _ _ _ h hw (lv_sub hl [0, 1, 2, 3, 4] rfl)
        · have h := z_f h c
          refine lv_aload_n hx hb dX7_chanceOfFewer_48 rfl (lv_at hl 0 rfl) ?_
          refine fgX7_8 hx hb hts hown hK hw 0 rfl kw395 dX7_chanceOfFewer_49 ?_
          refine lv_iload hx hb dX7_chanceOfFewer_52 (lv_at hl 4 rfl) ?_
          refine lv_iconst (v := 1) hx hb dX7_chanceOfFewer_54 (by decide) ?_
          refine lv_isub hx hb dX7_chanceOfFewer_55 ?_
          obtain ⟨g13, h⟩ := z_gd h
          refine faX7_8 hx hb hK hw 0 rfl rfl g13 dX7_chanceOfFewer_56 ?_
          refine lv_aload_n hx hb dX7_chanceOfFewer_57 rfl (lv_at hl 0 rfl) ?_
          refine fgX7_1 hx hb hts hown hK hw 0 rfl kw387 dX7_chanceOfFewer_58 ?_
          refine fgX2_11 hx hb hts hown hK hw 1 rfl kw327 dX7_chanceOfFewer_61 ?_
          refine lv_i2l hx hb dX7_chanceOfFewer_64 rfl ?_
          refine lv_lmul hx hb dX7_chanceOfFewer_65 ?_
          refine lv_ldc2 (v := 10) hx hb hown (hts _ kw1104) dX7_chanceOfFewer_66 ?_
          refine lv_ldiv hx hb dX7_chanceOfFewer_69 (by decide) ?_
          refine lv_goto (tgt := 74) hx hb dX7_chanceOfFewer_70 (by decide) ?_
          exact bk_74_3 rec_27_0 hrec_27_0 (lp_X7_chanceOfFewer_38 o_me_court_isles rec_27_0 N) ih v2 v3 v4 v5 (((gM o_me 8 (v5 - (1 : Int32)).toNatClampNeg) * ((gI o_me_court_isles 11).toInt64)) / (10 : Int64)) o_me _ _ _ h hw (lv_sub hl [0, 1, 2, 3, 4] rfl)
  have lp_27_0 : ∀ (N : Nat), ∀ (v2 : Int32) (v3 : Int32) (v4 : Int32) (o_me : Ob) (H : Heap) (locs : List Loc) (ls : Array Slot), lp_X7_chanceOfFewer_27 o_me_court_isles  N (v2, v3, v4, o_me) = some y → Wd dC dI A s.heap [wX7 h_me h_me_court h_me_court_isles q_me k_me o_me, wX2 h_me_court_isles h_me_court_isles_now q_me_court_isles k_me_court_isles o_me_court_isles] H locs → lv_has ls 8 [(0, .ref h_me), (2, .int v2), (3, .int v3), (4, .int v4)] → W p l e ({ frames := 1, cells := 0, slots := 0, locals := 24 } : Room) s m ([.ref h_me, .int p0, .int p1] : List Value).toArray below meth c H locs 0 0 Qz (F0 m 27 ls []) := by
    intro N
    induction N with
    | zero =>
      intro v2 v3 v4 o_me H locs ls h hw hl
      exact absurd (show (none : Option (Int64 × Ob)) = some y from h) (by simp)
    | succ N ih =>
      intro v2 v3 v4 o_me H locs ls h hw hl
      have h : lb_X7_chanceOfFewer_27 o_me_court_isles  (lp_X7_chanceOfFewer_27 o_me_court_isles  N) v2 v3 v4 o_me = some y := h
      unfold lb_X7_chanceOfFewer_27 at h
      refine lv_iload hx hb dX7_chanceOfFewer_27 (lv_at hl 3 rfl) ?_
      refine lv_iload_n hx hb dX7_chanceOfFewer_29 rfl (lv_at hl 1 rfl) ?_
      refine lv_icmp_ge (tgt := 121) hx hb dX7_chanceOfFewer_30 (by decide) (fun c => ?_) (fun c => ?_)
      · have h := z_t h c
        refine lv_lconst (v := 0) hx hb dX7_chanceOfFewer_121 (by decide) ?_
        refine lv_lstore (lv' := [(4, .long (0 : Int64)), (0, .ref h_me), (2, .int v2), (3, .int v3)]) hx hb dX7_chanceOfFewer_122 hl (by decide) rfl (fun ls hl => ?_)
        refine lv_iconst (v := 0) hx hb dX7_chanceOfFewer_124 (by decide) ?_
        refine lv_istore (lv' := [(6, .int (0 : Int32)), (4, .long (0 : Int64)), (0, .ref h_me), (2, .int v2), (3, .int v3)]) hx hb dX7_chanceOfFewer_125 hl (by decide) rfl (fun ls hl => ?_)
        exact lp_127_1  zfu v3 (0 : Int64) (0 : Int32) o_me _ _ _ h hw (lv_sub hl [2, 4, 1, 0] rfl)
      · have h := z_f h c
        refine lv_iload_n hx hb dX7_chanceOfFewer_33 rfl (lv_at hl 2 rfl) ?_
        refine lv_iconst (v := 1) hx hb dX7_chanceOfFewer_34 (by decide) ?_
        refine lv_isub hx hb dX7_chanceOfFewer_35 ?_
        obtain ⟨x7, ex7, h⟩ := z_lt h
        refine lv_fi (v := x7) ex7.symm ?_
        refine lv_istore (lv' := [(5, .int x7), (0, .ref h_me), (2, .int v2), (3, .int v3), (4, .int v4)]) hx hb dX7_chanceOfFewer_36 hl (by decide) rfl (fun ls hl => ?_)
        exact lp_38_2 (lp_X7_chanceOfFewer_27 o_me_court_isles  N) ih zfu v2 v3 v4 x7 o_me _ _ _ h hw (lv_sub hl [1, 2, 3, 4, 0] rfl)
  unfold f_X7_chanceOfFewer at h
  refine lv_aload_n hx hb dX7_chanceOfFewer_0 rfl (lv_at hl 0 rfl) ?_
  refine fgX7_8 hx hb hts hown hK hw 0 rfl kw395 dX7_chanceOfFewer_1 ?_
  refine lv_lconst (v := 0) hx hb dX7_chanceOfFewer_4 (by decide) ?_
  obtain ⟨z1, ez1, h⟩ := z_bd h
  refine xj_v (xrS (As := [.ref (q_me 8), .long (0 : Int64)]) (rest := []) ⟨hx, hb, hml, hown, hts⟩ (m_J7_fill_d0a16_AX7_8 l dC dI _ h_me h_me_court h_me_court_isles q_me k_me o_me (0 : Int64) z1 ez1) kw1102 kw1100 kw1101 kw127 hd_J7_fill_d0a16 ⟨rfl, rfl⟩ rfl rfl ⟨rfl, rfl⟩ hX hK hw [0] (by decide) rfl rfl hl.1 rfl rfl dX7_chanceOfFewer_5) hw hA [0] (by decide) rfl rfl (fun H locs hw => ?_)
  have hw : Wd dC dI A s.heap [wX7 h_me h_me_court h_me_court_isles q_me k_me z1, wX2 h_me_court_isles h_me_court_isles_now q_me_court_isles k_me_court_isles o_me_court_isles] H locs := hw
  refine lv_aload_n hx hb dX7_chanceOfFewer_8 rfl (lv_at hl 0 rfl) ?_
  refine fgX7_8 hx hb hts hown hK hw 0 rfl kw395 dX7_chanceOfFewer_9 ?_
  refine lv_iconst (v := 0) hx hb dX7_chanceOfFewer_12 (by decide) ?_
  refine lv_ldc2 (v := 1000000000000) hx hb hown (hts _ kw1103) dX7_chanceOfFewer_13 ?_
  refine fbX7_8 hx hb hK hw 0 rfl rfl (by decide) dX7_chanceOfFewer_16 (fun H locs hw => ?_)
  obtain ⟨o2, eo2, h⟩ := z_lt h
  have hw : Wd dC dI A s.heap [wX7 h_me h_me_court h_me_court_isles q_me k_me o2, wX2 h_me_court_isles h_me_court_isles_now q_me_court_isles k_me_court_isles o_me_court_isles] H locs := by rw [eo2]; exact hw
  refine lv_iload_n hx hb dX7_chanceOfFewer_17 rfl (lv_at hl 1 rfl) ?_
  refine lv_bipush (v := 20) hx hb dX7_chanceOfFewer_18 (by decide) ?_
  refine va_mmin hx hb (hml.trans hl.1.symm) hown (hts _ kw1021) (hts _ kw561) (hts _ kw113) (hts _ kw562) (Nat.le_of_ble_eq_true rfl) (Nat.le_of_ble_eq_true rfl) (Nat.le_of_ble_eq_true rfl) (Nat.le_of_ble_eq_true rfl) dX7_chanceOfFewer_20 ?_
  obtain ⟨x3, ex3, h⟩ := z_lt h
  refine lv_fi (v := x3) ex3.symm ?_
  refine lv_istore_n (lv' := [(3, .int x3), (0, .ref h_me), (1, .int p0), (2, .int p1)]) hx hb dX7_chanceOfFewer_23 rfl hl (by decide) rfl (fun ls hl => ?_)
  refine lv_iconst (v := 0) hx hb dX7_chanceOfFewer_24 (by decide) ?_
  refine lv_istore (lv' := [(4, .int (0 : Int32)), (3, .int x3), (0, .ref h_me), (1, .int p0), (2, .int p1)]) hx hb dX7_chanceOfFewer_25 hl (by decide) rfl (fun ls hl => ?_)
  exact lp_27_0  zfu p1 x3 (0 : Int32) o2 _ _ _ h hw (lv_sub hl [2, 4, 1, 0] rfl)

def f_X8_few (o_me : Ob) (o_me_isles : Ob) (o_me_study : Ob) (p0 : Int32) (p1 : Int32) : Option (Int64 × Ob) :=
  if p0 < (1 : Int32) then
  (some ((-1 : Int64), o_me_study))
  else
  (if (20 : Int32) < p0 then
  (some ((-1 : Int64), o_me_study))
  else
  (if p1 < (0 : Int32) then
  (some ((-1 : Int64), o_me_study))
  else
  (if p1 ≤ (99 : Int32) then
  ((f_X7_chanceOfFewer o_me_study o_me_isles p0 p1).bind fun z1 =>
  some (z1.1, z1.2))
  else
  (some ((-1 : Int64), o_me_study)))))
set_option maxHeartbeats 4000000 in
set_option maxRecDepth 100000 in
theorem m_X8_few (l : Launch) (dC : Nat → ClassId) (dI : Nat → Nat → Nat) (sz : Nat) (h_me : Nat) (h_me_reader : Nat) (h_me_machine : Nat) (h_me_isles : Nat) (h_me_court : Nat) (h_me_study : Nat) (h_me_paper : Nat) (h_me_paperCourt : Nat) (h_me_past : Nat) (h_me_pastAhead : Nat) (h_me_movingAhead : Nat) (h_me_isles_now : Nat) (q_me : Nat → Nat) (k_me : Nat → ClassId) (q_me_isles : Nat → Nat) (k_me_isles : Nat → ClassId) (q_me_study : Nat → Nat) (k_me_study : Nat → ClassId) (o_me : Ob) (o_me_isles : Ob) (o_me_study : Ob) (p0 : Int32) (p1 : Int32) (y : Int64 × Ob) (h : f_X8_few o_me o_me_isles o_me_study p0 p1 = some y) : CL l yX8_few cX8_few 3 (some .long) ({ frames := 2, cells := 0, slots := 0, locals := 51 } : Room) dC dI sz [.ref h_me, .int p0, .int p1] [wX8 h_me h_me_reader h_me_machine h_me_isles h_me_court h_me_study h_me_paper h_me_paperCourt h_me_past h_me_pastAhead h_me_movingAhead q_me k_me o_me, wX2 h_me_isles h_me_isles_now q_me_isles k_me_isles o_me_isles, wX7 h_me_study h_me_court h_me_isles q_me_study k_me_study o_me_study] [tX8 k_me, tX2 k_me_isles, tX7 k_me_study] y.1 [wX8 h_me h_me_reader h_me_machine h_me_isles h_me_court h_me_study h_me_paper h_me_paperCourt h_me_past h_me_pastAhead h_me_movingAhead q_me k_me o_me, wX2 h_me_isles h_me_isles_now q_me_isles k_me_isles o_me_isles, wX7 h_me_study h_me_court h_me_isles q_me_study k_me_study y.2] := by
  refine CC_of (by decide) (Nat.le_of_ble_eq_true rfl) ?_
  intro p e s m below meth c A ls hx hb hml hr hlk hnm hown hts hX hK hP hD hA hl
  have hl : lv_has ls 3 [(0, .ref h_me), (1, .int p0), (2, .int p1)] := hl
  have hown : s.vm.findClass RX8 = some m.cls := hown
  have hw : Wd dC dI A s.heap [wX8 h_me h_me_reader h_me_machine h_me_isles h_me_court h_me_study h_me_paper h_me_paperCourt h_me_past h_me_pastAhead h_me_movingAhead q_me k_me o_me, wX2 h_me_isles h_me_isles_now q_me_isles k_me_isles o_me_isles, wX7 h_me_study h_me_court h_me_isles q_me_study k_me_study o_me_study] s.heap [] := ⟨hP, hD, va_S.rf⟩
  generalize hQz : (MQ below (QL dC dI (fun r (_ : Unit) => r = y.1) (fun _ => Jn [wX8 h_me h_me_reader h_me_machine h_me_isles h_me_court h_me_study h_me_paper h_me_paperCourt h_me_past h_me_pastAhead h_me_movingAhead q_me k_me o_me, wX2 h_me_isles h_me_isles_now q_me_isles k_me_isles o_me_isles, wX7 h_me_study h_me_court h_me_isles q_me_study k_me_study y.2]) (fun _ => Jt [tX8 k_me, tX2 k_me_isles, tX7 k_me_study]) A) ([.ref h_me, .int p0, .int p1] : List Value).toArray s 0 0 A) = Qz
  clear hP hD hnm
  unfold f_X8_few at h
  refine lv_iload_n hx hb dX8_few_0 rfl (lv_at hl 1 rfl) ?_
  refine lv_iconst (v := 1) hx hb dX8_few_1 (by decide) ?_
  refine lv_icmp_lt (tgt := 21) hx hb dX8_few_2 (by decide) (fun c => ?_) (fun c => ?_)
  · have h := z_t h c
    refine lv_ldc2 (v := (-1)) hx hb hown (hts _ kw1078) dX8_few_21 ?_
    have hy := Option.some.inj h
    rw [← hQz, ← hy]
    exact xr_l (v := (-1 : Int64)) hx hb hr hlk hK hw dX8_few_24
  · have h := z_f h c
    refine lv_iload_n hx hb dX8_few_5 rfl (lv_at hl 1 rfl) ?_
    refine lv_bipush (v := 20) hx hb dX8_few_6 (by decide) ?_
    refine lv_icmp_gt (tgt := 21) hx hb dX8_few_8 (by decide) (fun c => ?_) (fun c => ?_)
    · have h := z_t h c
      refine lv_ldc2 (v := (-1)) hx hb hown (hts _ kw1078) dX8_few_21 ?_
      have hy := Option.some.inj h
      rw [← hQz, ← hy]
      exact xr_l (v := (-1 : Int64)) hx hb hr hlk hK hw dX8_few_24
    · have h := z_f h c
      refine lv_iload_n hx hb dX8_few_11 rfl (lv_at hl 2 rfl) ?_
      refine lv_if_lt (tgt := 21) hx hb dX8_few_12 (by decide) (fun c => ?_) (fun c => ?_)
      · have h := z_t h c
        refine lv_ldc2 (v := (-1)) hx hb hown (hts _ kw1078) dX8_few_21 ?_
        have hy := Option.some.inj h
        rw [← hQz, ← hy]
        exact xr_l (v := (-1 : Int64)) hx hb hr hlk hK hw dX8_few_24
      · have h := z_f h c
        refine lv_iload_n hx hb dX8_few_15 rfl (lv_at hl 2 rfl) ?_
        refine lv_bipush (v := 99) hx hb dX8_few_16 (by decide) ?_
        refine lv_icmp_le (tgt := 25) hx hb dX8_few_18 (by decide) (fun c => ?_) (fun c => ?_)
        · have h := z_t h c
          refine lv_aload_n hx hb dX8_few_25 rfl (lv_at hl 0 rfl) ?_
          refine fgX8_4 hx hb hts hown hK hw 0 rfl kw446 dX8_few_26 ?_
          refine lv_iload_n hx hb dX8_few_29 rfl (lv_at hl 1 rfl) ?_
          refine lv_iload_n hx hb dX8_few_30 rfl (lv_at hl 2 rfl) ?_
          obtain ⟨z1, ez1, h⟩ := z_bd h
          refine xj_l (xrV (As := [.int p0, .int p1]) (rest := []) ⟨hx, hb, hml, hown, hts⟩ (m_X7_chanceOfFewer l dC dI _ h_me_study h_me_court h_me_isles h_me_isles_now q_me_study k_me_study q_me_isles k_me_isles o_me_study o_me_isles p0 p1 z1 ez1) kw1099 kw1096 kw1097 kw1098 kw118 hd_X7_chanceOfFewer ⟨rfl, rfl⟩ rfl rfl ⟨rfl, rfl⟩ hX hK hw [2, 1] (by decide) rfl rfl rfl rfl rfl hl.1 rfl rfl dX8_few_31) hw hA [2, 1] (by decide) rfl rfl (fun H locs hw => ?_)
          have hw : Wd dC dI A s.heap [wX8 h_me h_me_reader h_me_machine h_me_isles h_me_court h_me_study h_me_paper h_me_paperCourt h_me_past h_me_pastAhead h_me_movingAhead q_me k_me o_me, wX2 h_me_isles h_me_isles_now q_me_isles k_me_isles o_me_isles, wX7 h_me_study h_me_court h_me_isles q_me_study k_me_study z1.2] H locs := hw
          have hy := Option.some.inj h
          rw [← hQz, ← hy]
          exact xr_l (v := z1.1) hx hb hr hlk hK hw dX8_few_34
        · have h := z_f h c
          refine lv_ldc2 (v := (-1)) hx hb hown (hts _ kw1078) dX8_few_21 ?_
          have hy := Option.some.inj h
          rw [← hQz, ← hy]
          exact xr_l (v := (-1 : Int64)) hx hb hr hlk hK hw dX8_few_24

def bk_X8_force_23   (v1 : Int32) (o_me : Ob) (o_me_isles : Ob) : Option (Int32 × Ob × Ob) :=
  zlt (gI o_me_isles 10) fun x1 =>
  zlt (sI o_me_isles 10 v1) fun o2 =>
  (f_X8_grant o_me x1).bind fun z3 =>
  some (z3.1, z3.2, o2)
def f_X8_force (o_me : Ob) (o_me_isles : Ob) (p0 : Int32) : Option (Int32 × Ob × Ob) :=
  if p0 = (-1 : Int32) then
  (bk_X8_force_23   p0 o_me o_me_isles)
  else
  ((f_X2_isLaw o_me_isles p0).bind fun z4 =>
  if z4 = (0 : Int32) then
  ((f_X8_refuse o_me (-2 : Int32)).bind fun z5 =>
  some (z5.1, z5.2, o_me_isles))
  else
  (bk_X8_force_23   p0 o_me o_me_isles))
set_option maxHeartbeats 4000000 in
set_option maxRecDepth 100000 in
theorem m_X8_force (l : Launch) (dC : Nat → ClassId) (dI : Nat → Nat → Nat) (sz : Nat) (h_me : Nat) (h_me_reader : Nat) (h_me_machine : Nat) (h_me_isles : Nat) (h_me_court : Nat) (h_me_study : Nat) (h_me_paper : Nat) (h_me_paperCourt : Nat) (h_me_past : Nat) (h_me_pastAhead : Nat) (h_me_movingAhead : Nat) (h_me_isles_now : Nat) (q_me : Nat → Nat) (k_me : Nat → ClassId) (q_me_isles : Nat → Nat) (k_me_isles : Nat → ClassId) (o_me : Ob) (o_me_isles : Ob) (p0 : Int32) (y : Int32 × Ob × Ob) (h : f_X8_force o_me o_me_isles p0 = some y) : CI l yX8_force cX8_force 3 (some .int) ({ frames := 1, cells := 0, slots := 0, locals := 21 } : Room) dC dI sz [.ref h_me, .int p0] [wX8 h_me h_me_reader h_me_machine h_me_isles h_me_court h_me_study h_me_paper h_me_paperCourt h_me_past h_me_pastAhead h_me_movingAhead q_me k_me o_me, wX2 h_me_isles h_me_isles_now q_me_isles k_me_isles o_me_isles] [tX8 k_me, tX2 k_me_isles] y.1 [wX8 h_me h_me_reader h_me_machine h_me_isles h_me_court h_me_study h_me_paper h_me_paperCourt h_me_past h_me_pastAhead h_me_movingAhead q_me k_me y.2.1, wX2 h_me_isles h_me_isles_now q_me_isles k_me_isles y.2.2] := by
  refine CC_of (by decide) (Nat.le_of_ble_eq_true rfl) ?_
  intro p e s m below meth c A ls hx hb hml hr hlk hnm hown hts hX hK hP hD hA hl
  have hl : lv_has ls 3 [(0, .ref h_me), (1, .int p0)] := hl
  have hown : s.vm.findClass RX8 = some m.cls := hown
  have hw : Wd dC dI A s.heap [wX8 h_me h_me_reader h_me_machine h_me_isles h_me_court h_me_study h_me_paper h_me_paperCourt h_me_past h_me_pastAhead h_me_movingAhead q_me k_me o_me, wX2 h_me_isles h_me_isles_now q_me_isles k_me_isles o_me_isles] s.heap [] := ⟨hP, hD, va_S.rf⟩
  generalize hQz : (MQ below (QI dC dI (fun r (_ : Unit) => r = y.1) (fun _ => Jn [wX8 h_me h_me_reader h_me_machine h_me_isles h_me_court h_me_study h_me_paper h_me_paperCourt h_me_past h_me_pastAhead h_me_movingAhead q_me k_me y.2.1, wX2 h_me_isles h_me_isles_now q_me_isles k_me_isles y.2.2]) (fun _ => Jt [tX8 k_me, tX2 k_me_isles]) A) ([.ref h_me, .int p0] : List Value).toArray s 0 0 A) = Qz
  clear hP hD hnm
  have bk_23_0 : ∀ (v1 : Int32) (o_me : Ob) (o_me_isles : Ob) (H : Heap) (locs : List Loc) (ls : Array Slot), bk_X8_force_23   v1 o_me o_me_isles = some y → Wd dC dI A s.heap [wX8 h_me h_me_reader h_me_machine h_me_isles h_me_court h_me_study h_me_paper h_me_paperCourt h_me_past h_me_pastAhead h_me_movingAhead q_me k_me o_me, wX2 h_me_isles h_me_isles_now q_me_isles k_me_isles o_me_isles] H locs → lv_has ls 3 [(0, .ref h_me), (1, .int v1)] → W p l e ({ frames := 1, cells := 0, slots := 0, locals := 21 } : Room) s m ([.ref h_me, .int p0] : List Value).toArray below meth c H locs 0 0 Qz (F0 m 23 ls []) := by
    intro v1 o_me o_me_isles H locs ls h hw hl
    unfold bk_X8_force_23 at h
    refine lv_aload_n hx hb dX8_force_23 rfl (lv_at hl 0 rfl) ?_
    refine fgX8_2 hx hb hts hown hK hw 0 rfl kw444 dX8_force_24 ?_
    refine fgX2_10 hx hb hts hown hK hw 1 rfl kw325 dX8_force_27 ?_
    obtain ⟨x1, ex1, h⟩ := z_lt h
    refine lv_fi (v := x1) ex1.symm ?_
    refine lv_istore_n (lv' := [(2, .int x1), (0, .ref h_me), (1, .int v1)]) hx hb dX8_force_30 rfl hl (by decide) rfl (fun ls hl => ?_)
    refine lv_aload_n hx hb dX8_force_31 rfl (lv_at hl 1 rfl) ?_
    refine fgX8_2 hx hb hts hown hK hw 0 rfl kw444 dX8_force_32 ?_
    refine lv_iload_n hx hb dX8_force_35 rfl (lv_at hl 2 rfl) ?_
    refine fpX2_10 hx hb hts hown hK hw 1 rfl kw325 dX8_force_36 (fun H locs hw => ?_)
    obtain ⟨o2, eo2, h⟩ := z_lt h
    have hw : Wd dC dI A s.heap [wX8 h_me h_me_reader h_me_machine h_me_isles h_me_court h_me_study h_me_paper h_me_paperCourt h_me_past h_me_pastAhead h_me_movingAhead q_me k_me o_me, wX2 h_me_isles h_me_isles_now q_me_isles k_me_isles o2] H locs := by rw [eo2]; exact hw
    refine lv_aload_n hx hb dX8_force_39 rfl (lv_at hl 1 rfl) ?_
    refine lv_iload_n hx hb dX8_force_40 rfl (lv_at hl 0 rfl) ?_
    obtain ⟨z3, ez3, h⟩ := z_bd h
    refine xj_i (xrV (As := [.int x1]) (rest := []) ⟨hx, hb, hml, hown, hts⟩ (m_X8_grant l dC dI _ h_me h_me_reader h_me_machine h_me_isles h_me_court h_me_study h_me_paper h_me_paperCourt h_me_past h_me_pastAhead h_me_movingAhead q_me k_me o_me x1 z3 ez3) kw520 kw517 kw519 kw1 kw110 hd_X8_grant ⟨rfl, rfl⟩ rfl rfl ⟨rfl, rfl⟩ hX hK hw [0] (by decide) rfl rfl rfl rfl rfl hl.1 rfl rfl dX8_force_41) hw hA [0] (by decide) rfl rfl (fun H locs hw => ?_)
    have hw : Wd dC dI A s.heap [wX8 h_me h_me_reader h_me_machine h_me_isles h_me_court h_me_study h_me_paper h_me_paperCourt h_me_past h_me_pastAhead h_me_movingAhead q_me k_me z3.2, wX2 h_me_isles h_me_isles_now q_me_isles k_me_isles o2] H locs := hw
    have hy := Option.some.inj h
    rw [← hQz, ← hy]
    exact xr_i (v := z3.1) hx hb hr rfl hlk hK hw dX8_force_44
  unfold f_X8_force at h
  refine lv_iload_n hx hb dX8_force_0 rfl (lv_at hl 1 rfl) ?_
  refine lv_iconst (v := (-1)) hx hb dX8_force_1 (by decide) ?_
  refine lv_icmp_eq (tgt := 23) hx hb dX8_force_2 (by decide) (fun c => ?_) (fun c => ?_)
  · have h := z_t h c
    exact bk_23_0  p0 o_me o_me_isles _ _ _ h hw (lv_sub hl [0, 1] rfl)
  · have h := z_f h c
    refine lv_aload_n hx hb dX8_force_5 rfl (lv_at hl 0 rfl) ?_
    refine fgX8_2 hx hb hts hown hK hw 0 rfl kw444 dX8_force_6 ?_
    refine lv_iload_n hx hb dX8_force_9 rfl (lv_at hl 1 rfl) ?_
    obtain ⟨z4, ez4, h⟩ := z_bd h
    refine xj_i (xrV (As := [.int p0]) (rest := []) ⟨hx, hb, hml, hown, hts⟩ (m_X2_isLaw l dC dI _ h_me_isles h_me_isles_now q_me_isles k_me_isles o_me_isles p0 z4 ez4) kw539 kw910 kw537 kw538 kw115 hd_X2_isLaw ⟨rfl, rfl⟩ rfl rfl ⟨rfl, rfl⟩ hX hK hw [1] (by decide) rfl rfl rfl rfl rfl hl.1 rfl rfl dX8_force_10) hw hA [1] (by decide) rfl rfl (fun H locs hw => ?_)
    have hw : Wd dC dI A s.heap [wX8 h_me h_me_reader h_me_machine h_me_isles h_me_court h_me_study h_me_paper h_me_paperCourt h_me_past h_me_pastAhead h_me_movingAhead q_me k_me o_me, wX2 h_me_isles h_me_isles_now q_me_isles k_me_isles o_me_isles] H locs := hw
    refine lv_if_ne (tgt := 23) hx hb dX8_force_13 (by decide) (fun c => ?_) (fun c => ?_)
    · have h := z_f h c
      exact bk_23_0  p0 o_me o_me_isles _ _ _ h hw (lv_sub hl [0, 1] rfl)
    · have h := z_t h c
      refine lv_aload_n hx hb dX8_force_16 rfl (lv_at hl 0 rfl) ?_
      refine lv_bipush (v := (-2)) hx hb dX8_force_17 (by decide) ?_
      obtain ⟨z5, ez5, h⟩ := z_bd h
      refine xj_i (xrV (As := [.int (-2 : Int32)]) (rest := []) ⟨hx, hb, hml, hown, hts⟩ (m_X8_refuse l dC dI _ h_me h_me_reader h_me_machine h_me_isles h_me_court h_me_study h_me_paper h_me_paperCourt h_me_past h_me_pastAhead h_me_movingAhead q_me k_me o_me (-2 : Int32) z5 ez5) kw508 kw505 kw507 kw0 kw110 hd_X8_refuse ⟨rfl, rfl⟩ rfl rfl ⟨rfl, rfl⟩ hX hK hw [0] (by decide) rfl rfl rfl rfl rfl hl.1 rfl rfl dX8_force_19) hw hA [0] (by decide) rfl rfl (fun H locs hw => ?_)
      have hw : Wd dC dI A s.heap [wX8 h_me h_me_reader h_me_machine h_me_isles h_me_court h_me_study h_me_paper h_me_paperCourt h_me_past h_me_pastAhead h_me_movingAhead q_me k_me z5.2, wX2 h_me_isles h_me_isles_now q_me_isles k_me_isles o_me_isles] H locs := hw
      have hy := Option.some.inj h
      rw [← hQz, ← hy]
      exact xr_i (v := z5.1) hx hb hr rfl hlk hK hw dX8_force_22

def f_X8_forget (o_me : Ob) (o_me_isles : Ob) : Option (Int32 × Ob) :=
  zlt (gI o_me_isles 8) fun x1 =>
  zlt (sI o_me_isles 8 (0 : Int32)) fun o2 =>
  some (x1, o2)
set_option maxHeartbeats 4000000 in
set_option maxRecDepth 100000 in
theorem m_X8_forget (l : Launch) (dC : Nat → ClassId) (dI : Nat → Nat → Nat) (sz : Nat) (h_me : Nat) (h_me_reader : Nat) (h_me_machine : Nat) (h_me_isles : Nat) (h_me_court : Nat) (h_me_study : Nat) (h_me_paper : Nat) (h_me_paperCourt : Nat) (h_me_past : Nat) (h_me_pastAhead : Nat) (h_me_movingAhead : Nat) (h_me_isles_now : Nat) (q_me : Nat → Nat) (k_me : Nat → ClassId) (q_me_isles : Nat → Nat) (k_me_isles : Nat → ClassId) (o_me : Ob) (o_me_isles : Ob) (y : Int32 × Ob) (h : f_X8_forget o_me o_me_isles = some y) : CI l yX8_forget cX8_forget 2 (some .int) ({ frames := 0, cells := 0, slots := 0, locals := 0 } : Room) dC dI sz [.ref h_me] [wX8 h_me h_me_reader h_me_machine h_me_isles h_me_court h_me_study h_me_paper h_me_paperCourt h_me_past h_me_pastAhead h_me_movingAhead q_me k_me o_me, wX2 h_me_isles h_me_isles_now q_me_isles k_me_isles o_me_isles] [tX8 k_me, tX2 k_me_isles] y.1 [wX8 h_me h_me_reader h_me_machine h_me_isles h_me_court h_me_study h_me_paper h_me_paperCourt h_me_past h_me_pastAhead h_me_movingAhead q_me k_me o_me, wX2 h_me_isles h_me_isles_now q_me_isles k_me_isles y.2] := by
  refine CC_of (by decide) (Nat.le_of_ble_eq_true rfl) ?_
  intro p e s m below meth c A ls hx hb hml hr hlk hnm hown hts hX hK hP hD hA hl
  have hl : lv_has ls 2 [(0, .ref h_me)] := hl
  have hown : s.vm.findClass RX8 = some m.cls := hown
  have hw : Wd dC dI A s.heap [wX8 h_me h_me_reader h_me_machine h_me_isles h_me_court h_me_study h_me_paper h_me_paperCourt h_me_past h_me_pastAhead h_me_movingAhead q_me k_me o_me, wX2 h_me_isles h_me_isles_now q_me_isles k_me_isles o_me_isles] s.heap [] := ⟨hP, hD, va_S.rf⟩
  generalize hQz : (MQ below (QI dC dI (fun r (_ : Unit) => r = y.1) (fun _ => Jn [wX8 h_me h_me_reader h_me_machine h_me_isles h_me_court h_me_study h_me_paper h_me_paperCourt h_me_past h_me_pastAhead h_me_movingAhead q_me k_me o_me, wX2 h_me_isles h_me_isles_now q_me_isles k_me_isles y.2]) (fun _ => Jt [tX8 k_me, tX2 k_me_isles]) A) ([.ref h_me] : List Value).toArray s 0 0 A) = Qz
  clear hP hD hnm
  unfold f_X8_forget at h
  refine lv_aload_n hx hb dX8_forget_0 rfl (lv_at hl 0 rfl) ?_
  refine fgX8_2 hx hb hts hown hK hw 0 rfl kw444 dX8_forget_1 ?_
  refine fgX2_8 hx hb hts hown hK hw 1 rfl kw321 dX8_forget_4 ?_
  obtain ⟨x1, ex1, h⟩ := z_lt h
  refine lv_fi (v := x1) ex1.symm ?_
  refine lv_istore_n (lv' := [(1, .int x1), (0, .ref h_me)]) hx hb dX8_forget_7 rfl hl (by decide) rfl (fun ls hl => ?_)
  refine lv_aload_n hx hb dX8_forget_8 rfl (lv_at hl 1 rfl) ?_
  refine fgX8_2 hx hb hts hown hK hw 0 rfl kw444 dX8_forget_9 ?_
  refine lv_iconst (v := 0) hx hb dX8_forget_12 (by decide) ?_
  refine fpX2_8 hx hb hts hown hK hw 1 rfl kw321 dX8_forget_13 (fun H locs hw => ?_)
  obtain ⟨o2, eo2, h⟩ := z_lt h
  have hw : Wd dC dI A s.heap [wX8 h_me h_me_reader h_me_machine h_me_isles h_me_court h_me_study h_me_paper h_me_paperCourt h_me_past h_me_pastAhead h_me_movingAhead q_me k_me o_me, wX2 h_me_isles h_me_isles_now q_me_isles k_me_isles o2] H locs := by rw [eo2]; exact hw
  refine lv_iload_n hx hb dX8_forget_16 rfl (lv_at hl 0 rfl) ?_
  have hy := Option.some.inj h
  rw [← hQz, ← hy]
  exact xr_i (v := x1) hx hb hr rfl hlk hK hw dX8_forget_17

def bk_X7_awaitChildren_49 (o_me_court_isles : Ob) (rec_13_0 : Int32 × Int32 × Int32 × Ob → Option (Int32 × Ob)) (v1 : Int32) (v3 : Int32) (v4 : Int32) (o_me : Ob) : Option (Int32 × Ob) :=
  zlt (v4 + (-1 : Int32)) fun x3 =>
  rec_13_0 (v1, v3, x3, o_me)
def lb_X7_awaitChildren_13 (o_me_court_isles : Ob)  (rec_13_0 : Int32 × Int32 × Int32 × Ob → Option (Int32 × Ob)) (v1 : Int32) (v3 : Int32) (v4 : Int32) (o_me : Ob) : Option (Int32 × Ob) :=
  if v4 < (0 : Int32) then
  (some (v3, o_me))
  else
  (zgd (zin v4 7) <|
  if (gA o_me_court_isles 1 v4.toNatClampNeg) = v1 then
  (if (7 : Int32) ≤ v3 then
  (bk_X7_awaitChildren_49 o_me_court_isles rec_13_0 v1 v3 v4 o_me)
  else
  (zgd (zin v3 7) <|
  zlt (tA o_me 3 v3.toNatClampNeg v4) fun o5 =>
  zlt (v3 + (1 : Int32)) fun x6 =>
  bk_X7_awaitChildren_49 o_me_court_isles rec_13_0 v1 x6 v4 o5))
  else
  (bk_X7_awaitChildren_49 o_me_court_isles rec_13_0 v1 v3 v4 o_me))
def lp_X7_awaitChildren_13 (o_me_court_isles : Ob)  : Nat → (Int32 × Int32 × Int32 × Ob) → Option (Int32 × Ob) := zit (fun rec a => lb_X7_awaitChildren_13 o_me_court_isles  rec a.1 a.2.1 a.2.2.1 a.2.2.2)
def f_X7_awaitChildren (o_me : Ob) (o_me_court_isles : Ob) (p0 : Int32) (p1 : Int32) : Option (Int32 × Ob) :=
  zlt ((gI o_me_court_isles 7) - (1 : Int32)) fun x1 =>
  lp_X7_awaitChildren_13 o_me_court_isles  zfu (p0, p1, x1, o_me)
set_option maxHeartbeats 4000000 in
set_option maxRecDepth 100000 in
theorem m_X7_awaitChildren (l : Launch) (dC : Nat → ClassId) (dI : Nat → Nat → Nat) (sz : Nat) (h_me : Nat) (h_me_court : Nat) (h_me_court_isles : Nat) (h_me_court_isles_now : Nat) (q_me : Nat → Nat) (k_me : Nat → ClassId) (q_me_court_isles : Nat → Nat) (k_me_court_isles : Nat → ClassId) (o_me : Ob) (o_me_court_isles : Ob) (p0 : Int32) (p1 : Int32) (y : Int32 × Ob) (h : f_X7_awaitChildren o_me o_me_court_isles p0 p1 = some y) : CI l yX7_awaitChildren cX7_awaitChildren 5 (some .int) ({ frames := 0, cells := 0, slots := 0, locals := 0 } : Room) dC dI sz [.ref h_me, .int p0, .int p1] [wX7 h_me h_me_court h_me_court_isles q_me k_me o_me, wX2 h_me_court_isles h_me_court_isles_now q_me_court_isles k_me_court_isles o_me_court_isles] [tX7 k_me, tX2 k_me_court_isles] y.1 [wX7 h_me h_me_court h_me_court_isles q_me k_me y.2, wX2 h_me_court_isles h_me_court_isles_now q_me_court_isles k_me_court_isles o_me_court_isles] := by
  refine CC_of (by decide) (Nat.le_of_ble_eq_true rfl) ?_
  intro p e s m below meth c A ls hx hb hml hr hlk hnm hown hts hX hK hP hD hA hl
  have hl : lv_has ls 5 [(0, .ref h_me), (1, .int p0), (2, .int p1)] := hl
  have hown : s.vm.findClass RX7 = some m.cls := hown
  have hw : Wd dC dI A s.heap [wX7 h_me h_me_court h_me_court_isles q_me k_me o_me, wX2 h_me_court_isles h_me_court_isles_now q_me_court_isles k_me_court_isles o_me_court_isles] s.heap [] := ⟨hP, hD, va_S.rf⟩
  generalize hQz : (MQ below (QI dC dI (fun r (_ : Unit) => r = y.1) (fun _ => Jn [wX7 h_me h_me_court h_me_court_isles q_me k_me y.2, wX2 h_me_court_isles h_me_court_isles_now q_me_court_isles k_me_court_isles o_me_court_isles]) (fun _ => Jt [tX7 k_me, tX2 k_me_court_isles]) A) ([.ref h_me, .int p0, .int p1] : List Value).toArray s 0 0 A) = Qz
  clear hP hD hnm
  have bk_49_1 : ∀ (rec_13_0 : Int32 × Int32 × Int32 × Ob → Option (Int32 × Ob)) (hrec_13_0 : ∀ (v1 : Int32) (v3 : Int32) (v4 : Int32) (o_me : Ob) (H : Heap) (locs : List Loc) (ls : Array Slot), rec_13_0 (v1, v3, v4, o_me) = some y → Wd dC dI A s.heap [wX7 h_me h_me_court h_me_court_isles q_me k_me o_me, wX2 h_me_court_isles h_me_court_isles_now q_me_court_isles k_me_court_isles o_me_court_isles] H locs → lv_has ls 5 [(0, .ref h_me), (1, .int v1), (3, .int v3), (4, .int v4)] → W p l e ({ frames := 0, cells := 0, slots := 0, locals := 0 } : Room) s m ([.ref h_me, .int p0, .int p1] : List Value).toArray below meth c H locs 0 0 Qz (F0 m 13 ls [])), ∀ (v1 : Int32) (v3 : Int32) (v4 : Int32) (o_me : Ob) (H : Heap) (locs : List Loc) (ls : Array Slot), bk_X7_awaitChildren_49 o_me_court_isles rec_13_0 v1 v3 v4 o_me = some y → Wd dC dI A s.heap [wX7 h_me h_me_court h_me_court_isles q_me k_me o_me, wX2 h_me_court_isles h_me_court_isles_now q_me_court_isles k_me_court_isles o_me_court_isles] H locs → lv_has ls 5 [(0, .ref h_me), (1, .int v1), (3, .int v3), (4, .int v4)] → W p l e ({ frames := 0, cells := 0, slots := 0, locals := 0 } : Room) s m ([.ref h_me, .int p0, .int p1] : List Value).toArray below meth c H locs 0 0 Qz (F0 m 49 ls []) := by
    intro rec_13_0 hrec_13_0
    intro v1 v3 v4 o_me H locs ls h hw hl
    unfold bk_X7_awaitChildren_49 at h
    obtain ⟨x3, ex3, h⟩ := z_lt h
    refine lv_iinc (v := x3) (lv' := [(4, .int x3), (0, .ref h_me), (1, .int v1), (3, .int v3)]) hx hb dX7_awaitChildren_49 hl (k := 3) rfl ((congrArg (v4 + ·) (show Int32.ofInt (-1) = (-1 : Int32) from by decide)).trans ex3.symm) (by decide) rfl (fun ls hl => ?_)
    refine lv_goto (tgt := 13) hx hb dX7_awaitChildren_52 (by decide) ?_
    exact hrec_13_0 v1 v3 x3 o_me _ _ _ h hw (lv_sub hl [1, 2, 3, 0] rfl)
  have lp_13_0 : ∀ (N : Nat), ∀ (v1 : Int32) (v3 : Int32) (v4 : Int32) (o_me : Ob) (H : Heap) (locs : List Loc) (ls : Array Slot), lp_X7_awaitChildren_13 o_me_court_isles  N (v1, v3, v4, o_me) = some y → Wd dC dI A s.heap [wX7 h_me h_me_court h_me_court_isles q_me k_me o_me, wX2 h_me_court_isles h_me_court_isles_now q_me_court_isles k_me_court_isles o_me_court_isles] H locs → lv_has ls 5 [(0, .ref h_me), (1, .int v1), (3, .int v3), (4, .int v4)] → W p l e ({ frames := 0, cells := 0, slots := 0, locals := 0 } : Room) s m ([.ref h_me, .int p0, .int p1] : List Value).toArray below meth c H locs 0 0 Qz (F0 m 13 ls []) := by
    intro N
    induction N with
    | zero =>
      intro v1 v3 v4 o_me H locs ls h hw hl
      exact absurd (show (none : Option (Int32 × Ob)) = some y from h) (by simp)
    | succ N ih =>
      intro v1 v3 v4 o_me H locs ls h hw hl
      have h : lb_X7_awaitChildren_13 o_me_court_isles  (lp_X7_awaitChildren_13 o_me_court_isles  N) v1 v3 v4 o_me = some y := h
      unfold lb_X7_awaitChildren_13 at h
      refine lv_iload hx hb dX7_awaitChildren_13 (lv_at hl 3 rfl) ?_
      refine lv_if_lt (tgt := 55) hx hb dX7_awaitChildren_15 (by decide) (fun c => ?_) (fun c => ?_)
      · have h := z_t h c
        refine lv_iload_n hx hb dX7_awaitChildren_55 rfl (lv_at hl 2 rfl) ?_
        have hy := Option.some.inj h
        rw [← hQz, ← hy]
        exact xr_i (v := v3) hx hb hr rfl hlk hK hw dX7_awaitChildren_56
      · have h := z_f h c
        refine lv_aload_n hx hb dX7_awaitChildren_18 rfl (lv_at hl 0 rfl) ?_
        refine fgX7_1 hx hb hts hown hK hw 0 rfl kw387 dX7_awaitChildren_19 ?_
        refine fgX2_1 hx hb hts hown hK hw 1 rfl kw302 dX7_awaitChildren_22 ?_
        refine lv_iload hx hb dX7_awaitChildren_25 (lv_at hl 3 rfl) ?_
        obtain ⟨g2, h⟩ := z_gd h
        refine faX2_1 hx hb hK hw 1 rfl rfl g2 dX7_awaitChildren_27 ?_
        refine lv_iload_n hx hb dX7_awaitChildren_28 rfl (lv_at hl 1 rfl) ?_
        refine lv_icmp_ne (tgt := 49) hx hb dX7_awaitChildren_29 (by decide) (fun c => ?_) (fun c => ?_)
        · have h := z_f h c
          exact bk_49_1 (lp_X7_awaitChildren_13 o_me_court_isles  N) ih v1 v3 v4 o_me _ _ _ h hw (lv_sub hl [0, 1, 2, 3] rfl)
        · have h := z_t h c
          refine lv_iload_n hx hb dX7_awaitChildren_32 rfl (lv_at hl 2 rfl) ?_
          refine lv_bipush (v := 7) hx hb dX7_awaitChildren_33 (by decide) ?_
          refine lv_icmp_ge (tgt := 49) hx hb dX7_awaitChildren_35 (by decide) (fun c => ?_) (fun c => ?_)
          · have h := z_t h c
            exact bk_49_1 (lp_X7_awaitChildren_13 o_me_court_isles  N) ih v1 v3 v4 o_me _ _ _ h hw (lv_sub hl [0, 1, 2, 3] rfl)
          · have h := z_f h c
            refine lv_aload_n hx hb dX7_awaitChildren_38 rfl (lv_at hl 0 rfl) ?_
            refine fgX7_3 hx hb hts hown hK hw 0 rfl kw390 dX7_awaitChildren_39 ?_
            refine lv_iload_n hx hb dX7_awaitChildren_42 rfl (lv_at hl 2 rfl) ?_
            refine lv_iload hx hb dX7_awaitChildren_43 (lv_at hl 3 rfl) ?_
            obtain ⟨g4, h⟩ := z_gd h
            refine fbX7_3 hx hb hK hw 0 rfl rfl g4 dX7_awaitChildren_45 (fun H locs hw => ?_)
            obtain ⟨o5, eo5, h⟩ := z_lt h
            have hw : Wd dC dI A s.heap [wX7 h_me h_me_court h_me_court_isles q_me k_me o5, wX2 h_me_court_isles h_me_court_isles_now q_me_court_isles k_me_court_isles o_me_court_isles] H locs := by rw [eo5]; exact hw
            obtain ⟨x6, ex6, h⟩ := z_lt h
            refine lv_iinc (v := x6) (lv' := [(3, .int x6), (0, .ref h_me), (1, .int v1), (4, .int v4)]) hx hb dX7_awaitChildren_46 hl (k := 2) rfl ((congrArg (v3 + ·) (show Int32.ofInt 1 = (1 : Int32) from by decide)).trans ex6.symm) (by decide) rfl (fun ls hl => ?_)
            exact bk_49_1 (lp_X7_awaitChildren_13 o_me_court_isles  N) ih v1 x6 v4 o5 _ _ _ h hw (lv_sub hl [1, 2, 0, 3] rfl)
  unfold f_X7_awaitChildren at h
  refine lv_iload_n hx hb dX7_awaitChildren_0 rfl (lv_at hl 2 rfl) ?_
  refine lv_istore_n (lv' := [(3, .int p1), (0, .ref h_me), (1, .int p0), (2, .int p1)]) hx hb dX7_awaitChildren_1 rfl hl (by decide) rfl (fun ls hl => ?_)
  refine lv_aload_n hx hb dX7_awaitChildren_2 rfl (lv_at hl 1 rfl) ?_
  refine fgX7_1 hx hb hts hown hK hw 0 rfl kw387 dX7_awaitChildren_3 ?_
  refine fgX2_7 hx hb hts hown hK hw 1 rfl kw316 dX7_awaitChildren_6 ?_
  refine lv_iconst (v := 1) hx hb dX7_awaitChildren_9 (by decide) ?_
  refine lv_isub hx hb dX7_awaitChildren_10 ?_
  obtain ⟨x1, ex1, h⟩ := z_lt h
  refine lv_fi (v := x1) ex1.symm ?_
  refine lv_istore (lv' := [(4, .int x1), (3, .int p1), (0, .ref h_me), (1, .int p0), (2, .int p1)]) hx hb dX7_awaitChildren_11 hl (by decide) rfl (fun ls hl => ?_)
  exact lp_13_0  zfu p0 p1 x1 o_me _ _ _ h hw (lv_sub hl [2, 3, 1, 0] rfl)

def bk_X7_elders_33 (o_me : Ob) (o_me_court_isles : Ob) (rec_4_0 : Int32 × Int32 × Int32 → Option (Int32)) (v1 : Int32) (v2 : Int32) (v3 : Int32) : Option (Int32) :=
  zlt (v3 + (1 : Int32)) fun x3 =>
  rec_4_0 (v1, v2, x3)
def lb_X7_elders_4 (o_me : Ob) (o_me_court_isles : Ob)  (rec_4_0 : Int32 × Int32 × Int32 → Option (Int32)) (v1 : Int32) (v2 : Int32) (v3 : Int32) : Option (Int32) :=
  if v1 ≤ v3 then
  (some v2)
  else
  (zgd (zin v3 7) <|
  zgd (zin v1 7) <|
  if (gA o_me_court_isles 1 v3.toNatClampNeg) = (gA o_me_court_isles 1 v1.toNatClampNeg) then
  (zlt (v2 + (1 : Int32)) fun x4 =>
  bk_X7_elders_33 o_me o_me_court_isles rec_4_0 v1 x4 v3)
  else
  (bk_X7_elders_33 o_me o_me_court_isles rec_4_0 v1 v2 v3))
def lp_X7_elders_4 (o_me : Ob) (o_me_court_isles : Ob)  : Nat → (Int32 × Int32 × Int32) → Option (Int32) := zit (fun rec a => lb_X7_elders_4 o_me o_me_court_isles  rec a.1 a.2.1 a.2.2)
def f_X7_elders (o_me : Ob) (o_me_court_isles : Ob) (p0 : Int32) : Option (Int32) :=
  lp_X7_elders_4 o_me o_me_court_isles  zfu (p0, (0 : Int32), (0 : Int32))
set_option maxHeartbeats 4000000 in
set_option maxRecDepth 100000 in
theorem m_X7_elders (l : Launch) (dC : Nat → ClassId) (dI : Nat → Nat → Nat) (sz : Nat) (h_me : Nat) (h_me_court : Nat) (h_me_court_isles : Nat) (h_me_court_isles_now : Nat) (q_me : Nat → Nat) (k_me : Nat → ClassId) (q_me_court_isles : Nat → Nat) (k_me_court_isles : Nat → ClassId) (o_me : Ob) (o_me_court_isles : Ob) (p0 : Int32) (y : Int32) (h : f_X7_elders o_me o_me_court_isles p0 = some y) : CI l yX7_elders cX7_elders 4 (some .int) ({ frames := 0, cells := 0, slots := 0, locals := 0 } : Room) dC dI sz [.ref h_me, .int p0] [wX7 h_me h_me_court h_me_court_isles q_me k_me o_me, wX2 h_me_court_isles h_me_court_isles_now q_me_court_isles k_me_court_isles o_me_court_isles] [tX7 k_me, tX2 k_me_court_isles] y [wX7 h_me h_me_court h_me_court_isles q_me k_me o_me, wX2 h_me_court_isles h_me_court_isles_now q_me_court_isles k_me_court_isles o_me_court_isles] := by
  refine CC_of (by decide) (Nat.le_of_ble_eq_true rfl) ?_
  intro p e s m below meth c A ls hx hb hml hr hlk hnm hown hts hX hK hP hD hA hl
  have hl : lv_has ls 4 [(0, .ref h_me), (1, .int p0)] := hl
  have hown : s.vm.findClass RX7 = some m.cls := hown
  have hw : Wd dC dI A s.heap [wX7 h_me h_me_court h_me_court_isles q_me k_me o_me, wX2 h_me_court_isles h_me_court_isles_now q_me_court_isles k_me_court_isles o_me_court_isles] s.heap [] := ⟨hP, hD, va_S.rf⟩
  generalize hQz : (MQ below (QI dC dI (fun r (_ : Unit) => r = y) (fun _ => Jn [wX7 h_me h_me_court h_me_court_isles q_me k_me o_me, wX2 h_me_court_isles h_me_court_isles_now q_me_court_isles k_me_court_isles o_me_court_isles]) (fun _ => Jt [tX7 k_me, tX2 k_me_court_isles]) A) ([.ref h_me, .int p0] : List Value).toArray s 0 0 A) = Qz
  clear hP hD hnm
  have bk_33_1 : ∀ (rec_4_0 : Int32 × Int32 × Int32 → Option (Int32)) (hrec_4_0 : ∀ (v1 : Int32) (v2 : Int32) (v3 : Int32) (H : Heap) (locs : List Loc) (ls : Array Slot), rec_4_0 (v1, v2, v3) = some y → Wd dC dI A s.heap [wX7 h_me h_me_court h_me_court_isles q_me k_me o_me, wX2 h_me_court_isles h_me_court_isles_now q_me_court_isles k_me_court_isles o_me_court_isles] H locs → lv_has ls 4 [(0, .ref h_me), (1, .int v1), (2, .int v2), (3, .int v3)] → W p l e ({ frames := 0, cells := 0, slots := 0, locals := 0 } : Room) s m ([.ref h_me, .int p0] : List Value).toArray below meth c H locs 0 0 Qz (F0 m 4 ls [])), ∀ (v1 : Int32) (v2 : Int32) (v3 : Int32) (H : Heap) (locs : List Loc) (ls : Array Slot), bk_X7_elders_33 o_me o_me_court_isles rec_4_0 v1 v2 v3 = some y → Wd dC dI A s.heap [wX7 h_me h_me_court h_me_court_isles q_me k_me o_me, wX2 h_me_court_isles h_me_court_isles_now q_me_court_isles k_me_court_isles o_me_court_isles] H locs → lv_has ls 4 [(0, .ref h_me), (1, .int v1), (2, .int v2), (3, .int v3)] → W p l e ({ frames := 0, cells := 0, slots := 0, locals := 0 } : Room) s m ([.ref h_me, .int p0] : List Value).toArray below meth c H locs 0 0 Qz (F0 m 33 ls []) := by
    intro rec_4_0 hrec_4_0
    intro v1 v2 v3 H locs ls h hw hl
    unfold bk_X7_elders_33 at h
    obtain ⟨x3, ex3, h⟩ := z_lt h
    refine lv_iinc (v := x3) (lv' := [(3, .int x3), (0, .ref h_me), (1, .int v1), (2, .int v2)]) hx hb dX7_elders_33 hl (k := 3) rfl ((congrArg (v3 + ·) (show Int32.ofInt 1 = (1 : Int32) from by decide)).trans ex3.symm) (by decide) rfl (fun ls hl => ?_)
    refine lv_goto (tgt := 4) hx hb dX7_elders_36 (by decide) ?_
    exact hrec_4_0 v1 v2 x3 _ _ _ h hw (lv_sub hl [1, 2, 3, 0] rfl)
  have lp_4_0 : ∀ (N : Nat), ∀ (v1 : Int32) (v2 : Int32) (v3 : Int32) (H : Heap) (locs : List Loc) (ls : Array Slot), lp_X7_elders_4 o_me o_me_court_isles  N (v1, v2, v3) = some y → Wd dC dI A s.heap [wX7 h_me h_me_court h_me_court_isles q_me k_me o_me, wX2 h_me_court_isles h_me_court_isles_now q_me_court_isles k_me_court_isles o_me_court_isles] H locs → lv_has ls 4 [(0, .ref h_me), (1, .int v1), (2, .int v2), (3, .int v3)] → W p l e ({ frames := 0, cells := 0, slots := 0, locals := 0 } : Room) s m ([.ref h_me, .int p0] : List Value).toArray below meth c H locs 0 0 Qz (F0 m 4 ls []) := by
    intro N
    induction N with
    | zero =>
      intro v1 v2 v3 H locs ls h hw hl
      exact absurd (show (none : Option (Int32)) = some y from h) (by simp)
    | succ N ih =>
      intro v1 v2 v3 H locs ls h hw hl
      have h : lb_X7_elders_4 o_me o_me_court_isles  (lp_X7_elders_4 o_me o_me_court_isles  N) v1 v2 v3 = some y := h
      unfold lb_X7_elders_4 at h
      refine lv_iload_n hx hb dX7_elders_4 rfl (lv_at hl 3 rfl) ?_
      refine lv_iload_n hx hb dX7_elders_5 rfl (lv_at hl 1 rfl) ?_
      refine lv_icmp_ge (tgt := 39) hx hb dX7_elders_6 (by decide) (fun c => ?_) (fun c => ?_)
      · have h := z_t h c
        refine lv_iload_n hx hb dX7_elders_39 rfl (lv_at hl 2 rfl) ?_
        have hy := Option.some.inj h
        rw [← hQz, ← hy]
        exact xr_i (v := v2) hx hb hr rfl hlk hK hw dX7_elders_40
      · have h := z_f h c
        refine lv_aload_n hx hb dX7_elders_9 rfl (lv_at hl 0 rfl) ?_
        refine fgX7_1 hx hb hts hown hK hw 0 rfl kw387 dX7_elders_10 ?_
        refine fgX2_1 hx hb hts hown hK hw 1 rfl kw302 dX7_elders_13 ?_
        refine lv_iload_n hx hb dX7_elders_16 rfl (lv_at hl 3 rfl) ?_
        obtain ⟨g1, h⟩ := z_gd h
        refine faX2_1 hx hb hK hw 1 rfl rfl g1 dX7_elders_17 ?_
        refine lv_aload_n hx hb dX7_elders_18 rfl (lv_at hl 0 rfl) ?_
        refine fgX7_1 hx hb hts hown hK hw 0 rfl kw387 dX7_elders_19 ?_
        refine fgX2_1 hx hb hts hown hK hw 1 rfl kw302 dX7_elders_22 ?_
        refine lv_iload_n hx hb dX7_elders_25 rfl (lv_at hl 1 rfl) ?_
        obtain ⟨g2, h⟩ := z_gd h
        refine faX2_1 hx hb hK hw 1 rfl rfl g2 dX7_elders_26 ?_
        refine lv_icmp_ne (tgt := 33) hx hb dX7_elders_27 (by decide) (fun c => ?_) (fun c => ?_)
        · have h := z_f h c
          exact bk_33_1 (lp_X7_elders_4 o_me o_me_court_isles  N) ih v1 v2 v3 _ _ _ h hw (lv_sub hl [0, 1, 2, 3] rfl)
        · have h := z_t h c
          obtain ⟨x4, ex4, h⟩ := z_lt h
          refine lv_iinc (v := x4) (lv' := [(2, .int x4), (0, .ref h_me), (1, .int v1), (3, .int v3)]) hx hb dX7_elders_30 hl (k := 2) rfl ((congrArg (v2 + ·) (show Int32.ofInt 1 = (1 : Int32) from by decide)).trans ex4.symm) (by decide) rfl (fun ls hl => ?_)
          exact bk_33_1 (lp_X7_elders_4 o_me o_me_court_isles  N) ih v1 x4 v3 _ _ _ h hw (lv_sub hl [1, 2, 0, 3] rfl)
  unfold f_X7_elders at h
  refine lv_iconst (v := 0) hx hb dX7_elders_0 (by decide) ?_
  refine lv_istore_n (lv' := [(2, .int (0 : Int32)), (0, .ref h_me), (1, .int p0)]) hx hb dX7_elders_1 rfl hl (by decide) rfl (fun ls hl => ?_)
  refine lv_iconst (v := 0) hx hb dX7_elders_2 (by decide) ?_
  refine lv_istore_n (lv' := [(3, .int (0 : Int32)), (2, .int (0 : Int32)), (0, .ref h_me), (1, .int p0)]) hx hb dX7_elders_3 rfl hl (by decide) rfl (fun ls hl => ?_)
  exact lp_4_0  zfu p0 (0 : Int32) (0 : Int32) _ _ _ h hw (lv_sub hl [2, 3, 1, 0] rfl)

def bk_X7_lineOfHeirs_58 (o_me_court_isles : Ob) (rec_11_0 : Int32 × Int32 × Int32 × Ob → Option (Int32 × Ob)) (v1 : Int32) (v2 : Int32) (v3 : Int32) (v4 : Int32) (o_me : Ob) : Option (Int32 × Ob) :=
  (f_X7_awaitChildren o_me o_me_court_isles v4 v2).bind fun z6 =>
  zlt (v3 + (1 : Int32)) fun x7 =>
  rec_11_0 (v1, z6.1, x7, z6.2)
def lb_X7_lineOfHeirs_11 (o_me_court_isles : Ob)  (rec_11_0 : Int32 × Int32 × Int32 × Ob → Option (Int32 × Ob)) (v1 : Int32) (v2 : Int32) (v3 : Int32) (o_me : Ob) : Option (Int32 × Ob) :=
  if (gI o_me_court_isles 7) ≤ v3 then
  (some (v1, o_me))
  else
  (if v2 ≤ (0 : Int32) then
  (some (v1, o_me))
  else
  (zlt (v2 + (-1 : Int32)) fun x2 =>
  zgd (zin x2 7) <|
  zlt (gA o_me 3 x2.toNatClampNeg) fun x4 =>
  (f_X7_elders o_me o_me_court_isles x4).bind fun z5 =>
  if z5 = (1 : Int32) then
  (bk_X7_lineOfHeirs_58 o_me_court_isles rec_11_0 v1 x2 v3 x4 o_me)
  else
  (zgd (zin v1 7) <|
  zlt (tA o_me 2 v1.toNatClampNeg x4) fun o9 =>
  zlt (v1 + (1 : Int32)) fun x10 =>
  bk_X7_lineOfHeirs_58 o_me_court_isles rec_11_0 x10 x2 v3 x4 o9)))
def lp_X7_lineOfHeirs_11 (o_me_court_isles : Ob)  : Nat → (Int32 × Int32 × Int32 × Ob) → Option (Int32 × Ob) := zit (fun rec a => lb_X7_lineOfHeirs_11 o_me_court_isles  rec a.1 a.2.1 a.2.2.1 a.2.2.2)
def f_X7_lineOfHeirs (o_me : Ob) (o_me_court_isles : Ob) : Option (Int32 × Ob) :=
  (f_X7_awaitChildren o_me o_me_court_isles (-1 : Int32) (0 : Int32)).bind fun z1 =>
  lp_X7_lineOfHeirs_11 o_me_court_isles  zfu ((0 : Int32), z1.1, (0 : Int32), z1.2)
set_option maxHeartbeats 4000000 in
set_option maxRecDepth 100000 in
theorem m_X7_lineOfHeirs (l : Launch) (dC : Nat → ClassId) (dI : Nat → Nat → Nat) (sz : Nat) (h_me : Nat) (h_me_court : Nat) (h_me_court_isles : Nat) (h_me_court_isles_now : Nat) (q_me : Nat → Nat) (k_me : Nat → ClassId) (q_me_court_isles : Nat → Nat) (k_me_court_isles : Nat → ClassId) (o_me : Ob) (o_me_court_isles : Ob) (y : Int32 × Ob) (h : f_X7_lineOfHeirs o_me o_me_court_isles = some y) : CI l yX7_lineOfHeirs cX7_lineOfHeirs 5 (some .int) ({ frames := 1, cells := 0, slots := 0, locals := 24 } : Room) dC dI sz [.ref h_me] [wX7 h_me h_me_court h_me_court_isles q_me k_me o_me, wX2 h_me_court_isles h_me_court_isles_now q_me_court_isles k_me_court_isles o_me_court_isles] [tX7 k_me, tX2 k_me_court_isles] y.1 [wX7 h_me h_me_court h_me_court_isles q_me k_me y.2, wX2 h_me_court_isles h_me_court_isles_now q_me_court_isles k_me_court_isles o_me_court_isles] := by
  refine CC_of (by decide) (Nat.le_of_ble_eq_true rfl) ?_
  intro p e s m below meth c A ls hx hb hml hr hlk hnm hown hts hX hK hP hD hA hl
  have hl : lv_has ls 5 [(0, .ref h_me)] := hl
  have hown : s.vm.findClass RX7 = some m.cls := hown
  have hw : Wd dC dI A s.heap [wX7 h_me h_me_court h_me_court_isles q_me k_me o_me, wX2 h_me_court_isles h_me_court_isles_now q_me_court_isles k_me_court_isles o_me_court_isles] s.heap [] := ⟨hP, hD, va_S.rf⟩
  generalize hQz : (MQ below (QI dC dI (fun r (_ : Unit) => r = y.1) (fun _ => Jn [wX7 h_me h_me_court h_me_court_isles q_me k_me y.2, wX2 h_me_court_isles h_me_court_isles_now q_me_court_isles k_me_court_isles o_me_court_isles]) (fun _ => Jt [tX7 k_me, tX2 k_me_court_isles]) A) ([.ref h_me] : List Value).toArray s 0 0 A) = Qz
  clear hP hD hnm
  have bk_58_1 : ∀ (rec_11_0 : Int32 × Int32 × Int32 × Ob → Option (Int32 × Ob)) (hrec_11_0 : ∀ (v1 : Int32) (v2 : Int32) (v3 : Int32) (o_me : Ob) (H : Heap) (locs : List Loc) (ls : Array Slot), rec_11_0 (v1, v2, v3, o_me) = some y → Wd dC dI A s.heap [wX7 h_me h_me_court h_me_court_isles q_me k_me o_me, wX2 h_me_court_isles h_me_court_isles_now q_me_court_isles k_me_court_isles o_me_court_isles] H locs → lv_has ls 5 [(0, .ref h_me), (1, .int v1), (2, .int v2), (3, .int v3)] → W p l e ({ frames := 1, cells := 0, slots := 0, locals := 24 } : Room) s m ([.ref h_me] : List Value).toArray below meth c H locs 0 0 Qz (F0 m 11 ls [])), ∀ (v1 : Int32) (v2 : Int32) (v3 : Int32) (v4 : Int32) (o_me : Ob) (H : Heap) (locs : List Loc) (ls : Array Slot), bk_X7_lineOfHeirs_58 o_me_court_isles rec_11_0 v1 v2 v3 v4 o_me = some y → Wd dC dI A s.heap [wX7 h_me h_me_court h_me_court_isles q_me k_me o_me, wX2 h_me_court_isles h_me_court_isles_now q_me_court_isles k_me_court_isles o_me_court_isles] H locs → lv_has ls 5 [(0, .ref h_me), (1, .int v1), (2, .int v2), (3, .int v3), (4, .int v4)] → W p l e ({ frames := 1, cells := 0, slots := 0, locals := 24 } : Room) s m ([.ref h_me] : List Value).toArray below meth c H locs 0 0 Qz (F0 m 58 ls []) := by
    intro rec_11_0 hrec_11_0
    intro v1 v2 v3 v4 o_me H locs ls h hw hl
    unfold bk_X7_lineOfHeirs_58 at h
    refine lv_aload_n hx hb dX7_lineOfHeirs_58 rfl (lv_at hl 0 rfl) ?_
    refine lv_iload hx hb dX7_lineOfHeirs_59 (lv_at hl 4 rfl) ?_
    refine lv_iload_n hx hb dX7_lineOfHeirs_61 rfl (lv_at hl 2 rfl) ?_
    obtain ⟨z6, ez6, h⟩ := z_bd h
    refine xj_i (xrV (As := [.int v4, .int v2]) (rest := []) ⟨hx, hb, hml, hown, hts⟩ (m_X7_awaitChildren l dC dI _ h_me h_me_court h_me_court_isles h_me_court_isles_now q_me k_me q_me_court_isles k_me_court_isles o_me o_me_court_isles v4 v2 z6 ez6) kw1069 kw1066 kw1068 kw37 kw118 hd_X7_awaitChildren ⟨rfl, rfl⟩ rfl rfl ⟨rfl, rfl⟩ hX hK hw [0, 1] (by decide) rfl rfl rfl rfl rfl hl.1 rfl rfl dX7_lineOfHeirs_62) hw hA [0, 1] (by decide) rfl rfl (fun H locs hw => ?_)
    have hw : Wd dC dI A s.heap [wX7 h_me h_me_court h_me_court_isles q_me k_me z6.2, wX2 h_me_court_isles h_me_court_isles_now q_me_court_isles k_me_court_isles o_me_court_isles] H locs := hw
    refine lv_istore_n (lv' := [(2, .int z6.1), (0, .ref h_me), (1, .int v1), (3, .int v3), (4, .int v4)]) hx hb dX7_lineOfHeirs_65 rfl hl (by decide) rfl (fun ls hl => ?_)
    obtain ⟨x7, ex7, h⟩ := z_lt h
    refine lv_iinc (v := x7) (lv' := [(3, .int x7), (2, .int z6.1), (0, .ref h_me), (1, .int v1), (4, .int v4)]) hx hb dX7_lineOfHeirs_66 hl (k := 3) rfl ((congrArg (v3 + ·) (show Int32.ofInt 1 = (1 : Int32) from by decide)).trans ex7.symm) (by decide) rfl (fun ls hl => ?_)
    refine lv_goto (tgt := 11) hx hb dX7_lineOfHeirs_69 (by decide) ?_
    exact hrec_11_0 v1 z6.1 x7 z6.2 _ _ _ h hw (lv_sub hl [2, 3, 1, 0] rfl)
  have lp_11_0 : ∀ (N : Nat), ∀ (v1 : Int32) (v2 : Int32) (v3 : Int32) (o_me : Ob) (H : Heap) (locs : List Loc) (ls : Array Slot), lp_X7_lineOfHeirs_11 o_me_court_isles  N (v1, v2, v3, o_me) = some y → Wd dC dI A s.heap [wX7 h_me h_me_court h_me_court_isles q_me k_me o_me, wX2 h_me_court_isles h_me_court_isles_now q_me_court_isles k_me_court_isles o_me_court_isles] H locs → lv_has ls 5 [(0, .ref h_me), (1, .int v1), (2, .int v2), (3, .int v3)] → W p l e ({ frames := 1, cells := 0, slots := 0, locals := 24 } : Room) s m ([.ref h_me] : List Value).toArray below meth c H locs 0 0 Qz (F0 m 11 ls []) := by
    intro N
    induction N with
    | zero =>
      intro v1 v2 v3 o_me H locs ls h hw hl
      exact absurd (show (none : Option (Int32 × Ob)) = some y from h) (by simp)
    | succ N ih =>
      intro v1 v2 v3 o_me H locs ls h hw hl
      have h : lb_X7_lineOfHeirs_11 o_me_court_isles  (lp_X7_lineOfHeirs_11 o_me_court_isles  N) v1 v2 v3 o_me = some y := h
      unfold lb_X7_lineOfHeirs_11 at h
      refine lv_iload_n hx hb dX7_lineOfHeirs_11 rfl (lv_at hl 3 rfl) ?_
      refine lv_aload_n hx hb dX7_lineOfHeirs_12 rfl (lv_at hl 0 rfl) ?_
      refine fgX7_1 hx hb hts hown hK hw 0 rfl kw387 dX7_lineOfHeirs_13 ?_
      refine fgX2_7 hx hb hts hown hK hw 1 rfl kw316 dX7_lineOfHeirs_16 ?_
      refine lv_icmp_ge (tgt := 72) hx hb dX7_lineOfHeirs_19 (by decide) (fun c => ?_) (fun c => ?_)
      · have h := z_t h c
        refine lv_iload_n hx hb dX7_lineOfHeirs_72 rfl (lv_at hl 1 rfl) ?_
        have hy := Option.some.inj h
        rw [← hQz, ← hy]
        exact xr_i (v := v1) hx hb hr rfl hlk hK hw dX7_lineOfHeirs_73
      · have h := z_f h c
        refine lv_iload_n hx hb dX7_lineOfHeirs_22 rfl (lv_at hl 2 rfl) ?_
        refine lv_if_le (tgt := 72) hx hb dX7_lineOfHeirs_23 (by decide) (fun c => ?_) (fun c => ?_)
        · have h := z_t h c
          refine lv_iload_n hx hb dX7_lineOfHeirs_72 rfl (lv_at hl 1 rfl) ?_
          have hy := Option.some.inj h
          rw [← hQz, ← hy]
          exact xr_i (v := v1) hx hb hr rfl hlk hK hw dX7_lineOfHeirs_73
        · have h := z_f h c
          obtain ⟨x2, ex2, h⟩ := z_lt h
          refine lv_iinc (v := x2) (lv' := [(2, .int x2), (0, .ref h_me), (1, .int v1), (3, .int v3)]) hx hb dX7_lineOfHeirs_26 hl (k := 2) rfl ((congrArg (v2 + ·) (show Int32.ofInt (-1) = (-1 : Int32) from by decide)).trans ex2.symm) (by decide) rfl (fun ls hl => ?_)
          refine lv_aload_n hx hb dX7_lineOfHeirs_29 rfl (lv_at hl 1 rfl) ?_
          refine fgX7_3 hx hb hts hown hK hw 0 rfl kw390 dX7_lineOfHeirs_30 ?_
          refine lv_iload_n hx hb dX7_lineOfHeirs_33 rfl (lv_at hl 0 rfl) ?_
          obtain ⟨g3, h⟩ := z_gd h
          refine faX7_3 hx hb hK hw 0 rfl rfl g3 dX7_lineOfHeirs_34 ?_
          obtain ⟨x4, ex4, h⟩ := z_lt h
          refine lv_fi (v := x4) ex4.symm ?_
          refine lv_istore (lv' := [(4, .int x4), (2, .int x2), (0, .ref h_me), (1, .int v1), (3, .int v3)]) hx hb dX7_lineOfHeirs_35 hl (by decide) rfl (fun ls hl => ?_)
          refine lv_aload_n hx hb dX7_lineOfHeirs_37 rfl (lv_at hl 2 rfl) ?_
          refine lv_iload hx hb dX7_lineOfHeirs_38 (lv_at hl 0 rfl) ?_
          obtain ⟨z5, ez5, h⟩ := z_bd h
          refine xj_i (xrV (As := [.int x4]) (rest := []) ⟨hx, hb, hml, hown, hts⟩ (m_X7_elders l dC dI _ h_me h_me_court h_me_court_isles h_me_court_isles_now q_me k_me q_me_court_isles k_me_court_isles o_me o_me_court_isles x4 z5 ez5) kw1073 kw1070 kw1072 kw38 kw118 hd_X7_elders ⟨rfl, rfl⟩ rfl rfl ⟨rfl, rfl⟩ hX hK hw [0, 1] (by decide) rfl rfl rfl rfl rfl hl.1 rfl rfl dX7_lineOfHeirs_40) hw hA [0, 1] (by decide) rfl rfl (fun H locs hw => ?_)
          have hw : Wd dC dI A s.heap [wX7 h_me h_me_court h_me_court_isles q_me k_me o_me, wX2 h_me_court_isles h_me_court_isles_now q_me_court_isles k_me_court_isles o_me_court_isles] H locs := hw
          refine lv_iconst (v := 1) hx hb dX7_lineOfHeirs_43 (by decide) ?_
          refine lv_icmp_eq (tgt := 58) hx hb dX7_lineOfHeirs_44 (by decide) (fun c => ?_) (fun c => ?_)
          · have h := z_t h c
            exact bk_58_1 (lp_X7_lineOfHeirs_11 o_me_court_isles  N) ih v1 x2 v3 x4 o_me _ _ _ h hw (lv_sub hl [2, 3, 1, 4, 0] rfl)
          · have h := z_f h c
            refine lv_aload_n hx hb dX7_lineOfHeirs_47 rfl (lv_at hl 2 rfl) ?_
            refine fgX7_2 hx hb hts hown hK hw 0 rfl kw388 dX7_lineOfHeirs_48 ?_
            refine lv_iload_n hx hb dX7_lineOfHeirs_51 rfl (lv_at hl 3 rfl) ?_
            refine lv_iload hx hb dX7_lineOfHeirs_52 (lv_at hl 0 rfl) ?_
            obtain ⟨g8, h⟩ := z_gd h
            refine fbX7_2 hx hb hK hw 0 rfl rfl g8 dX7_lineOfHeirs_54 (fun H locs hw => ?_)
            obtain ⟨o9, eo9, h⟩ := z_lt h
            have hw : Wd dC dI A s.heap [wX7 h_me h_me_court h_me_court_isles q_me k_me o9, wX2 h_me_court_isles h_me_court_isles_now q_me_court_isles k_me_court_isles o_me_court_isles] H locs := by rw [eo9]; exact hw
            obtain ⟨x10, ex10, h⟩ := z_lt h
            refine lv_iinc (v := x10) (lv' := [(1, .int x10), (4, .int x4), (2, .int x2), (0, .ref h_me), (3, .int v3)]) hx hb dX7_lineOfHeirs_55 hl (k := 3) rfl ((congrArg (v1 + ·) (show Int32.ofInt 1 = (1 : Int32) from by decide)).trans ex10.symm) (by decide) rfl (fun ls hl => ?_)
            exact bk_58_1 (lp_X7_lineOfHeirs_11 o_me_court_isles  N) ih x10 x2 v3 x4 o9 _ _ _ h hw (lv_sub hl [3, 0, 2, 4, 1] rfl)
  unfold f_X7_lineOfHeirs at h
  refine lv_iconst (v := 0) hx hb dX7_lineOfHeirs_0 (by decide) ?_
  refine lv_istore_n (lv' := [(1, .int (0 : Int32)), (0, .ref h_me)]) hx hb dX7_lineOfHeirs_1 rfl hl (by decide) rfl (fun ls hl => ?_)
  refine lv_aload_n hx hb dX7_lineOfHeirs_2 rfl (lv_at hl 1 rfl) ?_
  refine lv_iconst (v := (-1)) hx hb dX7_lineOfHeirs_3 (by decide) ?_
  refine lv_iconst (v := 0) hx hb dX7_lineOfHeirs_4 (by decide) ?_
  obtain ⟨z1, ez1, h⟩ := z_bd h
  refine xj_i (xrV (As := [.int (-1 : Int32), .int (0 : Int32)]) (rest := []) ⟨hx, hb, hml, hown, hts⟩ (m_X7_awaitChildren l dC dI _ h_me h_me_court h_me_court_isles h_me_court_isles_now q_me k_me q_me_court_isles k_me_court_isles o_me o_me_court_isles (-1 : Int32) (0 : Int32) z1 ez1) kw1069 kw1066 kw1068 kw37 kw118 hd_X7_awaitChildren ⟨rfl, rfl⟩ rfl rfl ⟨rfl, rfl⟩ hX hK hw [0, 1] (by decide) rfl rfl rfl rfl rfl hl.1 rfl rfl dX7_lineOfHeirs_5) hw hA [0, 1] (by decide) rfl rfl (fun H locs hw => ?_)
  have hw : Wd dC dI A s.heap [wX7 h_me h_me_court h_me_court_isles q_me k_me z1.2, wX2 h_me_court_isles h_me_court_isles_now q_me_court_isles k_me_court_isles o_me_court_isles] H locs := hw
  refine lv_istore_n (lv' := [(2, .int z1.1), (1, .int (0 : Int32)), (0, .ref h_me)]) hx hb dX7_lineOfHeirs_8 rfl hl (by decide) rfl (fun ls hl => ?_)
  refine lv_iconst (v := 0) hx hb dX7_lineOfHeirs_9 (by decide) ?_
  refine lv_istore_n (lv' := [(3, .int (0 : Int32)), (2, .int z1.1), (1, .int (0 : Int32)), (0, .ref h_me)]) hx hb dX7_lineOfHeirs_10 rfl hl (by decide) rfl (fun ls hl => ?_)
  exact lp_11_0  zfu (0 : Int32) z1.1 (0 : Int32) z1.2 _ _ _ h hw (lv_sub hl [3, 2, 1, 0] rfl)

def f_X8_heir (o_me : Ob) (o_me_isles : Ob) (o_me_study : Ob) (p0 : Int32) : Option (Int32 × Ob) :=
  if (-1 : Int32) ≤ p0 then
  ((f_X7_lineOfHeirs o_me_study o_me_isles).bind fun z1 =>
  if p0 = (-1 : Int32) then
  (some (z1.1, z1.2))
  else
  (if z1.1 ≤ p0 then
  (some ((-1 : Int32), z1.2))
  else
  (zgd (zin p0 7) <|
  some (gA z1.2 2 p0.toNatClampNeg, z1.2))))
  else
  (some ((-1 : Int32), o_me_study))
set_option maxHeartbeats 4000000 in
set_option maxRecDepth 100000 in
theorem m_X8_heir (l : Launch) (dC : Nat → ClassId) (dI : Nat → Nat → Nat) (sz : Nat) (h_me : Nat) (h_me_reader : Nat) (h_me_machine : Nat) (h_me_isles : Nat) (h_me_court : Nat) (h_me_study : Nat) (h_me_paper : Nat) (h_me_paperCourt : Nat) (h_me_past : Nat) (h_me_pastAhead : Nat) (h_me_movingAhead : Nat) (h_me_isles_now : Nat) (q_me : Nat → Nat) (k_me : Nat → ClassId) (q_me_isles : Nat → Nat) (k_me_isles : Nat → ClassId) (q_me_study : Nat → Nat) (k_me_study : Nat → ClassId) (o_me : Ob) (o_me_isles : Ob) (o_me_study : Ob) (p0 : Int32) (y : Int32 × Ob) (h : f_X8_heir o_me o_me_isles o_me_study p0 = some y) : CI l yX8_heir cX8_heir 3 (some .int) ({ frames := 2, cells := 0, slots := 0, locals := 48 } : Room) dC dI sz [.ref h_me, .int p0] [wX8 h_me h_me_reader h_me_machine h_me_isles h_me_court h_me_study h_me_paper h_me_paperCourt h_me_past h_me_pastAhead h_me_movingAhead q_me k_me o_me, wX2 h_me_isles h_me_isles_now q_me_isles k_me_isles o_me_isles, wX7 h_me_study h_me_court h_me_isles q_me_study k_me_study o_me_study] [tX8 k_me, tX2 k_me_isles, tX7 k_me_study] y.1 [wX8 h_me h_me_reader h_me_machine h_me_isles h_me_court h_me_study h_me_paper h_me_paperCourt h_me_past h_me_pastAhead h_me_movingAhead q_me k_me o_me, wX2 h_me_isles h_me_isles_now q_me_isles k_me_isles o_me_isles, wX7 h_me_study h_me_court h_me_isles q_me_study k_me_study y.2] := by
  refine CC_of (by decide) (Nat.le_of_ble_eq_true rfl) ?_
  intro p e s m below meth c A ls hx hb hml hr hlk hnm hown hts hX hK hP hD hA hl
  have hl : lv_has ls 3 [(0, .ref h_me), (1, .int p0)] := hl
  have hown : s.vm.findClass RX8 = some m.cls := hown
  have hw : Wd dC dI A s.heap [wX8 h_me h_me_reader h_me_machine h_me_isles h_me_court h_me_study h_me_paper h_me_paperCourt h_me_past h_me_pastAhead h_me_movingAhead q_me k_me o_me, wX2 h_me_isles h_me_isles_now q_me_isles k_me_isles o_me_isles, wX7 h_me_study h_me_court h_me_isles q_me_study k_me_study o_me_study] s.heap [] := ⟨hP, hD, va_S.rf⟩
  generalize hQz : (MQ below (QI dC dI (fun r (_ : Unit) => r = y.1) (fun _ => Jn [wX8 h_me h_me_reader h_me_machine h_me_isles h_me_court h_me_study h_me_paper h_me_paperCourt h_me_past h_me_pastAhead h_me_movingAhead q_me k_me o_me, wX2 h_me_isles h_me_isles_now q_me_isles k_me_isles o_me_isles, wX7 h_me_study h_me_court h_me_isles q_me_study k_me_study y.2]) (fun _ => Jt [tX8 k_me, tX2 k_me_isles, tX7 k_me_study]) A) ([.ref h_me, .int p0] : List Value).toArray s 0 0 A) = Qz
  clear hP hD hnm
  unfold f_X8_heir at h
  refine lv_iload_n hx hb dX8_heir_0 rfl (lv_at hl 1 rfl) ?_
  refine lv_iconst (v := (-1)) hx hb dX8_heir_1 (by decide) ?_
  refine lv_icmp_ge (tgt := 7) hx hb dX8_heir_2 (by decide) (fun c => ?_) (fun c => ?_)
  · have h := z_t h c
    refine lv_aload_n hx hb dX8_heir_7 rfl (lv_at hl 0 rfl) ?_
    refine fgX8_4 hx hb hts hown hK hw 0 rfl kw446 dX8_heir_8 ?_
    obtain ⟨z1, ez1, h⟩ := z_bd h
    refine xj_i (xrV (As := []) (rest := []) ⟨hx, hb, hml, hown, hts⟩ (m_X7_lineOfHeirs l dC dI _ h_me_study h_me_court h_me_isles h_me_isles_now q_me_study k_me_study q_me_isles k_me_isles o_me_study o_me_isles z1 ez1) kw1065 kw1062 kw1063 kw1064 kw118 hd_X7_lineOfHeirs ⟨rfl, rfl⟩ rfl rfl ⟨rfl, rfl⟩ hX hK hw [2, 1] (by decide) rfl rfl rfl rfl rfl hl.1 rfl rfl dX8_heir_11) hw hA [2, 1] (by decide) rfl rfl (fun H locs hw => ?_)
    have hw : Wd dC dI A s.heap [wX8 h_me h_me_reader h_me_machine h_me_isles h_me_court h_me_study h_me_paper h_me_paperCourt h_me_past h_me_pastAhead h_me_movingAhead q_me k_me o_me, wX2 h_me_isles h_me_isles_now q_me_isles k_me_isles o_me_isles, wX7 h_me_study h_me_court h_me_isles q_me_study k_me_study z1.2] H locs := hw
    refine lv_istore_n (lv' := [(2, .int z1.1), (0, .ref h_me), (1, .int p0)]) hx hb dX8_heir_14 rfl hl (by decide) rfl (fun ls hl => ?_)
    refine lv_iload_n hx hb dX8_heir_15 rfl (lv_at hl 2 rfl) ?_
    refine lv_iconst (v := (-1)) hx hb dX8_heir_16 (by decide) ?_
    refine lv_icmp_ne (tgt := 22) hx hb dX8_heir_17 (by decide) (fun c => ?_) (fun c => ?_)
    · have h := z_f h c
      refine lv_iload_n hx hb dX8_heir_22 rfl (lv_at hl 2 rfl) ?_
      refine lv_iload_n hx hb dX8_heir_23 rfl (lv_at hl 0 rfl) ?_
      refine lv_icmp_ge (tgt := 39) hx hb dX8_heir_24 (by decide) (fun c => ?_) (fun c => ?_)
      · have h := z_t h c
        refine lv_iconst (v := (-1)) hx hb dX8_heir_39 (by decide) ?_
        have hy := Option.some.inj h
        rw [← hQz, ← hy]
        exact xr_i (v := (-1 : Int32)) hx hb hr rfl hlk hK hw dX8_heir_40
      · have h := z_f h c
        refine lv_aload_n hx hb dX8_heir_27 rfl (lv_at hl 1 rfl) ?_
        refine fgX8_4 hx hb hts hown hK hw 0 rfl kw446 dX8_heir_28 ?_
        refine fgX7_2 hx hb hts hown hK hw 2 rfl kw389 dX8_heir_31 ?_
        refine lv_iload_n hx hb dX8_heir_34 rfl (lv_at hl 2 rfl) ?_
        obtain ⟨g2, h⟩ := z_gd h
        refine faX7_2 hx hb hK hw 2 rfl rfl g2 dX8_heir_35 ?_
        refine lv_goto (tgt := 40) hx hb dX8_heir_36 (by decide) ?_
        have hy := Option.some.inj h
        rw [← hQz, ← hy]
        exact xr_i (v := gA z1.2 2 p0.toNatClampNeg) hx hb hr rfl hlk hK hw dX8_heir_40
    · have h := z_t h c
      refine lv_iload_n hx hb dX8_heir_20 rfl (lv_at hl 0 rfl) ?_
      have hy := Option.some.inj h
      rw [← hQz, ← hy]
      exact xr_i (v := z1.1) hx hb hr rfl hlk hK hw dX8_heir_21
  · have h := z_f h c
    refine lv_iconst (v := (-1)) hx hb dX8_heir_5 (by decide) ?_
    have hy := Option.some.inj h
    rw [← hQz, ← hy]
    exact xr_i (v := (-1 : Int32)) hx hb hr rfl hlk hK hw dX8_heir_6

def bk_X7_waysUp_77   (v1 : Int32) (o_me : Ob) : Option (Int64 × Ob) :=
  if v1 < (0 : Int32) then
  (some ((-1 : Int64), o_me))
  else
  (if (60 : Int32) < v1 then
  (some ((-1 : Int64), o_me))
  else
  (zgd (zin v1 61) <|
  some (gM o_me 7 v1.toNatClampNeg, o_me)))
def bk_X7_waysUp_63  (rec_9_0 : Int32 × Int32 × Int32 × Ob → Option (Int64 × Ob)) (v1 : Int32) (v2 : Int32) (v3 : Int32) (v4 : Int64) (o_me : Ob) : Option (Int64 × Ob) :=
  zgd (zin v3 61) <|
  zlt (tM o_me 7 v3.toNatClampNeg v4) fun o4 =>
  zlt (v3 + (1 : Int32)) fun x5 =>
  rec_9_0 (v1, v2, x5, o4)
def lb_X7_waysUp_26  (rec_9_0 : Int32 × Int32 × Int32 × Ob → Option (Int64 × Ob)) (rec_26_2 : Int32 × Int32 × Int32 × Int64 × Int32 × Ob → Option (Int64 × Ob)) (v1 : Int32) (v2 : Int32) (v3 : Int32) (v4 : Int64) (v6 : Int32) (o_me : Ob) : Option (Int64 × Ob) :=
  if v2 < v6 then
  (bk_X7_waysUp_63  rec_9_0 v1 v2 v3 v4 o_me)
  else
  (if v3 < v6 then
  (bk_X7_waysUp_63  rec_9_0 v1 v2 v3 v4 o_me)
  else
  (if v3 = (2 : Int32) then
  (bk_X7_waysUp_63  rec_9_0 v1 v2 v3 v4 o_me)
  else
  (zgd (zin (v3 - v6) 61) <|
  zlt (v4 + (gM o_me 7 (v3 - v6).toNatClampNeg)) fun x7 =>
  zlt (v6 + (1 : Int32)) fun x8 =>
  rec_26_2 (v1, v2, v3, x7, x8, o_me))))
def lp_X7_waysUp_26  (rec_9_0 : Int32 × Int32 × Int32 × Ob → Option (Int64 × Ob)) : Nat → (Int32 × Int32 × Int32 × Int64 × Int32 × Ob) → Option (Int64 × Ob) := zit (fun rec a => lb_X7_waysUp_26  rec_9_0 rec a.1 a.2.1 a.2.2.1 a.2.2.2.1 a.2.2.2.2.1 a.2.2.2.2.2)
def lb_X7_waysUp_9   (rec_9_0 : Int32 × Int32 × Int32 × Ob → Option (Int64 × Ob)) (v1 : Int32) (v2 : Int32) (v3 : Int32) (o_me : Ob) : Option (Int64 × Ob) :=
  if v1 < v3 then
  (bk_X7_waysUp_77   v1 o_me)
  else
  (if (60 : Int32) < v3 then
  (bk_X7_waysUp_77   v1 o_me)
  else
  (lp_X7_waysUp_26  rec_9_0 zfu (v1, v2, v3, (0 : Int64), (1 : Int32), o_me)))
def lp_X7_waysUp_9   : Nat → (Int32 × Int32 × Int32 × Ob) → Option (Int64 × Ob) := zit (fun rec a => lb_X7_waysUp_9   rec a.1 a.2.1 a.2.2.1 a.2.2.2)
def f_X7_waysUp (o_me : Ob) (p0 : Int32) (p1 : Int32) : Option (Int64 × Ob) :=
  zlt (tM o_me 7 (0 : Int32).toNatClampNeg (1 : Int64)) fun o1 =>
  lp_X7_waysUp_9   zfu (p0, p1, (1 : Int32), o1)
set_option maxHeartbeats 4000000 in
set_option maxRecDepth 100000 in
theorem m_X7_waysUp (l : Launch) (dC : Nat → ClassId) (dI : Nat → Nat → Nat) (sz : Nat) (h_me : Nat) (h_me_court : Nat) (h_me_court_isles : Nat) (q_me : Nat → Nat) (k_me : Nat → ClassId) (o_me : Ob) (p0 : Int32) (p1 : Int32) (y : Int64 × Ob) (h : f_X7_waysUp o_me p0 p1 = some y) : CL l yX7_waysUp cX7_waysUp 7 (some .long) ({ frames := 0, cells := 0, slots := 0, locals := 0 } : Room) dC dI sz [.ref h_me, .int p0, .int p1] [wX7 h_me h_me_court h_me_court_isles q_me k_me o_me] [tX7 k_me] y.1 [wX7 h_me h_me_court h_me_court_isles q_me k_me y.2] := by
  refine CC_of (by decide) (Nat.le_of_ble_eq_true rfl) ?_
  intro p e s m below meth c A ls hx hb hml hr hlk hnm hown hts hX hK hP hD hA hl
  have hl : lv_has ls 7 [(0, .ref h_me), (1, .int p0), (2, .int p1)] := hl
  have hown : s.vm.findClass RX7 = some m.cls := hown
  have hw : Wd dC dI A s.heap [wX7 h_me h_me_court h_me_court_isles q_me k_me o_me] s.heap [] := ⟨hP, hD, va_S.rf⟩
  generalize hQz : (MQ below (QL dC dI (fun r (_ : Unit) => r = y.1) (fun _ => Jn [wX7 h_me h_me_court h_me_court_isles q_me k_me y.2]) (fun _ => Jt [tX7 k_me]) A) ([.ref h_me, .int p0, .int p1] : List Value).toArray s 0 0 A) = Qz
  clear hP hD hnm
  have bk_77_1 : ∀ (v1 : Int32) (o_me : Ob) (H : Heap) (locs : List Loc) (ls : Array Slot), bk_X7_waysUp_77   v1 o_me = some y → Wd dC dI A s.heap [wX7 h_me h_me_court h_me_court_isles q_me k_me o_me] H locs → lv_has ls 7 [(0, .ref h_me), (1, .int v1)] → W p l e ({ frames := 0, cells := 0, slots := 0, locals := 0 } : Room) s m ([.ref h_me, .int p0, .int p1] : List Value).toArray below meth c H locs 0 0 Qz (F0 m 77 ls []) := by
    intro v1 o_me H locs ls h hw hl
    unfold bk_X7_waysUp_77 at h
    refine lv_iload_n hx hb dX7_waysUp_77 rfl (lv_at hl 1 rfl) ?_
    refine lv_if_lt (tgt := 96) hx hb dX7_waysUp_78 (by decide) (fun c => ?_) (fun c => ?_)
    · have h := z_t h c
      refine lv_ldc2 (v := (-1)) hx hb hown (hts _ kw1083) dX7_waysUp_96 ?_
      have hy := Option.some.inj h
      rw [← hQz, ← hy]
      exact xr_l (v := (-1 : Int64)) hx hb hr hlk hK hw dX7_waysUp_99
    · have h := z_f h c
      refine lv_iload_n hx hb dX7_waysUp_81 rfl (lv_at hl 1 rfl) ?_
      refine lv_bipush (v := 60) hx hb dX7_waysUp_82 (by decide) ?_
      refine lv_icmp_gt (tgt := 96) hx hb dX7_waysUp_84 (by decide) (fun c => ?_) (fun c => ?_)
      · have h := z_t h c
        refine lv_ldc2 (v := (-1)) hx hb hown (hts _ kw1083) dX7_waysUp_96 ?_
        have hy := Option.some.inj h
        rw [← hQz, ← hy]
        exact xr_l (v := (-1 : Int64)) hx hb hr hlk hK hw dX7_waysUp_99
      · have h := z_f h c
        refine lv_aload_n hx hb dX7_waysUp_87 rfl (lv_at hl 0 rfl) ?_
        refine fgX7_7 hx hb hts hown hK hw 0 rfl kw394 dX7_waysUp_88 ?_
        refine lv_iload_n hx hb dX7_waysUp_91 rfl (lv_at hl 1 rfl) ?_
        obtain ⟨g2, h⟩ := z_gd h
        refine faX7_7 hx hb hK hw 0 rfl rfl g2 dX7_waysUp_92 ?_
        refine lv_goto (tgt := 99) hx hb dX7_waysUp_93 (by decide) ?_
        have hy := Option.some.inj h
        rw [← hQz, ← hy]
        exact xr_l (v := gM o_me 7 v1.toNatClampNeg) hx hb hr hlk hK hw dX7_waysUp_99
  have bk_63_3 : ∀ (rec_9_0 : Int32 × Int32 × Int32 × Ob → Option (Int64 × Ob)) (hrec_9_0 : ∀ (v1 : Int32) (v2 : Int32) (v3 : Int32) (o_me : Ob) (H : Heap) (locs : List Loc) (ls : Array Slot), rec_9_0 (v1, v2, v3, o_me) = some y → Wd dC dI A s.heap [wX7 h_me h_me_court h_me_court_isles q_me k_me o_me] H locs → lv_has ls 7 [(0, .ref h_me), (1, .int v1), (2, .int v2), (3, .int v3)] → W p l e ({ frames := 0, cells := 0, slots := 0, locals := 0 } : Room) s m ([.ref h_me, .int p0, .int p1] : List Value).toArray below meth c H locs 0 0 Qz (F0 m 9 ls [])), ∀ (v1 : Int32) (v2 : Int32) (v3 : Int32) (v4 : Int64) (o_me : Ob) (H : Heap) (locs : List Loc) (ls : Array Slot), bk_X7_waysUp_63  rec_9_0 v1 v2 v3 v4 o_me = some y → Wd dC dI A s.heap [wX7 h_me h_me_court h_me_court_isles q_me k_me o_me] H locs → lv_has ls 7 [(0, .ref h_me), (1, .int v1), (2, .int v2), (3, .int v3), (4, .long v4)] → W p l e ({ frames := 0, cells := 0, slots := 0, locals := 0 } : Room) s m ([.ref h_me, .int p0, .int p1] : List Value).toArray below meth c H locs 0 0 Qz (F0 m 63 ls []) := by
    intro rec_9_0 hrec_9_0
    intro v1 v2 v3 v4 o_me H locs ls h hw hl
    unfold bk_X7_waysUp_63 at h
    refine lv_aload_n hx hb dX7_waysUp_63 rfl (lv_at hl 0 rfl) ?_
    refine fgX7_7 hx hb hts hown hK hw 0 rfl kw394 dX7_waysUp_64 ?_
    refine lv_iload_n hx hb dX7_waysUp_67 rfl (lv_at hl 3 rfl) ?_
    refine lv_lload hx hb dX7_waysUp_68 (lv_at hl 4 rfl) ?_
    obtain ⟨g3, h⟩ := z_gd h
    refine fbX7_7 hx hb hK hw 0 rfl rfl g3 dX7_waysUp_70 (fun H locs hw => ?_)
    obtain ⟨o4, eo4, h⟩ := z_lt h
    have hw : Wd dC dI A s.heap [wX7 h_me h_me_court h_me_court_isles q_me k_me o4] H locs := by rw [eo4]; exact hw
    obtain ⟨x5, ex5, h⟩ := z_lt h
    refine lv_iinc (v := x5) (lv' := [(3, .int x5), (0, .ref h_me), (1, .int v1), (2, .int v2), (4, .long v4)]) hx hb dX7_waysUp_71 hl (k := 3) rfl ((congrArg (v3 + ·) (show Int32.ofInt 1 = (1 : Int32) from by decide)).trans ex5.symm) (by decide) rfl (fun ls hl => ?_)
    refine lv_goto (tgt := 9) hx hb dX7_waysUp_74 (by decide) ?_
    exact hrec_9_0 v1 v2 x5 o4 _ _ _ h hw (lv_sub hl [1, 2, 3, 0] rfl)
  have lp_26_2 : ∀ (rec_9_0 : Int32 × Int32 × Int32 × Ob → Option (Int64 × Ob)) (hrec_9_0 : ∀ (v1 : Int32) (v2 : Int32) (v3 : Int32) (o_me : Ob) (H : Heap) (locs : List Loc) (ls : Array Slot), rec_9_0 (v1, v2, v3, o_me) = some y → Wd dC dI A s.heap [wX7 h_me h_me_court h_me_court_isles q_me k_me o_me] H locs → lv_has ls 7 [(0, .ref h_me), (1, .int v1), (2, .int v2), (3, .int v3)] → W p l e ({ frames := 0, cells := 0, slots := 0, locals := 0 } : Room) s m ([.ref h_me, .int p0, .int p1] : List Value).toArray below meth c H locs 0 0 Qz (F0 m 9 ls [])) (N : Nat), ∀ (v1 : Int32) (v2 : Int32) (v3 : Int32) (v4 : Int64) (v6 : Int32) (o_me : Ob) (H : Heap) (locs : List Loc) (ls : Array Slot), lp_X7_waysUp_26  rec_9_0 N (v1, v2, v3, v4, v6, o_me) = some y → Wd dC dI A s.heap [wX7 h_me h_me_court h_me_court_isles q_me k_me o_me] H locs → lv_has ls 7 [(0, .ref h_me), (1, .int v1), (2, .int v2), (3, .int v3), (4, .long v4), (6, .int v6)] → W p l e ({ frames := 0, cells := 0, slots := 0, locals := 0 } : Room) s m ([.ref h_me, .int p0, .int p1] : List Value).toArray below meth c H locs 0 0 Qz (F0 m 26 ls []) := by
    intro rec_9_0 hrec_9_0
    intro N
    induction N with
    | zero =>
      intro v1 v2 v3 v4 v6 o_me H locs ls h hw hl
      exact absurd (show (none : Option (Int64 × Ob)) = some y from h) (by simp)
    | succ N ih =>
      intro v1 v2 v3 v4 v6 o_me H locs ls h hw hl
      have h : lb_X7_waysUp_26  rec_9_0 (lp_X7_waysUp_26  rec_9_0 N) v1 v2 v3 v4 v6 o_me = some y := h
      unfold lb_X7_waysUp_26 at h
      refine lv_iload hx hb dX7_waysUp_26 (lv_at hl 5 rfl) ?_
      refine lv_iload_n hx hb dX7_waysUp_28 rfl (lv_at hl 2 rfl) ?_
      refine lv_icmp_gt (tgt := 63) hx hb dX7_waysUp_29 (by decide) (fun c => ?_) (fun c => ?_)
      · have h := z_t h c
        exact bk_63_3 rec_9_0 hrec_9_0 v1 v2 v3 v4 o_me _ _ _ h hw (lv_sub hl [0, 1, 2, 3, 4] rfl)
      · have h := z_f h c
        refine lv_iload hx hb dX7_waysUp_32 (lv_at hl 5 rfl) ?_
        refine lv_iload_n hx hb dX7_waysUp_34 rfl (lv_at hl 3 rfl) ?_
        refine lv_icmp_gt (tgt := 63) hx hb dX7_waysUp_35 (by decide) (fun c => ?_) (fun c => ?_)
        · have h := z_t h c
          exact bk_63_3 rec_9_0 hrec_9_0 v1 v2 v3 v4 o_me _ _ _ h hw (lv_sub hl [0, 1, 2, 3, 4] rfl)
        · have h := z_f h c
          refine lv_iload_n hx hb dX7_waysUp_38 rfl (lv_at hl 3 rfl) ?_
          refine lv_iconst (v := 2) hx hb dX7_waysUp_39 (by decide) ?_
          refine lv_icmp_eq (tgt := 63) hx hb dX7_waysUp_40 (by decide) (fun c => ?_) (fun c => ?_)
          · have h := z_t h c
            exact bk_63_3 rec_9_0 hrec_9_0 v1 v2 v3 v4 o_me _ _ _ h hw (lv_sub hl [0, 1, 2, 3, 4] rfl)
          · have h := z_f h c
            refine lv_lload hx hb dX7_waysUp_43 (lv_at hl 4 rfl) ?_
            refine lv_aload_n hx hb dX7_waysUp_45 rfl (lv_at hl 0 rfl) ?_
            refine fgX7_7 hx hb hts hown hK hw 0 rfl kw394 dX7_waysUp_46 ?_
            refine lv_iload_n hx hb dX7_waysUp_49 rfl (lv_at hl 3 rfl) ?_
            refine lv_iload hx hb dX7_waysUp_50 (lv_at hl 5 rfl) ?_
            refine lv_isub hx hb dX7_waysUp_52 ?_
            obtain ⟨g6, h⟩ := z_gd h
            refine faX7_7 hx hb hK hw 0 rfl rfl g6 dX7_waysUp_53 ?_
            refine lv_ladd hx hb dX7_waysUp_54 ?_
            obtain ⟨x7, ex7, h⟩ := z_lt h
            refine lv_fl (v := x7) ex7.symm ?_
            refine lv_lstore (lv' := [(4, .long x7), (0, .ref h_me), (1, .int v1), (2, .int v2), (3, .int v3), (6, .int v6)]) hx hb dX7_waysUp_55 hl (by decide) rfl (fun ls hl => ?_)
            obtain ⟨x8, ex8, h⟩ := z_lt h
            refine lv_iinc (v := x8) (lv' := [(6, .int x8), (4, .long x7), (0, .ref h_me), (1, .int v1), (2, .int v2), (3, .int v3)]) hx hb dX7_waysUp_57 hl (k := 5) rfl ((congrArg (v6 + ·) (show Int32.ofInt 1 = (1 : Int32) from by decide)).trans ex8.symm) (by decide) rfl (fun ls hl => ?_)
            refine lv_goto (tgt := 26) hx hb dX7_waysUp_60 (by decide) ?_
            exact ih v1 v2 v3 x7 x8 o_me _ _ _ h hw (lv_sub hl [2, 3, 4, 5, 1, 0] rfl)
  have lp_9_0 : ∀ (N : Nat), ∀ (v1 : Int32) (v2 : Int32) (v3 : Int32) (o_me : Ob) (H : Heap) (locs : List Loc) (ls : Array Slot), lp_X7_waysUp_9   N (v1, v2, v3, o_me) = some y → Wd dC dI A s.heap [wX7 h_me h_me_court h_me_court_isles q_me k_me o_me] H locs → lv_has ls 7 [(0, .ref h_me), (1, .int v1), (2, .int v2), (3, .int v3)] → W p l e ({ frames := 0, cells := 0, slots := 0, locals := 0 } : Room) s m ([.ref h_me, .int p0, .int p1] : List Value).toArray below meth c H locs 0 0 Qz (F0 m 9 ls []) := by
    intro N
    induction N with
    | zero =>
      intro v1 v2 v3 o_me H locs ls h hw hl
      exact absurd (show (none : Option (Int64 × Ob)) = some y from h) (by simp)
    | succ N ih =>
      intro v1 v2 v3 o_me H locs ls h hw hl
      have h : lb_X7_waysUp_9   (lp_X7_waysUp_9   N) v1 v2 v3 o_me = some y := h
      unfold lb_X7_waysUp_9 at h
      refine lv_iload_n hx hb dX7_waysUp_9 rfl (lv_at hl 3 rfl) ?_
      refine lv_iload_n hx hb dX7_waysUp_10 rfl (lv_at hl 1 rfl) ?_
      refine lv_icmp_gt (tgt := 77) hx hb dX7_waysUp_11 (by decide) (fun c => ?_) (fun c => ?_)
      · have h := z_t h c
        exact bk_77_1  v1 o_me _ _ _ h hw (lv_sub hl [0, 1] rfl)
      · have h := z_f h c
        refine lv_iload_n hx hb dX7_waysUp_14 rfl (lv_at hl 3 rfl) ?_
        refine lv_bipush (v := 60) hx hb dX7_waysUp_15 (by decide) ?_
        refine lv_icmp_gt (tgt := 77) hx hb dX7_waysUp_17 (by decide) (fun c => ?_) (fun c => ?_)
        · have h := z_t h c
          exact bk_77_1  v1 o_me _ _ _ h hw (lv_sub hl [0, 1] rfl)
        · have h := z_f h c
          refine lv_lconst (v := 0) hx hb dX7_waysUp_20 (by decide) ?_
          refine lv_lstore (lv' := [(4, .long (0 : Int64)), (0, .ref h_me), (1, .int v1), (2, .int v2), (3, .int v3)]) hx hb dX7_waysUp_21 hl (by decide) rfl (fun ls hl => ?_)
          refine lv_iconst (v := 1) hx hb dX7_waysUp_23 (by decide) ?_
          refine lv_istore (lv' := [(6, .int (1 : Int32)), (4, .long (0 : Int64)), (0, .ref h_me), (1, .int v1), (2, .int v2), (3, .int v3)]) hx hb dX7_waysUp_24 hl (by decide) rfl (fun ls hl => ?_)
          exact lp_26_2 (lp_X7_waysUp_9   N) ih zfu v1 v2 v3 (0 : Int64) (1 : Int32) o_me _ _ _ h hw (lv_sub hl [2, 3, 4, 5, 1, 0] rfl)
  unfold f_X7_waysUp at h
  refine lv_aload_n hx hb dX7_waysUp_0 rfl (lv_at hl 0 rfl) ?_
  refine fgX7_7 hx hb hts hown hK hw 0 rfl kw394 dX7_waysUp_1 ?_
  refine lv_iconst (v := 0) hx hb dX7_waysUp_4 (by decide) ?_
  refine lv_lconst (v := 1) hx hb dX7_waysUp_5 (by decide) ?_
  refine fbX7_7 hx hb hK hw 0 rfl rfl (by decide) dX7_waysUp_6 (fun H locs hw => ?_)
  obtain ⟨o1, eo1, h⟩ := z_lt h
  have hw : Wd dC dI A s.heap [wX7 h_me h_me_court h_me_court_isles q_me k_me o1] H locs := by rw [eo1]; exact hw
  refine lv_iconst (v := 1) hx hb dX7_waysUp_7 (by decide) ?_
  refine lv_istore_n (lv' := [(3, .int (1 : Int32)), (0, .ref h_me), (1, .int p0), (2, .int p1)]) hx hb dX7_waysUp_8 rfl hl (by decide) rfl (fun ls hl => ?_)
  exact lp_9_0  zfu p0 p1 (1 : Int32) o1 _ _ _ h hw (lv_sub hl [1, 2, 3, 0] rfl)

def f_X8_ladder (o_me : Ob) (o_me_study : Ob) (p0 : Int32) (p1 : Int32) : Option (Int64 × Ob) :=
  if p0 < (1 : Int32) then
  (some ((-1 : Int64), o_me_study))
  else
  (if (60 : Int32) < p0 then
  (some ((-1 : Int64), o_me_study))
  else
  (if p1 < (1 : Int32) then
  (some ((-1 : Int64), o_me_study))
  else
  (if p1 ≤ (5 : Int32) then
  ((f_X7_waysUp o_me_study p0 p1).bind fun z1 =>
  some (z1.1, z1.2))
  else
  (some ((-1 : Int64), o_me_study)))))
set_option maxHeartbeats 4000000 in
set_option maxRecDepth 100000 in
theorem m_X8_ladder (l : Launch) (dC : Nat → ClassId) (dI : Nat → Nat → Nat) (sz : Nat) (h_me : Nat) (h_me_reader : Nat) (h_me_machine : Nat) (h_me_isles : Nat) (h_me_court : Nat) (h_me_study : Nat) (h_me_paper : Nat) (h_me_paperCourt : Nat) (h_me_past : Nat) (h_me_pastAhead : Nat) (h_me_movingAhead : Nat) (q_me : Nat → Nat) (k_me : Nat → ClassId) (q_me_study : Nat → Nat) (k_me_study : Nat → ClassId) (o_me : Ob) (o_me_study : Ob) (p0 : Int32) (p1 : Int32) (y : Int64 × Ob) (h : f_X8_ladder o_me o_me_study p0 p1 = some y) : CL l yX8_ladder cX8_ladder 3 (some .long) ({ frames := 1, cells := 0, slots := 0, locals := 26 } : Room) dC dI sz [.ref h_me, .int p0, .int p1] [wX8 h_me h_me_reader h_me_machine h_me_isles h_me_court h_me_study h_me_paper h_me_paperCourt h_me_past h_me_pastAhead h_me_movingAhead q_me k_me o_me, wX7 h_me_study h_me_court h_me_isles q_me_study k_me_study o_me_study] [tX8 k_me, tX7 k_me_study] y.1 [wX8 h_me h_me_reader h_me_machine h_me_isles h_me_court h_me_study h_me_paper h_me_paperCourt h_me_past h_me_pastAhead h_me_movingAhead q_me k_me o_me, wX7 h_me_study h_me_court h_me_isles q_me_study k_me_study y.2] := by
  refine CC_of (by decide) (Nat.le_of_ble_eq_true rfl) ?_
  intro p e s m below meth c A ls hx hb hml hr hlk hnm hown hts hX hK hP hD hA hl
  have hl : lv_has ls 3 [(0, .ref h_me), (1, .int p0), (2, .int p1)] := hl
  have hown : s.vm.findClass RX8 = some m.cls := hown
  have hw : Wd dC dI A s.heap [wX8 h_me h_me_reader h_me_machine h_me_isles h_me_court h_me_study h_me_paper h_me_paperCourt h_me_past h_me_pastAhead h_me_movingAhead q_me k_me o_me, wX7 h_me_study h_me_court h_me_isles q_me_study k_me_study o_me_study] s.heap [] := ⟨hP, hD, va_S.rf⟩
  generalize hQz : (MQ below (QL dC dI (fun r (_ : Unit) => r = y.1) (fun _ => Jn [wX8 h_me h_me_reader h_me_machine h_me_isles h_me_court h_me_study h_me_paper h_me_paperCourt h_me_past h_me_pastAhead h_me_movingAhead q_me k_me o_me, wX7 h_me_study h_me_court h_me_isles q_me_study k_me_study y.2]) (fun _ => Jt [tX8 k_me, tX7 k_me_study]) A) ([.ref h_me, .int p0, .int p1] : List Value).toArray s 0 0 A) = Qz
  clear hP hD hnm
  unfold f_X8_ladder at h
  refine lv_iload_n hx hb dX8_ladder_0 rfl (lv_at hl 1 rfl) ?_
  refine lv_iconst (v := 1) hx hb dX8_ladder_1 (by decide) ?_
  refine lv_icmp_lt (tgt := 21) hx hb dX8_ladder_2 (by decide) (fun c => ?_) (fun c => ?_)
  · have h := z_t h c
    refine lv_ldc2 (v := (-1)) hx hb hown (hts _ kw1078) dX8_ladder_21 ?_
    have hy := Option.some.inj h
    rw [← hQz, ← hy]
    exact xr_l (v := (-1 : Int64)) hx hb hr hlk hK hw dX8_ladder_24
  · have h := z_f h c
    refine lv_iload_n hx hb dX8_ladder_5 rfl (lv_at hl 1 rfl) ?_
    refine lv_bipush (v := 60) hx hb dX8_ladder_6 (by decide) ?_
    refine lv_icmp_gt (tgt := 21) hx hb dX8_ladder_8 (by decide) (fun c => ?_) (fun c => ?_)
    · have h := z_t h c
      refine lv_ldc2 (v := (-1)) hx hb hown (hts _ kw1078) dX8_ladder_21 ?_
      have hy := Option.some.inj h
      rw [← hQz, ← hy]
      exact xr_l (v := (-1 : Int64)) hx hb hr hlk hK hw dX8_ladder_24
    · have h := z_f h c
      refine lv_iload_n hx hb dX8_ladder_11 rfl (lv_at hl 2 rfl) ?_
      refine lv_iconst (v := 1) hx hb dX8_ladder_12 (by decide) ?_
      refine lv_icmp_lt (tgt := 21) hx hb dX8_ladder_13 (by decide) (fun c => ?_) (fun c => ?_)
      · have h := z_t h c
        refine lv_ldc2 (v := (-1)) hx hb hown (hts _ kw1078) dX8_ladder_21 ?_
        have hy := Option.some.inj h
        rw [← hQz, ← hy]
        exact xr_l (v := (-1 : Int64)) hx hb hr hlk hK hw dX8_ladder_24
      · have h := z_f h c
        refine lv_iload_n hx hb dX8_ladder_16 rfl (lv_at hl 2 rfl) ?_
        refine lv_iconst (v := 5) hx hb dX8_ladder_17 (by decide) ?_
        refine lv_icmp_le (tgt := 25) hx hb dX8_ladder_18 (by decide) (fun c => ?_) (fun c => ?_)
        · have h := z_t h c
          refine lv_aload_n hx hb dX8_ladder_25 rfl (lv_at hl 0 rfl) ?_
          refine fgX8_4 hx hb hts hown hK hw 0 rfl kw446 dX8_ladder_26 ?_
          refine lv_iload_n hx hb dX8_ladder_29 rfl (lv_at hl 1 rfl) ?_
          refine lv_iload_n hx hb dX8_ladder_30 rfl (lv_at hl 2 rfl) ?_
          obtain ⟨z1, ez1, h⟩ := z_bd h
          refine xj_l (xrV (As := [.int p0, .int p1]) (rest := []) ⟨hx, hb, hml, hown, hts⟩ (m_X7_waysUp l dC dI _ h_me_study h_me_court h_me_isles q_me_study k_me_study o_me_study p0 p1 z1 ez1) kw1082 kw1079 kw1080 kw1081 kw118 hd_X7_waysUp ⟨rfl, rfl⟩ rfl rfl ⟨rfl, rfl⟩ hX hK hw [1] (by decide) rfl rfl rfl rfl rfl hl.1 rfl rfl dX8_ladder_31) hw hA [1] (by decide) rfl rfl (fun H locs hw => ?_)
          have hw : Wd dC dI A s.heap [wX8 h_me h_me_reader h_me_machine h_me_isles h_me_court h_me_study h_me_paper h_me_paperCourt h_me_past h_me_pastAhead h_me_movingAhead q_me k_me o_me, wX7 h_me_study h_me_court h_me_isles q_me_study k_me_study z1.2] H locs := hw
          have hy := Option.some.inj h
          rw [← hQz, ← hy]
          exact xr_l (v := z1.1) hx hb hr hlk hK hw dX8_ladder_34
        · have h := z_f h c
          refine lv_ldc2 (v := (-1)) hx hb hown (hts _ kw1078) dX8_ladder_21 ?_
          have hy := Option.some.inj h
          rw [← hQz, ← hy]
          exact xr_l (v := (-1 : Int64)) hx hb hr hlk hK hw dX8_ladder_24

def lb_J7_fill_53178_AX7_6_5   (rec_5_0 : Int32 × Int32 × Int32 × Ob → Option (Ob)) (v1 : Int32) (v2 : Int32) (v3 : Int32) (o_a0 : Ob) : Option (Ob) :=
  if v3 ≤ v2 then
  (some o_a0)
  else
  (zgd (zin v2 10) <|
  zlt (tA o_a0 6 v2.toNatClampNeg v1) fun o2 =>
  zlt (v2 + (1 : Int32)) fun x3 =>
  rec_5_0 (v1, x3, v3, o2))
def lp_J7_fill_53178_AX7_6_5   : Nat → (Int32 × Int32 × Int32 × Ob) → Option (Ob) := zit (fun rec a => lb_J7_fill_53178_AX7_6_5   rec a.1 a.2.1 a.2.2.1 a.2.2.2)
def f_J7_fill_53178_AX7_6 (o_a0 : Ob) (p1 : Int32) : Option (Ob) :=
  lp_J7_fill_53178_AX7_6_5   zfu (p1, (0 : Int32), (10 : Int32), o_a0)
set_option maxHeartbeats 4000000 in
set_option maxRecDepth 100000 in
theorem m_J7_fill_53178_AX7_6 (l : Launch) (dC : Nat → ClassId) (dI : Nat → Nat → Nat) (sz : Nat) (h_a0 : Nat) (h_a0_court : Nat) (h_a0_court_isles : Nat) (q_a0 : Nat → Nat) (k_a0 : Nat → ClassId) (o_a0 : Ob) (p1 : Int32) (y : Ob) (h : f_J7_fill_53178_AX7_6 o_a0 p1 = some y) : CV l yJ7_fill_53178 cJ7_fill_53178 4 none ({ frames := 0, cells := 0, slots := 0, locals := 0 } : Room) dC dI sz [.ref (q_a0 6), .int p1] [wX7 h_a0 h_a0_court h_a0_court_isles q_a0 k_a0 o_a0] [tX7 k_a0] [wX7 h_a0 h_a0_court h_a0_court_isles q_a0 k_a0 y] := by
  refine CC_of (by decide) (Nat.le_of_ble_eq_true rfl) ?_
  intro p e s m below meth c A ls hx hb hml hr hlk hnm hown hts hX hK hP hD hA hl
  have hl : lv_has ls 4 [(0, .ref (q_a0 6)), (1, .int p1)] := hl
  have hown : s.vm.findClass RJ7 = some m.cls := hown
  have hw : Wd dC dI A s.heap [wX7 h_a0 h_a0_court h_a0_court_isles q_a0 k_a0 o_a0] s.heap [] := ⟨hP, hD, va_S.rf⟩
  generalize hQz : (MQ below (QV dC dI (fun (_ : Unit) => True) (fun _ => Jn [wX7 h_a0 h_a0_court h_a0_court_isles q_a0 k_a0 y]) (fun _ => Jt [tX7 k_a0]) A) ([.ref (q_a0 6), .int p1] : List Value).toArray s 0 0 A) = Qz
  clear hP hD hnm
  have lp_5_0 : ∀ (N : Nat), ∀ (v1 : Int32) (v2 : Int32) (v3 : Int32) (o_a0 : Ob) (H : Heap) (locs : List Loc) (ls : Array Slot), lp_J7_fill_53178_AX7_6_5   N (v1, v2, v3, o_a0) = some y → Wd dC dI A s.heap [wX7 h_a0 h_a0_court h_a0_court_isles q_a0 k_a0 o_a0] H locs → lv_has ls 4 [(0, .ref (q_a0 6)), (1, .int v1), (2, .int v2), (3, .int v3)] → W p l e ({ frames := 0, cells := 0, slots := 0, locals := 0 } : Room) s m ([.ref (q_a0 6), .int p1] : List Value).toArray below meth c H locs 0 0 Qz (F0 m 5 ls []) := by
    intro N
    induction N with
    | zero =>
      intro v1 v2 v3 o_a0 H locs ls h hw hl
      exact absurd (show (none : Option (Ob)) = some y from h) (by simp)
    | succ N ih =>
      intro v1 v2 v3 o_a0 H locs ls h hw hl
      have h : lb_J7_fill_53178_AX7_6_5   (lp_J7_fill_53178_AX7_6_5   N) v1 v2 v3 o_a0 = some y := h
      unfold lb_J7_fill_53178_AX7_6_5 at h
      refine lv_iload_n hx hb dJ7_fill_53178_5 rfl (lv_at hl 2 rfl) ?_
      refine lv_iload_n hx hb dJ7_fill_53178_6 rfl (lv_at hl 3 rfl) ?_
      refine lv_icmp_ge (tgt := 20) hx hb dJ7_fill_53178_7 (by decide) (fun c => ?_) (fun c => ?_)
      · have h := z_t h c
        have hy := Option.some.inj h
        rw [← hQz, ← hy]
        exact xr_v hx hb hr hlk hK hw dJ7_fill_53178_20
      · have h := z_f h c
        refine lv_aload_n hx hb dJ7_fill_53178_10 rfl (lv_at hl 0 rfl) ?_
        refine lv_iload_n hx hb dJ7_fill_53178_11 rfl (lv_at hl 2 rfl) ?_
        refine lv_iload_n hx hb dJ7_fill_53178_12 rfl (lv_at hl 1 rfl) ?_
        obtain ⟨g1, h⟩ := z_gd h
        refine fbX7_6 hx hb hK hw 0 rfl rfl g1 dJ7_fill_53178_13 (fun H locs hw => ?_)
        obtain ⟨o2, eo2, h⟩ := z_lt h
        have hw : Wd dC dI A s.heap [wX7 h_a0 h_a0_court h_a0_court_isles q_a0 k_a0 o2] H locs := by rw [eo2]; exact hw
        obtain ⟨x3, ex3, h⟩ := z_lt h
        refine lv_iinc (v := x3) (lv' := [(2, .int x3), (0, .ref (q_a0 6)), (1, .int v1), (3, .int v3)]) hx hb dJ7_fill_53178_14 hl (k := 2) rfl ((congrArg (v2 + ·) (show Int32.ofInt 1 = (1 : Int32) from by decide)).trans ex3.symm) (by decide) rfl (fun ls hl => ?_)
        refine lv_goto (tgt := 5) hx hb dJ7_fill_53178_17 (by decide) ?_
        exact ih v1 x3 v3 o2 _ _ _ h hw (lv_sub hl [1, 2, 0, 3] rfl)
  unfold f_J7_fill_53178_AX7_6 at h
  refine lv_iconst (v := 0) hx hb dJ7_fill_53178_0 (by decide) ?_
  refine lv_istore_n (lv' := [(2, .int (0 : Int32)), (0, .ref (q_a0 6)), (1, .int p1)]) hx hb dJ7_fill_53178_1 rfl hl (by decide) rfl (fun ls hl => ?_)
  refine lv_aload_n hx hb dJ7_fill_53178_2 rfl (lv_at hl 1 rfl) ?_
  refine fnX7_6 hx hb hK hw 0 rfl rfl dJ7_fill_53178_3 ?_
  refine lv_fi (v := 10) (by decide) ?_
  refine lv_istore_n (lv' := [(3, .int (10 : Int32)), (2, .int (0 : Int32)), (0, .ref (q_a0 6)), (1, .int p1)]) hx hb dJ7_fill_53178_4 rfl hl (by decide) rfl (fun ls hl => ?_)
  exact lp_5_0  zfu p1 (0 : Int32) (10 : Int32) o_a0 _ _ _ h hw (lv_sub hl [2, 3, 1, 0] rfl)

def bk_X7_alikeMost_77 (o_me_court : Ob) (o_me_court_isles : Ob) (o_me_court_isles_now : Ob) (o_pool : List CR) (rec_13_0 : Int32 × Int32 × Int32 × Int32 × Ob × Ob → Option (Int32 × Ob × Ob)) (v1 : Int32) (v2 : Int32) (v3 : Int32) (v4 : Int32) (o_me : Ob) (o_me_court_machine : Ob) : Option (Int32 × Ob × Ob) :=
  zlt (v4 + (1 : Int32)) fun x2 =>
  rec_13_0 (v1, v2, v3, x2, o_me, o_me_court_machine)
def lb_X7_alikeMost_13 (o_me_court : Ob) (o_me_court_isles : Ob) (o_me_court_isles_now : Ob) (o_pool : List CR)  (rec_13_0 : Int32 × Int32 × Int32 × Int32 × Ob × Ob → Option (Int32 × Ob × Ob)) (v1 : Int32) (v2 : Int32) (v3 : Int32) (v4 : Int32) (o_me : Ob) (o_me_court_machine : Ob) : Option (Int32 × Ob × Ob) :=
  if (gI o_me_court_isles 7) ≤ v4 then
  (some (v3, o_me, o_me_court_machine))
  else
  (if ((v1 >>> (v4 &&& 31)) &&& (1 : Int32)) = (1 : Int32) then
  ((f_X2_lawInForce o_me_court_isles).bind fun z3 =>
  (f_X1_turnsTo_Q o_me_court o_me_court_isles o_me_court_isles_now o_me_court_machine o_pool z3 v4 v2).bind fun z4 =>
  zgd (zin z4.1 10) <|
  zgd (zin z4.1 10) <|
  zlt (tA o_me 6 z4.1.toNatClampNeg ((gA o_me 6 z4.1.toNatClampNeg) + (1 : Int32))) fun o7 =>
  zgd (zin z4.1 10) <|
  zlt (if v3 < (gA o7 6 z4.1.toNatClampNeg) then (gA o7 6 z4.1.toNatClampNeg) else v3) fun x9 =>
  bk_X7_alikeMost_77 o_me_court o_me_court_isles o_me_court_isles_now o_pool rec_13_0 v1 v2 x9 v4 o7 z4.2)
  else
  (bk_X7_alikeMost_77 o_me_court o_me_court_isles o_me_court_isles_now o_pool rec_13_0 v1 v2 v3 v4 o_me o_me_court_machine))
def lp_X7_alikeMost_13 (o_me_court : Ob) (o_me_court_isles : Ob) (o_me_court_isles_now : Ob) (o_pool : List CR)  : Nat → (Int32 × Int32 × Int32 × Int32 × Ob × Ob) → Option (Int32 × Ob × Ob) := zit (fun rec a => lb_X7_alikeMost_13 o_me_court o_me_court_isles o_me_court_isles_now o_pool  rec a.1 a.2.1 a.2.2.1 a.2.2.2.1 a.2.2.2.2.1 a.2.2.2.2.2)
def f_X7_alikeMost (o_me : Ob) (o_me_court : Ob) (o_me_court_isles : Ob) (o_me_court_isles_now : Ob) (o_me_court_machine : Ob) (o_pool : List CR) (p0 : Int32) (p1 : Int32) : Option (Int32 × Ob × Ob) :=
  (f_J7_fill_53178_AX7_6 o_me (0 : Int32)).bind fun z1 =>
  lp_X7_alikeMost_13 o_me_court o_me_court_isles o_me_court_isles_now o_pool  zfu (p0, p1, (0 : Int32), (0 : Int32), z1, o_me_court_machine)
set_option maxHeartbeats 4000000 in
set_option maxRecDepth 100000 in
theorem m_X7_alikeMost (l : Launch) (dC : Nat → ClassId) (dI : Nat → Nat → Nat) (sz : Nat) (h_me : Nat) (h_me_court : Nat) (h_me_court_isles : Nat) (h_me_court_machine : Nat) (h_me_court_isles_now : Nat) (q_me : Nat → Nat) (k_me : Nat → ClassId) (q_me_court : Nat → Nat) (k_me_court : Nat → ClassId) (q_me_court_isles : Nat → Nat) (k_me_court_isles : Nat → ClassId) (q_me_court_isles_now : Nat → Nat) (k_me_court_isles_now : Nat → ClassId) (q_me_court_machine : Nat → Nat) (k_me_court_machine : Nat → ClassId) (o_me : Ob) (o_me_court : Ob) (o_me_court_isles : Ob) (o_me_court_isles_now : Ob) (o_me_court_machine : Ob) (o_pool : List CR) (p0 : Int32) (p1 : Int32) (y : Int32 × Ob × Ob) (h : f_X7_alikeMost o_me o_me_court o_me_court_isles o_me_court_isles_now o_me_court_machine o_pool p0 p1 = some y) : CI l yX7_alikeMost cX7_alikeMost 6 (some .int) ({ frames := 4, cells := 0, slots := 0, locals := 109 } : Room) dC dI sz [.ref h_me, .int p0, .int p1] [wX7 h_me h_me_court h_me_court_isles q_me k_me o_me, wX1 h_me_court h_me_court_isles h_me_court_machine q_me_court k_me_court o_me_court, wX2 h_me_court_isles h_me_court_isles_now q_me_court_isles k_me_court_isles o_me_court_isles, wX4 h_me_court_isles_now q_me_court_isles_now k_me_court_isles_now o_me_court_isles_now, wX3 h_me_court_machine q_me_court_machine k_me_court_machine o_me_court_machine, wPL o_pool] [tX7 k_me, tX1 k_me_court, tX2 k_me_court_isles, tX4 k_me_court_isles_now, tX3 k_me_court_machine, tPL o_pool] y.1 [wX7 h_me h_me_court h_me_court_isles q_me k_me y.2.1, wX1 h_me_court h_me_court_isles h_me_court_machine q_me_court k_me_court o_me_court, wX2 h_me_court_isles h_me_court_isles_now q_me_court_isles k_me_court_isles o_me_court_isles, wX4 h_me_court_isles_now q_me_court_isles_now k_me_court_isles_now o_me_court_isles_now, wX3 h_me_court_machine q_me_court_machine k_me_court_machine y.2.2, wPL o_pool] := by
  refine CC_of (by decide) (Nat.le_of_ble_eq_true rfl) ?_
  intro p e s m below meth c A ls hx hb hml hr hlk hnm hown hts hX hK hP hD hA hl
  have hl : lv_has ls 6 [(0, .ref h_me), (1, .int p0), (2, .int p1)] := hl
  have hown : s.vm.findClass RX7 = some m.cls := hown
  have hw : Wd dC dI A s.heap [wX7 h_me h_me_court h_me_court_isles q_me k_me o_me, wX1 h_me_court h_me_court_isles h_me_court_machine q_me_court k_me_court o_me_court, wX2 h_me_court_isles h_me_court_isles_now q_me_court_isles k_me_court_isles o_me_court_isles, wX4 h_me_court_isles_now q_me_court_isles_now k_me_court_isles_now o_me_court_isles_now, wX3 h_me_court_machine q_me_court_machine k_me_court_machine o_me_court_machine, wPL o_pool] s.heap [] := ⟨hP, hD, va_S.rf⟩
  generalize hQz : (MQ below (QI dC dI (fun r (_ : Unit) => r = y.1) (fun _ => Jn [wX7 h_me h_me_court h_me_court_isles q_me k_me y.2.1, wX1 h_me_court h_me_court_isles h_me_court_machine q_me_court k_me_court o_me_court, wX2 h_me_court_isles h_me_court_isles_now q_me_court_isles k_me_court_isles o_me_court_isles, wX4 h_me_court_isles_now q_me_court_isles_now k_me_court_isles_now o_me_court_isles_now, wX3 h_me_court_machine q_me_court_machine k_me_court_machine y.2.2, wPL o_pool]) (fun _ => Jt [tX7 k_me, tX1 k_me_court, tX2 k_me_court_isles, tX4 k_me_court_isles_now, tX3 k_me_court_machine, tPL o_pool]) A) ([.ref h_me, .int p0, .int p1] : List Value).toArray s 0 0 A) = Qz
  clear hP hD hnm
  have bk_77_1 : ∀ (rec_13_0 : Int32 × Int32 × Int32 × Int32 × Ob × Ob → Option (Int32 × Ob × Ob)) (hrec_13_0 : ∀ (v1 : Int32) (v2 : Int32) (v3 : Int32) (v4 : Int32) (o_me : Ob) (o_me_court_machine : Ob) (H : Heap) (locs : List Loc) (ls : Array Slot), rec_13_0 (v1, v2, v3, v4, o_me, o_me_court_machine) = some y → Wd dC dI A s.heap [wX7 h_me h_me_court h_me_court_isles q_me k_me o_me, wX1 h_me_court h_me_court_isles h_me_court_machine q_me_court k_me_court o_me_court, wX2 h_me_court_isles h_me_court_isles_now q_me_court_isles k_me_court_isles o_me_court_isles, wX4 h_me_court_isles_now q_me_court_isles_now k_me_court_isles_now o_me_court_isles_now, wX3 h_me_court_machine q_me_court_machine k_me_court_machine o_me_court_machine, wPL o_pool] H locs → lv_has ls 6 [(0, .ref h_me), (1, .int v1), (2, .int v2), (3, .int v3), (4, .int v4)] → W p l e ({ frames := 4, cells := 0, slots := 0, locals := 109 } : Room) s m ([.ref h_me, .int p0, .int p1] : List Value).toArray below meth c H locs 0 0 Qz (F0 m 13 ls [])), ∀ (v1 : Int32) (v2 : Int32) (v3 : Int32) (v4 : Int32) (o_me : Ob) (o_me_court_machine : Ob) (H : Heap) (locs : List Loc) (ls : Array Slot), bk_X7_alikeMost_77 o_me_court o_me_court_isles o_me_court_isles_now o_pool rec_13_0 v1 v2 v3 v4 o_me o_me_court_machine = some y → Wd dC dI A s.heap [wX7 h_me h_me_court h_me_court_isles q_me k_me o_me, wX1 h_me_court h_me_court_isles h_me_court_machine q_me_court k_me_court o_me_court, wX2 h_me_court_isles h_me_court_isles_now q_me_court_isles k_me_court_isles o_me_court_isles, wX4 h_me_court_isles_now q_me_court_isles_now k_me_court_isles_now o_me_court_isles_now, wX3 h_me_court_machine q_me_court_machine k_me_court_machine o_me_court_machine, wPL o_pool] H locs → lv_has ls 6 [(0, .ref h_me), (1, .int v1), (2, .int v2), (3, .int v3), (4, .int v4)] → W p l e ({ frames := 4, cells := 0, slots := 0, locals := 109 } : Room) s m ([.ref h_me, .int p0, .int p1] : List Value).toArray below meth c H locs 0 0 Qz (F0 m 77 ls []) := by
    intro rec_13_0 hrec_13_0
    intro v1 v2 v3 v4 o_me o_me_court_machine H locs ls h hw hl
    unfold bk_X7_alikeMost_77 at h
    obtain ⟨x2, ex2, h⟩ := z_lt h
    refine lv_iinc (v := x2) (lv' := [(4, .int x2), (0, .ref h_me), (1, .int v1), (2, .int v2), (3, .int v3)]) hx hb dX7_alikeMost_77 hl (k := 4) rfl ((congrArg (v4 + ·) (show Int32.ofInt 1 = (1 : Int32) from by decide)).trans ex2.symm) (by decide) rfl (fun ls hl => ?_)
    refine lv_goto (tgt := 13) hx hb dX7_alikeMost_80 (by decide) ?_
    exact hrec_13_0 v1 v2 v3 x2 o_me o_me_court_machine _ _ _ h hw (lv_sub hl [1, 2, 3, 4, 0] rfl)
  have lp_13_0 : ∀ (N : Nat), ∀ (v1 : Int32) (v2 : Int32) (v3 : Int32) (v4 : Int32) (o_me : Ob) (o_me_court_machine : Ob) (H : Heap) (locs : List Loc) (ls : Array Slot), lp_X7_alikeMost_13 o_me_court o_me_court_isles o_me_court_isles_now o_pool  N (v1, v2, v3, v4, o_me, o_me_court_machine) = some y → Wd dC dI A s.heap [wX7 h_me h_me_court h_me_court_isles q_me k_me o_me, wX1 h_me_court h_me_court_isles h_me_court_machine q_me_court k_me_court o_me_court, wX2 h_me_court_isles h_me_court_isles_now q_me_court_isles k_me_court_isles o_me_court_isles, wX4 h_me_court_isles_now q_me_court_isles_now k_me_court_isles_now o_me_court_isles_now, wX3 h_me_court_machine q_me_court_machine k_me_court_machine o_me_court_machine, wPL o_pool] H locs → lv_has ls 6 [(0, .ref h_me), (1, .int v1), (2, .int v2), (3, .int v3), (4, .int v4)] → W p l e ({ frames := 4, cells := 0, slots := 0, locals := 109 } : Room) s m ([.ref h_me, .int p0, .int p1] : List Value).toArray below meth c H locs 0 0 Qz (F0 m 13 ls []) := by
    intro N
    induction N with
    | zero =>
      intro v1 v2 v3 v4 o_me o_me_court_machine H locs ls h hw hl
      exact absurd (show (none : Option (Int32 × Ob × Ob)) = some y from h) (by simp)
    | succ N ih =>
      intro v1 v2 v3 v4 o_me o_me_court_machine H locs ls h hw hl
      have h : lb_X7_alikeMost_13 o_me_court o_me_court_isles o_me_court_isles_now o_pool  (lp_X7_alikeMost_13 o_me_court o_me_court_isles o_me_court_isles_now o_pool  N) v1 v2 v3 v4 o_me o_me_court_machine = some y := h
      unfold lb_X7_alikeMost_13 at h
      refine lv_iload hx hb dX7_alikeMost_13 (lv_at hl 4 rfl) ?_
      refine lv_aload_n hx hb dX7_alikeMost_15 rfl (lv_at hl 0 rfl) ?_
      refine fgX7_1 hx hb hts hown hK hw 0 rfl kw387 dX7_alikeMost_16 ?_
      refine fgX2_7 hx hb hts hown hK hw 2 rfl kw316 dX7_alikeMost_19 ?_
      refine lv_icmp_ge (tgt := 83) hx hb dX7_alikeMost_22 (by decide) (fun c => ?_) (fun c => ?_)
      · have h := z_t h c
        refine lv_iload_n hx hb dX7_alikeMost_83 rfl (lv_at hl 3 rfl) ?_
        have hy := Option.some.inj h
        rw [← hQz, ← hy]
        exact xr_i (v := v3) hx hb hr rfl hlk hK hw dX7_alikeMost_84
      · have h := z_f h c
        refine lv_iload_n hx hb dX7_alikeMost_25 rfl (lv_at hl 1 rfl) ?_
        refine lv_iload hx hb dX7_alikeMost_26 (lv_at hl 4 rfl) ?_
        refine lv_ishr hx hb dX7_alikeMost_28 ?_
        refine lv_iconst (v := 1) hx hb dX7_alikeMost_29 (by decide) ?_
        refine lv_iand hx hb dX7_alikeMost_30 ?_
        refine lv_iconst (v := 1) hx hb dX7_alikeMost_31 (by decide) ?_
        refine lv_icmp_ne (tgt := 77) hx hb dX7_alikeMost_32 (by decide) (fun c => ?_) (fun c => ?_)
        · have h := z_f h c
          exact bk_77_1 (lp_X7_alikeMost_13 o_me_court o_me_court_isles o_me_court_isles_now o_pool  N) ih v1 v2 v3 v4 o_me o_me_court_machine _ _ _ h hw (lv_sub hl [0, 1, 2, 3, 4] rfl)
        · have h := z_t h c
          refine lv_aload_n hx hb dX7_alikeMost_35 rfl (lv_at hl 0 rfl) ?_
          refine fgX7_0 hx hb hts hown hK hw 0 rfl kw386 dX7_alikeMost_36 ?_
          refine lv_aload_n hx hb dX7_alikeMost_39 rfl (lv_at hl 0 rfl) ?_
          refine fgX7_1 hx hb hts hown hK hw 0 rfl kw387 dX7_alikeMost_40 ?_
          obtain ⟨z3, ez3, h⟩ := z_bd h
          refine xj_q (xrV (As := []) (rest := [.ref h_me_court]) ⟨hx, hb, hml, hown, hts⟩ (m_X2_lawInForce l dC dI _ h_me_court_isles h_me_court_isles_now q_me_court_isles k_me_court_isles o_me_court_isles z3 ez3) kw531 kw955 kw529 kw530 kw115 hd_X2_lawInForce ⟨rfl, rfl⟩ rfl rfl ⟨rfl, rfl⟩ hX hK hw [2] (by decide) rfl rfl rfl rfl rfl hl.1 rfl rfl dX7_alikeMost_43) hw hA [2] (by decide) rfl rfl (fun H locs hw => ?_)
          have hw : Wd dC dI A s.heap [wX7 h_me h_me_court h_me_court_isles q_me k_me o_me, wX1 h_me_court h_me_court_isles h_me_court_machine q_me_court k_me_court o_me_court, wX2 h_me_court_isles h_me_court_isles_now q_me_court_isles k_me_court_isles o_me_court_isles, wX4 h_me_court_isles_now q_me_court_isles_now k_me_court_isles_now o_me_court_isles_now, wX3 h_me_court_machine q_me_court_machine k_me_court_machine o_me_court_machine, wPL o_pool] H locs := hw
          refine lv_iload hx hb dX7_alikeMost_46 (lv_at hl 4 rfl) ?_
          refine lv_iload_n hx hb dX7_alikeMost_48 rfl (lv_at hl 2 rfl) ?_
          obtain ⟨z4, ez4, h⟩ := z_bd h
          refine xj_i (xrV (As := [va_rf z3, .int v4, .int v2]) (rest := []) ⟨hx, hb, hml, hown, hts⟩ (m_X1_turnsTo_Q l dC dI _ h_me_court h_me_court_isles h_me_court_machine h_me_court_isles_now q_me_court k_me_court q_me_court_isles k_me_court_isles q_me_court_isles_now k_me_court_isles_now q_me_court_machine k_me_court_machine o_me_court o_me_court_isles o_me_court_isles_now o_me_court_machine o_pool z3 v4 v2 z4 ez4) kw875 kw991 kw873 kw874 kw117 hd_X1_turnsTo ⟨rfl, rfl⟩ rfl rfl ⟨rfl, rfl⟩ hX hK hw [1, 2, 3, 4, 5] (by decide) rfl rfl rfl rfl rfl hl.1 rfl rfl dX7_alikeMost_49) hw hA [1, 2, 3, 4, 5] (by decide) rfl rfl (fun H locs hw => ?_)
          have hw : Wd dC dI A s.heap [wX7 h_me h_me_court h_me_court_isles q_me k_me o_me, wX1 h_me_court h_me_court_isles h_me_court_machine q_me_court k_me_court o_me_court, wX2 h_me_court_isles h_me_court_isles_now q_me_court_isles k_me_court_isles o_me_court_isles, wX4 h_me_court_isles_now q_me_court_isles_now k_me_court_isles_now o_me_court_isles_now, wX3 h_me_court_machine q_me_court_machine k_me_court_machine z4.2, wPL o_pool] H locs := hw
          refine lv_istore (lv' := [(5, .int z4.1), (0, .ref h_me), (1, .int v1), (2, .int v2), (3, .int v3), (4, .int v4)]) hx hb dX7_alikeMost_52 hl (by decide) rfl (fun ls hl => ?_)
          refine lv_aload_n hx hb dX7_alikeMost_54 rfl (lv_at hl 1 rfl) ?_
          refine fgX7_6 hx hb hts hown hK hw 0 rfl kw393 dX7_alikeMost_55 ?_
          refine lv_iload hx hb dX7_alikeMost_58 (lv_at hl 0 rfl) ?_
          refine lv_dup2_11 hx hb dX7_alikeMost_60 rfl rfl ?_
          obtain ⟨g5, h⟩ := z_gd h
          refine faX7_6 hx hb hK hw 0 rfl rfl g5 dX7_alikeMost_61 ?_
          refine lv_iconst (v := 1) hx hb dX7_alikeMost_62 (by decide) ?_
          refine lv_iadd hx hb dX7_alikeMost_63 ?_
          obtain ⟨g6, h⟩ := z_gd h
          refine fbX7_6 hx hb hK hw 0 rfl rfl g6 dX7_alikeMost_64 (fun H locs hw => ?_)
          obtain ⟨o7, eo7, h⟩ := z_lt h
          have hw : Wd dC dI A s.heap [wX7 h_me h_me_court h_me_court_isles q_me k_me o7, wX1 h_me_court h_me_court_isles h_me_court_machine q_me_court k_me_court o_me_court, wX2 h_me_court_isles h_me_court_isles_now q_me_court_isles k_me_court_isles o_me_court_isles, wX4 h_me_court_isles_now q_me_court_isles_now k_me_court_isles_now o_me_court_isles_now, wX3 h_me_court_machine q_me_court_machine k_me_court_machine z4.2, wPL o_pool] H locs := by rw [eo7]; exact hw
          refine lv_iload_n hx hb dX7_alikeMost_65 rfl (lv_at hl 4 rfl) ?_
          refine lv_aload_n hx hb dX7_alikeMost_66 rfl (lv_at hl 1 rfl) ?_
          refine fgX7_6 hx hb hts hown hK hw 0 rfl kw393 dX7_alikeMost_67 ?_
          refine lv_iload hx hb dX7_alikeMost_70 (lv_at hl 0 rfl) ?_
          obtain ⟨g8, h⟩ := z_gd h
          refine faX7_6 hx hb hK hw 0 rfl rfl g8 dX7_alikeMost_72 ?_
          refine va_mmax hx hb (hml.trans hl.1.symm) hown (hts _ kw1008) (hts _ kw149) (hts _ kw113) (hts _ kw150) (Nat.le_of_ble_eq_true rfl) (Nat.le_of_ble_eq_true rfl) (Nat.le_of_ble_eq_true rfl) (Nat.le_of_ble_eq_true rfl) dX7_alikeMost_73 ?_
          obtain ⟨x9, ex9, h⟩ := z_lt h
          refine lv_fi (v := x9) ex9.symm ?_
          refine lv_istore_n (lv' := [(3, .int x9), (5, .int z4.1), (0, .ref h_me), (1, .int v1), (2, .int v2), (4, .int v4)]) hx hb dX7_alikeMost_76 rfl hl (by decide) rfl (fun ls hl => ?_)
          exact bk_77_1 (lp_X7_alikeMost_13 o_me_court o_me_court_isles o_me_court_isles_now o_pool  N) ih v1 v2 x9 v4 o7 z4.2 _ _ _ h hw (lv_sub hl [2, 3, 4, 0, 5] rfl)
  unfold f_X7_alikeMost at h
  refine lv_aload_n hx hb dX7_alikeMost_0 rfl (lv_at hl 0 rfl) ?_
  refine fgX7_6 hx hb hts hown hK hw 0 rfl kw393 dX7_alikeMost_1 ?_
  refine lv_iconst (v := 0) hx hb dX7_alikeMost_4 (by decide) ?_
  obtain ⟨z1, ez1, h⟩ := z_bd h
  refine xj_v (xrS (As := [.ref (q_me 6), .int (0 : Int32)]) (rest := []) ⟨hx, hb, hml, hown, hts⟩ (m_J7_fill_53178_AX7_6 l dC dI _ h_me h_me_court h_me_court_isles q_me k_me o_me (0 : Int32) z1 ez1) kw1007 kw1005 kw1006 kw127 hd_J7_fill_53178 ⟨rfl, rfl⟩ rfl rfl ⟨rfl, rfl⟩ hX hK hw [0] (by decide) rfl rfl hl.1 rfl rfl dX7_alikeMost_5) hw hA [0] (by decide) rfl rfl (fun H locs hw => ?_)
  have hw : Wd dC dI A s.heap [wX7 h_me h_me_court h_me_court_isles q_me k_me z1, wX1 h_me_court h_me_court_isles h_me_court_machine q_me_court k_me_court o_me_court, wX2 h_me_court_isles h_me_court_isles_now q_me_court_isles k_me_court_isles o_me_court_isles, wX4 h_me_court_isles_now q_me_court_isles_now k_me_court_isles_now o_me_court_isles_now, wX3 h_me_court_machine q_me_court_machine k_me_court_machine o_me_court_machine, wPL o_pool] H locs := hw
  refine lv_iconst (v := 0) hx hb dX7_alikeMost_8 (by decide) ?_
  refine lv_istore_n (lv' := [(3, .int (0 : Int32)), (0, .ref h_me), (1, .int p0), (2, .int p1)]) hx hb dX7_alikeMost_9 rfl hl (by decide) rfl (fun ls hl => ?_)
  refine lv_iconst (v := 0) hx hb dX7_alikeMost_10 (by decide) ?_
  refine lv_istore (lv' := [(4, .int (0 : Int32)), (3, .int (0 : Int32)), (0, .ref h_me), (1, .int p0), (2, .int p1)]) hx hb dX7_alikeMost_11 hl (by decide) rfl (fun ls hl => ?_)
  exact lp_13_0  zfu p0 p1 (0 : Int32) (0 : Int32) z1 o_me_court_machine _ _ _ h hw (lv_sub hl [2, 3, 4, 1, 0] rfl)

def bk_X7_raceToWatch_55 (o_me_court : Ob) (o_me_court_isles : Ob) (o_me_court_isles_now : Ob) (o_pool : List CR) (rec_25_0 : Int32 × Int32 × Int32 × Ob × Ob → Option (Int32 × Ob × Ob)) (v1 : Int32) (v2 : Int32) (v3 : Int32) (o_me : Ob) (o_me_court_machine : Ob) : Option (Int32 × Ob × Ob) :=
  zlt (v3 + (1 : Int32)) fun x5 =>
  rec_25_0 (v1, v2, x5, o_me, o_me_court_machine)
def lb_X7_raceToWatch_25 (o_me_court : Ob) (o_me_court_isles : Ob) (o_me_court_isles_now : Ob) (o_pool : List CR)  (rec_25_0 : Int32 × Int32 × Int32 × Ob × Ob → Option (Int32 × Ob × Ob)) (v1 : Int32) (v2 : Int32) (v3 : Int32) (o_me : Ob) (o_me_court_machine : Ob) : Option (Int32 × Ob × Ob) :=
  if (4 : Int32) ≤ v3 then
  (some (v2, o_me, o_me_court_machine))
  else
  ((f_X7_alikeMost o_me o_me_court o_me_court_isles o_me_court_isles_now o_me_court_machine o_pool v1 v3).bind fun z4 =>
  if (gI z4.2.1 9) ≤ z4.1 then
  (bk_X7_raceToWatch_55 o_me_court o_me_court_isles o_me_court_isles_now o_pool rec_25_0 v1 v2 v3 z4.2.1 z4.2.2)
  else
  (zlt (sI z4.2.1 9 z4.1) fun o6 =>
  bk_X7_raceToWatch_55 o_me_court o_me_court_isles o_me_court_isles_now o_pool rec_25_0 v1 v3 v3 o6 z4.2.2))
def lp_X7_raceToWatch_25 (o_me_court : Ob) (o_me_court_isles : Ob) (o_me_court_isles_now : Ob) (o_pool : List CR)  : Nat → (Int32 × Int32 × Int32 × Ob × Ob) → Option (Int32 × Ob × Ob) := zit (fun rec a => lb_X7_raceToWatch_25 o_me_court o_me_court_isles o_me_court_isles_now o_pool  rec a.1 a.2.1 a.2.2.1 a.2.2.2.1 a.2.2.2.2)
def f_X7_raceToWatch (o_me : Ob) (o_me_court : Ob) (o_me_court_isles : Ob) (o_me_court_isles_now : Ob) (o_me_court_machine : Ob) (o_pool : List CR) : Option (Int32 × Ob × Ob) :=
  (f_X7_suspects o_me o_me_court o_me_court_isles o_me_court_isles_now o_me_court_machine o_pool).bind fun z1 =>
  if z1.1 = (0 : Int32) then
  (some ((-1 : Int32), o_me, z1.2))
  else
  ((f_X7_alikeMost o_me o_me_court o_me_court_isles o_me_court_isles_now z1.2 o_pool z1.1 (0 : Int32)).bind fun z2 =>
  zlt (sI z2.2.1 9 z2.1) fun o3 =>
  lp_X7_raceToWatch_25 o_me_court o_me_court_isles o_me_court_isles_now o_pool  zfu (z1.1, (0 : Int32), (1 : Int32), o3, z2.2.2))
set_option maxHeartbeats 4000000 in
set_option maxRecDepth 100000 in
theorem m_X7_raceToWatch (l : Launch) (dC : Nat → ClassId) (dI : Nat → Nat → Nat) (sz : Nat) (h_me : Nat) (h_me_court : Nat) (h_me_court_isles : Nat) (h_me_court_machine : Nat) (h_me_court_isles_now : Nat) (q_me : Nat → Nat) (k_me : Nat → ClassId) (q_me_court : Nat → Nat) (k_me_court : Nat → ClassId) (q_me_court_isles : Nat → Nat) (k_me_court_isles : Nat → ClassId) (q_me_court_isles_now : Nat → Nat) (k_me_court_isles_now : Nat → ClassId) (q_me_court_machine : Nat → Nat) (k_me_court_machine : Nat → ClassId) (o_me : Ob) (o_me_court : Ob) (o_me_court_isles : Ob) (o_me_court_isles_now : Ob) (o_me_court_machine : Ob) (o_pool : List CR) (y : Int32 × Ob × Ob) (h : f_X7_raceToWatch o_me o_me_court o_me_court_isles o_me_court_isles_now o_me_court_machine o_pool = some y) : CI l yX7_raceToWatch cX7_raceToWatch 5 (some .int) ({ frames := 6, cells := 0, slots := 0, locals := 153 } : Room) dC dI sz [.ref h_me] [wX7 h_me h_me_court h_me_court_isles q_me k_me o_me, wX1 h_me_court h_me_court_isles h_me_court_machine q_me_court k_me_court o_me_court, wX2 h_me_court_isles h_me_court_isles_now q_me_court_isles k_me_court_isles o_me_court_isles, wX4 h_me_court_isles_now q_me_court_isles_now k_me_court_isles_now o_me_court_isles_now, wX3 h_me_court_machine q_me_court_machine k_me_court_machine o_me_court_machine, wPL o_pool] [tX7 k_me, tX1 k_me_court, tX2 k_me_court_isles, tX4 k_me_court_isles_now, tX3 k_me_court_machine, tPL o_pool] y.1 [wX7 h_me h_me_court h_me_court_isles q_me k_me y.2.1, wX1 h_me_court h_me_court_isles h_me_court_machine q_me_court k_me_court o_me_court, wX2 h_me_court_isles h_me_court_isles_now q_me_court_isles k_me_court_isles o_me_court_isles, wX4 h_me_court_isles_now q_me_court_isles_now k_me_court_isles_now o_me_court_isles_now, wX3 h_me_court_machine q_me_court_machine k_me_court_machine y.2.2, wPL o_pool] := by
  refine CC_of (by decide) (Nat.le_of_ble_eq_true rfl) ?_
  intro p e s m below meth c A ls hx hb hml hr hlk hnm hown hts hX hK hP hD hA hl
  have hl : lv_has ls 5 [(0, .ref h_me)] := hl
  have hown : s.vm.findClass RX7 = some m.cls := hown
  have hw : Wd dC dI A s.heap [wX7 h_me h_me_court h_me_court_isles q_me k_me o_me, wX1 h_me_court h_me_court_isles h_me_court_machine q_me_court k_me_court o_me_court, wX2 h_me_court_isles h_me_court_isles_now q_me_court_isles k_me_court_isles o_me_court_isles, wX4 h_me_court_isles_now q_me_court_isles_now k_me_court_isles_now o_me_court_isles_now, wX3 h_me_court_machine q_me_court_machine k_me_court_machine o_me_court_machine, wPL o_pool] s.heap [] := ⟨hP, hD, va_S.rf⟩
  generalize hQz : (MQ below (QI dC dI (fun r (_ : Unit) => r = y.1) (fun _ => Jn [wX7 h_me h_me_court h_me_court_isles q_me k_me y.2.1, wX1 h_me_court h_me_court_isles h_me_court_machine q_me_court k_me_court o_me_court, wX2 h_me_court_isles h_me_court_isles_now q_me_court_isles k_me_court_isles o_me_court_isles, wX4 h_me_court_isles_now q_me_court_isles_now k_me_court_isles_now o_me_court_isles_now, wX3 h_me_court_machine q_me_court_machine k_me_court_machine y.2.2, wPL o_pool]) (fun _ => Jt [tX7 k_me, tX1 k_me_court, tX2 k_me_court_isles, tX4 k_me_court_isles_now, tX3 k_me_court_machine, tPL o_pool]) A) ([.ref h_me] : List Value).toArray s 0 0 A) = Qz
  clear hP hD hnm
  have bk_55_1 : ∀ (rec_25_0 : Int32 × Int32 × Int32 × Ob × Ob → Option (Int32 × Ob × Ob)) (hrec_25_0 : ∀ (v1 : Int32) (v2 : Int32) (v3 : Int32) (o_me : Ob) (o_me_court_machine : Ob) (H : Heap) (locs : List Loc) (ls : Array Slot), rec_25_0 (v1, v2, v3, o_me, o_me_court_machine) = some y → Wd dC dI A s.heap [wX7 h_me h_me_court h_me_court_isles q_me k_me o_me, wX1 h_me_court h_me_court_isles h_me_court_machine q_me_court k_me_court o_me_court, wX2 h_me_court_isles h_me_court_isles_now q_me_court_isles k_me_court_isles o_me_court_isles, wX4 h_me_court_isles_now q_me_court_isles_now k_me_court_isles_now o_me_court_isles_now, wX3 h_me_court_machine q_me_court_machine k_me_court_machine o_me_court_machine, wPL o_pool] H locs → lv_has ls 5 [(0, .ref h_me), (1, .int v1), (2, .int v2), (3, .int v3)] → W p l e ({ frames := 6, cells := 0, slots := 0, locals := 153 } : Room) s m ([.ref h_me] : List Value).toArray below meth c H locs 0 0 Qz (F0 m 25 ls [])), ∀ (v1 : Int32) (v2 : Int32) (v3 : Int32) (o_me : Ob) (o_me_court_machine : Ob) (H : Heap) (locs : List Loc) (ls : Array Slot), bk_X7_raceToWatch_55 o_me_court o_me_court_isles o_me_court_isles_now o_pool rec_25_0 v1 v2 v3 o_me o_me_court_machine = some y → Wd dC dI A s.heap [wX7 h_me h_me_court h_me_court_isles q_me k_me o_me, wX1 h_me_court h_me_court_isles h_me_court_machine q_me_court k_me_court o_me_court, wX2 h_me_court_isles h_me_court_isles_now q_me_court_isles k_me_court_isles o_me_court_isles, wX4 h_me_court_isles_now q_me_court_isles_now k_me_court_isles_now o_me_court_isles_now, wX3 h_me_court_machine q_me_court_machine k_me_court_machine o_me_court_machine, wPL o_pool] H locs → lv_has ls 5 [(0, .ref h_me), (1, .int v1), (2, .int v2), (3, .int v3)] → W p l e ({ frames := 6, cells := 0, slots := 0, locals := 153 } : Room) s m ([.ref h_me] : List Value).toArray below meth c H locs 0 0 Qz (F0 m 55 ls []) := by
    intro rec_25_0 hrec_25_0
    intro v1 v2 v3 o_me o_me_court_machine H locs ls h hw hl
    unfold bk_X7_raceToWatch_55 at h
    obtain ⟨x5, ex5, h⟩ := z_lt h
    refine lv_iinc (v := x5) (lv' := [(3, .int x5), (0, .ref h_me), (1, .int v1), (2, .int v2)]) hx hb dX7_raceToWatch_55 hl (k := 3) rfl ((congrArg (v3 + ·) (show Int32.ofInt 1 = (1 : Int32) from by decide)).trans ex5.symm) (by decide) rfl (fun ls hl => ?_)
    refine lv_goto (tgt := 25) hx hb dX7_raceToWatch_58 (by decide) ?_
    exact hrec_25_0 v1 v2 x5 o_me o_me_court_machine _ _ _ h hw (lv_sub hl [1, 2, 3, 0] rfl)
  have lp_25_0 : ∀ (N : Nat), ∀ (v1 : Int32) (v2 : Int32) (v3 : Int32) (o_me : Ob) (o_me_court_machine : Ob) (H : Heap) (locs : List Loc) (ls : Array Slot), lp_X7_raceToWatch_25 o_me_court o_me_court_isles o_me_court_isles_now o_pool  N (v1, v2, v3, o_me, o_me_court_machine) = some y → Wd dC dI A s.heap [wX7 h_me h_me_court h_me_court_isles q_me k_me o_me, wX1 h_me_court h_me_court_isles h_me_court_machine q_me_court k_me_court o_me_court, wX2 h_me_court_isles h_me_court_isles_now q_me_court_isles k_me_court_isles o_me_court_isles, wX4 h_me_court_isles_now q_me_court_isles_now k_me_court_isles_now o_me_court_isles_now, wX3 h_me_court_machine q_me_court_machine k_me_court_machine o_me_court_machine, wPL o_pool] H locs → lv_has ls 5 [(0, .ref h_me), (1, .int v1), (2, .int v2), (3, .int v3)] → W p l e ({ frames := 6, cells := 0, slots := 0, locals := 153 } : Room) s m ([.ref h_me] : List Value).toArray below meth c H locs 0 0 Qz (F0 m 25 ls []) := by
    intro N
    induction N with
    | zero =>
      intro v1 v2 v3 o_me o_me_court_machine H locs ls h hw hl
      exact absurd (show (none : Option (Int32 × Ob × Ob)) = some y from h) (by simp)
    | succ N ih =>
      intro v1 v2 v3 o_me o_me_court_machine H locs ls h hw hl
      have h : lb_X7_raceToWatch_25 o_me_court o_me_court_isles o_me_court_isles_now o_pool  (lp_X7_raceToWatch_25 o_me_court o_me_court_isles o_me_court_isles_now o_pool  N) v1 v2 v3 o_me o_me_court_machine = some y := h
      unfold lb_X7_raceToWatch_25 at h
      refine lv_iload_n hx hb dX7_raceToWatch_25 rfl (lv_at hl 3 rfl) ?_
      refine lv_iconst (v := 4) hx hb dX7_raceToWatch_26 (by decide) ?_
      refine lv_icmp_ge (tgt := 61) hx hb dX7_raceToWatch_27 (by decide) (fun c => ?_) (fun c => ?_)
      · have h := z_t h c
        refine lv_iload_n hx hb dX7_raceToWatch_61 rfl (lv_at hl 2 rfl) ?_
        have hy := Option.some.inj h
        rw [← hQz, ← hy]
        exact xr_i (v := v2) hx hb hr rfl hlk hK hw dX7_raceToWatch_62
      · have h := z_f h c
        refine lv_aload_n hx hb dX7_raceToWatch_30 rfl (lv_at hl 0 rfl) ?_
        refine lv_iload_n hx hb dX7_raceToWatch_31 rfl (lv_at hl 1 rfl) ?_
        refine lv_iload_n hx hb dX7_raceToWatch_32 rfl (lv_at hl 3 rfl) ?_
        obtain ⟨z4, ez4, h⟩ := z_bd h
        refine xj_i (xrV (As := [.int v1, .int v3]) (rest := []) ⟨hx, hb, hml, hown, hts⟩ (m_X7_alikeMost l dC dI _ h_me h_me_court h_me_court_isles h_me_court_machine h_me_court_isles_now q_me k_me q_me_court k_me_court q_me_court_isles k_me_court_isles q_me_court_isles_now k_me_court_isles_now q_me_court_machine k_me_court_machine o_me o_me_court o_me_court_isles o_me_court_isles_now o_me_court_machine o_pool v1 v3 z4 ez4) kw1004 kw1001 kw1003 kw30 kw118 hd_X7_alikeMost ⟨rfl, rfl⟩ rfl rfl ⟨rfl, rfl⟩ hX hK hw [0, 1, 2, 3, 4, 5] (by decide) rfl rfl rfl rfl rfl hl.1 rfl rfl dX7_raceToWatch_33) hw hA [0, 1, 2, 3, 4, 5] (by decide) rfl rfl (fun H locs hw => ?_)
        have hw : Wd dC dI A s.heap [wX7 h_me h_me_court h_me_court_isles q_me k_me z4.2.1, wX1 h_me_court h_me_court_isles h_me_court_machine q_me_court k_me_court o_me_court, wX2 h_me_court_isles h_me_court_isles_now q_me_court_isles k_me_court_isles o_me_court_isles, wX4 h_me_court_isles_now q_me_court_isles_now k_me_court_isles_now o_me_court_isles_now, wX3 h_me_court_machine q_me_court_machine k_me_court_machine z4.2.2, wPL o_pool] H locs := hw
        refine lv_istore (lv' := [(4, .int z4.1), (0, .ref h_me), (1, .int v1), (2, .int v2), (3, .int v3)]) hx hb dX7_raceToWatch_36 hl (by decide) rfl (fun ls hl => ?_)
        refine lv_iload hx hb dX7_raceToWatch_38 (lv_at hl 0 rfl) ?_
        refine lv_aload_n hx hb dX7_raceToWatch_40 rfl (lv_at hl 1 rfl) ?_
        refine fgX7_9 hx hb hts hown hK hw 0 rfl kw396 dX7_raceToWatch_41 ?_
        refine lv_icmp_ge (tgt := 55) hx hb dX7_raceToWatch_44 (by decide) (fun c => ?_) (fun c => ?_)
        · have h := z_t h c
          exact bk_55_1 (lp_X7_raceToWatch_25 o_me_court o_me_court_isles o_me_court_isles_now o_pool  N) ih v1 v2 v3 z4.2.1 z4.2.2 _ _ _ h hw (lv_sub hl [1, 2, 3, 4] rfl)
        · have h := z_f h c
          refine lv_aload_n hx hb dX7_raceToWatch_47 rfl (lv_at hl 1 rfl) ?_
          refine lv_iload hx hb dX7_raceToWatch_48 (lv_at hl 0 rfl) ?_
          refine fpX7_9 hx hb hts hown hK hw 0 rfl kw396 dX7_raceToWatch_50 (fun H locs hw => ?_)
          obtain ⟨o6, eo6, h⟩ := z_lt h
          have hw : Wd dC dI A s.heap [wX7 h_me h_me_court h_me_court_isles q_me k_me o6, wX1 h_me_court h_me_court_isles h_me_court_machine q_me_court k_me_court o_me_court, wX2 h_me_court_isles h_me_court_isles_now q_me_court_isles k_me_court_isles o_me_court_isles, wX4 h_me_court_isles_now q_me_court_isles_now k_me_court_isles_now o_me_court_isles_now, wX3 h_me_court_machine q_me_court_machine k_me_court_machine z4.2.2, wPL o_pool] H locs := by rw [eo6]; exact hw
          refine lv_iload_n hx hb dX7_raceToWatch_53 rfl (lv_at hl 4 rfl) ?_
          refine lv_istore_n (lv' := [(2, .int v3), (4, .int z4.1), (0, .ref h_me), (1, .int v1), (3, .int v3)]) hx hb dX7_raceToWatch_54 rfl hl (by decide) rfl (fun ls hl => ?_)
          exact bk_55_1 (lp_X7_raceToWatch_25 o_me_court o_me_court_isles o_me_court_isles_now o_pool  N) ih v1 v3 v3 o6 z4.2.2 _ _ _ h hw (lv_sub hl [2, 3, 0, 4] rfl)
  unfold f_X7_raceToWatch at h
  refine lv_aload_n hx hb dX7_raceToWatch_0 rfl (lv_at hl 0 rfl) ?_
  obtain ⟨z1, ez1, h⟩ := z_bd h
  refine xj_i (xrV (As := []) (rest := []) ⟨hx, hb, hml, hown, hts⟩ (m_X7_suspects l dC dI _ h_me h_me_court h_me_court_isles h_me_court_machine h_me_court_isles_now q_me k_me q_me_court k_me_court q_me_court_isles k_me_court_isles q_me_court_isles_now k_me_court_isles_now q_me_court_machine k_me_court_machine o_me o_me_court o_me_court_isles o_me_court_isles_now o_me_court_machine o_pool z1 ez1) kw986 kw1000 kw984 kw985 kw118 hd_X7_suspects ⟨rfl, rfl⟩ rfl rfl ⟨rfl, rfl⟩ hX hK hw [0, 1, 2, 3, 4, 5] (by decide) rfl rfl rfl rfl rfl hl.1 rfl rfl dX7_raceToWatch_1) hw hA [0, 1, 2, 3, 4, 5] (by decide) rfl rfl (fun H locs hw => ?_)
  have hw : Wd dC dI A s.heap [wX7 h_me h_me_court h_me_court_isles q_me k_me o_me, wX1 h_me_court h_me_court_isles h_me_court_machine q_me_court k_me_court o_me_court, wX2 h_me_court_isles h_me_court_isles_now q_me_court_isles k_me_court_isles o_me_court_isles, wX4 h_me_court_isles_now q_me_court_isles_now k_me_court_isles_now o_me_court_isles_now, wX3 h_me_court_machine q_me_court_machine k_me_court_machine z1.2, wPL o_pool] H locs := hw
  refine lv_istore_n (lv' := [(1, .int z1.1), (0, .ref h_me)]) hx hb dX7_raceToWatch_4 rfl hl (by decide) rfl (fun ls hl => ?_)
  refine lv_iload_n hx hb dX7_raceToWatch_5 rfl (lv_at hl 0 rfl) ?_
  refine lv_if_ne (tgt := 11) hx hb dX7_raceToWatch_6 (by decide) (fun c => ?_) (fun c => ?_)
  · have h := z_f h c
    refine lv_iconst (v := 0) hx hb dX7_raceToWatch_11 (by decide) ?_
    refine lv_istore_n (lv' := [(2, .int (0 : Int32)), (1, .int z1.1), (0, .ref h_me)]) hx hb dX7_raceToWatch_12 rfl hl (by decide) rfl (fun ls hl => ?_)
    refine lv_aload_n hx hb dX7_raceToWatch_13 rfl (lv_at hl 2 rfl) ?_
    refine lv_aload_n hx hb dX7_raceToWatch_14 rfl (lv_at hl 2 rfl) ?_
    refine lv_iload_n hx hb dX7_raceToWatch_15 rfl (lv_at hl 1 rfl) ?_
    refine lv_iconst (v := 0) hx hb dX7_raceToWatch_16 (by decide) ?_
    obtain ⟨z2, ez2, h⟩ := z_bd h
    refine xj_i (xrV (As := [.int z1.1, .int (0 : Int32)]) (rest := [.ref h_me]) ⟨hx, hb, hml, hown, hts⟩ (m_X7_alikeMost l dC dI _ h_me h_me_court h_me_court_isles h_me_court_machine h_me_court_isles_now q_me k_me q_me_court k_me_court q_me_court_isles k_me_court_isles q_me_court_isles_now k_me_court_isles_now q_me_court_machine k_me_court_machine o_me o_me_court o_me_court_isles o_me_court_isles_now z1.2 o_pool z1.1 (0 : Int32) z2 ez2) kw1004 kw1001 kw1003 kw30 kw118 hd_X7_alikeMost ⟨rfl, rfl⟩ rfl rfl ⟨rfl, rfl⟩ hX hK hw [0, 1, 2, 3, 4, 5] (by decide) rfl rfl rfl rfl rfl hl.1 rfl rfl dX7_raceToWatch_17) hw hA [0, 1, 2, 3, 4, 5] (by decide) rfl rfl (fun H locs hw => ?_)
    have hw : Wd dC dI A s.heap [wX7 h_me h_me_court h_me_court_isles q_me k_me z2.2.1, wX1 h_me_court h_me_court_isles h_me_court_machine q_me_court k_me_court o_me_court, wX2 h_me_court_isles h_me_court_isles_now q_me_court_isles k_me_court_isles o_me_court_isles, wX4 h_me_court_isles_now q_me_court_isles_now k_me_court_isles_now o_me_court_isles_now, wX3 h_me_court_machine q_me_court_machine k_me_court_machine z2.2.2, wPL o_pool] H locs := hw
    refine fpX7_9 hx hb hts hown hK hw 0 rfl kw396 dX7_raceToWatch_20 (fun H locs hw => ?_)
    obtain ⟨o3, eo3, h⟩ := z_lt h
    have hw : Wd dC dI A s.heap [wX7 h_me h_me_court h_me_court_isles q_me k_me o3, wX1 h_me_court h_me_court_isles h_me_court_machine q_me_court k_me_court o_me_court, wX2 h_me_court_isles h_me_court_isles_now q_me_court_isles k_me_court_isles o_me_court_isles, wX4 h_me_court_isles_now q_me_court_isles_now k_me_court_isles_now o_me_court_isles_now, wX3 h_me_court_machine q_me_court_machine k_me_court_machine z2.2.2, wPL o_pool] H locs := by rw [eo3]; exact hw
    refine lv_iconst (v := 1) hx hb dX7_raceToWatch_23 (by decide) ?_
    refine lv_istore_n (lv' := [(3, .int (1 : Int32)), (2, .int (0 : Int32)), (1, .int z1.1), (0, .ref h_me)]) hx hb dX7_raceToWatch_24 rfl hl (by decide) rfl (fun ls hl => ?_)
    exact lp_25_0  zfu z1.1 (0 : Int32) (1 : Int32) o3 z2.2.2 _ _ _ h hw (lv_sub hl [3, 2, 1, 0] rfl)
  · have h := z_t h c
    refine lv_iconst (v := (-1)) hx hb dX7_raceToWatch_9 (by decide) ?_
    have hy := Option.some.inj h
    rw [← hQz, ← hy]
    exact xr_i (v := (-1 : Int32)) hx hb hr rfl hlk hK hw dX7_raceToWatch_10

def bk_X8_look_28 (o_me : Ob) (o_me_isles : Ob) (o_me_isles_now : Ob) (o_me_court : Ob) (o_pool : List CR)  (v2 : Int32) (o_me_machine : Ob) (o_me_study : Ob) : Option (Int32 × Ob × Ob) :=
  some (v2, o_me_machine, o_me_study)
def f_X8_look (o_me : Ob) (o_me_machine : Ob) (o_me_isles : Ob) (o_me_isles_now : Ob) (o_me_court : Ob) (o_me_study : Ob) (o_pool : List CR) (p0 : Int32) : Option (Int32 × Ob × Ob) :=
  if p0 < (0 : Int32) then
  (some ((-1 : Int32), o_me_machine, o_me_study))
  else
  (if p0 ≤ (1 : Int32) then
  ((f_X7_raceToWatch o_me_study o_me_court o_me_isles o_me_isles_now o_me_machine o_pool).bind fun z1 =>
  if p0 = (0 : Int32) then
  (bk_X8_look_28 o_me o_me_isles o_me_isles_now o_me_court o_pool  z1.1 z1.2.2 z1.2.1)
  else
  (if z1.1 = (-1 : Int32) then
  (bk_X8_look_28 o_me o_me_isles o_me_isles_now o_me_court o_pool  z1.1 z1.2.2 z1.2.1)
  else
  (some (gI z1.2.1 9, z1.2.2, z1.2.1))))
  else
  (some ((-1 : Int32), o_me_machine, o_me_study)))
set_option maxHeartbeats 4000000 in
set_option maxRecDepth 100000 in
theorem m_X8_look (l : Launch) (dC : Nat → ClassId) (dI : Nat → Nat → Nat) (sz : Nat) (h_me : Nat) (h_me_reader : Nat) (h_me_machine : Nat) (h_me_isles : Nat) (h_me_court : Nat) (h_me_study : Nat) (h_me_paper : Nat) (h_me_paperCourt : Nat) (h_me_past : Nat) (h_me_pastAhead : Nat) (h_me_movingAhead : Nat) (h_me_isles_now : Nat) (q_me : Nat → Nat) (k_me : Nat → ClassId) (q_me_machine : Nat → Nat) (k_me_machine : Nat → ClassId) (q_me_isles : Nat → Nat) (k_me_isles : Nat → ClassId) (q_me_isles_now : Nat → Nat) (k_me_isles_now : Nat → ClassId) (q_me_court : Nat → Nat) (k_me_court : Nat → ClassId) (q_me_study : Nat → Nat) (k_me_study : Nat → ClassId) (o_me : Ob) (o_me_machine : Ob) (o_me_isles : Ob) (o_me_isles_now : Ob) (o_me_court : Ob) (o_me_study : Ob) (o_pool : List CR) (p0 : Int32) (y : Int32 × Ob × Ob) (h : f_X8_look o_me o_me_machine o_me_isles o_me_isles_now o_me_court o_me_study o_pool p0 = some y) : CI l yX8_look cX8_look 3 (some .int) ({ frames := 7, cells := 0, slots := 0, locals := 177 } : Room) dC dI sz [.ref h_me, .int p0] [wX8 h_me h_me_reader h_me_machine h_me_isles h_me_court h_me_study h_me_paper h_me_paperCourt h_me_past h_me_pastAhead h_me_movingAhead q_me k_me o_me, wX3 h_me_machine q_me_machine k_me_machine o_me_machine, wX2 h_me_isles h_me_isles_now q_me_isles k_me_isles o_me_isles, wX4 h_me_isles_now q_me_isles_now k_me_isles_now o_me_isles_now, wX1 h_me_court h_me_isles h_me_machine q_me_court k_me_court o_me_court, wX7 h_me_study h_me_court h_me_isles q_me_study k_me_study o_me_study, wPL o_pool] [tX8 k_me, tX3 k_me_machine, tX2 k_me_isles, tX4 k_me_isles_now, tX1 k_me_court, tX7 k_me_study, tPL o_pool] y.1 [wX8 h_me h_me_reader h_me_machine h_me_isles h_me_court h_me_study h_me_paper h_me_paperCourt h_me_past h_me_pastAhead h_me_movingAhead q_me k_me o_me, wX3 h_me_machine q_me_machine k_me_machine y.2.1, wX2 h_me_isles h_me_isles_now q_me_isles k_me_isles o_me_isles, wX4 h_me_isles_now q_me_isles_now k_me_isles_now o_me_isles_now, wX1 h_me_court h_me_isles h_me_machine q_me_court k_me_court o_me_court, wX7 h_me_study h_me_court h_me_isles q_me_study k_me_study y.2.2, wPL o_pool] := by
  refine CC_of (by decide) (Nat.le_of_ble_eq_true rfl) ?_
  intro p e s m below meth c A ls hx hb hml hr hlk hnm hown hts hX hK hP hD hA hl
  have hl : lv_has ls 3 [(0, .ref h_me), (1, .int p0)] := hl
  have hown : s.vm.findClass RX8 = some m.cls := hown
  have hw : Wd dC dI A s.heap [wX8 h_me h_me_reader h_me_machine h_me_isles h_me_court h_me_study h_me_paper h_me_paperCourt h_me_past h_me_pastAhead h_me_movingAhead q_me k_me o_me, wX3 h_me_machine q_me_machine k_me_machine o_me_machine, wX2 h_me_isles h_me_isles_now q_me_isles k_me_isles o_me_isles, wX4 h_me_isles_now q_me_isles_now k_me_isles_now o_me_isles_now, wX1 h_me_court h_me_isles h_me_machine q_me_court k_me_court o_me_court, wX7 h_me_study h_me_court h_me_isles q_me_study k_me_study o_me_study, wPL o_pool] s.heap [] := ⟨hP, hD, va_S.rf⟩
  generalize hQz : (MQ below (QI dC dI (fun r (_ : Unit) => r = y.1) (fun _ => Jn [wX8 h_me h_me_reader h_me_machine h_me_isles h_me_court h_me_study h_me_paper h_me_paperCourt h_me_past h_me_pastAhead h_me_movingAhead q_me k_me o_me, wX3 h_me_machine q_me_machine k_me_machine y.2.1, wX2 h_me_isles h_me_isles_now q_me_isles k_me_isles o_me_isles, wX4 h_me_isles_now q_me_isles_now k_me_isles_now o_me_isles_now, wX1 h_me_court h_me_isles h_me_machine q_me_court k_me_court o_me_court, wX7 h_me_study h_me_court h_me_isles q_me_study k_me_study y.2.2, wPL o_pool]) (fun _ => Jt [tX8 k_me, tX3 k_me_machine, tX2 k_me_isles, tX4 k_me_isles_now, tX1 k_me_court, tX7 k_me_study, tPL o_pool]) A) ([.ref h_me, .int p0] : List Value).toArray s 0 0 A) = Qz
  clear hP hD hnm
  have bk_28_0 : ∀ (v2 : Int32) (o_me_machine : Ob) (o_me_study : Ob) (H : Heap) (locs : List Loc) (ls : Array Slot), bk_X8_look_28 o_me o_me_isles o_me_isles_now o_me_court o_pool  v2 o_me_machine o_me_study = some y → Wd dC dI A s.heap [wX8 h_me h_me_reader h_me_machine h_me_isles h_me_court h_me_study h_me_paper h_me_paperCourt h_me_past h_me_pastAhead h_me_movingAhead q_me k_me o_me, wX3 h_me_machine q_me_machine k_me_machine o_me_machine, wX2 h_me_isles h_me_isles_now q_me_isles k_me_isles o_me_isles, wX4 h_me_isles_now q_me_isles_now k_me_isles_now o_me_isles_now, wX1 h_me_court h_me_isles h_me_machine q_me_court k_me_court o_me_court, wX7 h_me_study h_me_court h_me_isles q_me_study k_me_study o_me_study, wPL o_pool] H locs → lv_has ls 3 [(2, .int v2)] → W p l e ({ frames := 7, cells := 0, slots := 0, locals := 177 } : Room) s m ([.ref h_me, .int p0] : List Value).toArray below meth c H locs 0 0 Qz (F0 m 28 ls []) := by
    intro v2 o_me_machine o_me_study H locs ls h hw hl
    unfold bk_X8_look_28 at h
    refine lv_iload_n hx hb dX8_look_28 rfl (lv_at hl 0 rfl) ?_
    refine lv_goto (tgt := 39) hx hb dX8_look_29 (by decide) ?_
    have hy := Option.some.inj h
    rw [← hQz, ← hy]
    exact xr_i (v := v2) hx hb hr rfl hlk hK hw dX8_look_39
  unfold f_X8_look at h
  refine lv_iload_n hx hb dX8_look_0 rfl (lv_at hl 1 rfl) ?_
  refine lv_if_lt (tgt := 9) hx hb dX8_look_1 (by decide) (fun c => ?_) (fun c => ?_)
  · have h := z_t h c
    refine lv_iconst (v := (-1)) hx hb dX8_look_9 (by decide) ?_
    have hy := Option.some.inj h
    rw [← hQz, ← hy]
    exact xr_i (v := (-1 : Int32)) hx hb hr rfl hlk hK hw dX8_look_10
  · have h := z_f h c
    refine lv_iload_n hx hb dX8_look_4 rfl (lv_at hl 1 rfl) ?_
    refine lv_iconst (v := 1) hx hb dX8_look_5 (by decide) ?_
    refine lv_icmp_le (tgt := 11) hx hb dX8_look_6 (by decide) (fun c => ?_) (fun c => ?_)
    · have h := z_t h c
      refine lv_aload_n hx hb dX8_look_11 rfl (lv_at hl 0 rfl) ?_
      refine fgX8_4 hx hb hts hown hK hw 0 rfl kw446 dX8_look_12 ?_
      obtain ⟨z1, ez1, h⟩ := z_bd h
      refine xj_i (xrV (As := []) (rest := []) ⟨hx, hb, hml, hown, hts⟩ (m_X7_raceToWatch l dC dI _ h_me_study h_me_court h_me_isles h_me_machine h_me_isles_now q_me_study k_me_study q_me_court k_me_court q_me_isles k_me_isles q_me_isles_now k_me_isles_now q_me_machine k_me_machine o_me_study o_me_court o_me_isles o_me_isles_now o_me_machine o_pool z1 ez1) kw999 kw996 kw997 kw998 kw118 hd_X7_raceToWatch ⟨rfl, rfl⟩ rfl rfl ⟨rfl, rfl⟩ hX hK hw [5, 4, 2, 3, 1, 6] (by decide) rfl rfl rfl rfl rfl hl.1 rfl rfl dX8_look_15) hw hA [5, 4, 2, 3, 1, 6] (by decide) rfl rfl (fun H locs hw => ?_)
      have hw : Wd dC dI A s.heap [wX8 h_me h_me_reader h_me_machine h_me_isles h_me_court h_me_study h_me_paper h_me_paperCourt h_me_past h_me_pastAhead h_me_movingAhead q_me k_me o_me, wX3 h_me_machine q_me_machine k_me_machine z1.2.2, wX2 h_me_isles h_me_isles_now q_me_isles k_me_isles o_me_isles, wX4 h_me_isles_now q_me_isles_now k_me_isles_now o_me_isles_now, wX1 h_me_court h_me_isles h_me_machine q_me_court k_me_court o_me_court, wX7 h_me_study h_me_court h_me_isles q_me_study k_me_study z1.2.1, wPL o_pool] H locs := hw
      refine lv_istore_n (lv' := [(2, .int z1.1), (0, .ref h_me), (1, .int p0)]) hx hb dX8_look_18 rfl hl (by decide) rfl (fun ls hl => ?_)
      refine lv_iload_n hx hb dX8_look_19 rfl (lv_at hl 2 rfl) ?_
      refine lv_if_eq (tgt := 28) hx hb dX8_look_20 (by decide) (fun c => ?_) (fun c => ?_)
      · have h := z_t h c
        exact bk_28_0  z1.1 z1.2.2 z1.2.1 _ _ _ h hw (lv_sub hl [0] rfl)
      · have h := z_f h c
        refine lv_iload_n hx hb dX8_look_23 rfl (lv_at hl 0 rfl) ?_
        refine lv_iconst (v := (-1)) hx hb dX8_look_24 (by decide) ?_
        refine lv_icmp_ne (tgt := 32) hx hb dX8_look_25 (by decide) (fun c => ?_) (fun c => ?_)
        · have h := z_f h c
          refine lv_aload_n hx hb dX8_look_32 rfl (lv_at hl 1 rfl) ?_
          refine fgX8_4 hx hb hts hown hK hw 0 rfl kw446 dX8_look_33 ?_
          refine fgX7_9 hx hb hts hown hK hw 5 rfl kw397 dX8_look_36 ?_
          have hy := Option.some.inj h
          rw [← hQz, ← hy]
          exact xr_i (v := gI z1.2.1 9) hx hb hr rfl hlk hK hw dX8_look_39
        · have h := z_t h c
          exact bk_28_0  z1.1 z1.2.2 z1.2.1 _ _ _ h hw (lv_sub hl [0] rfl)
    · have h := z_f h c
      refine lv_iconst (v := (-1)) hx hb dX8_look_9 (by decide) ?_
      have hy := Option.some.inj h
      rw [← hQz, ← hy]
      exact xr_i (v := (-1 : Int32)) hx hb hr rfl hlk hK hw dX8_look_10

def bk_X7_neverSecond_69 (o_me_court : Ob) (o_me_court_isles : Ob) (o_me_court_isles_now : Ob) (o_pool : List CR) (rec_14_0 : Int32 × Int32 × Ob × Ob → Option (Int32 × Ob × Ob)) (rec_26_1 : Int32 × Int32 × Int32 × Ob × Ob → Option (Int32 × Ob × Ob)) (v1 : Int32) (v2 : Int32) (v3 : Int32) (o_me : Ob) (o_me_court_machine : Ob) : Option (Int32 × Ob × Ob) :=
  zlt (v3 + (1 : Int32)) fun x5 =>
  rec_26_1 (v1, v2, x5, o_me, o_me_court_machine)
def lb_X7_neverSecond_26 (o_me_court : Ob) (o_me_court_isles : Ob) (o_me_court_isles_now : Ob) (o_pool : List CR) (rec_14_0 : Int32 × Int32 × Ob × Ob → Option (Int32 × Ob × Ob)) (rec_26_1 : Int32 × Int32 × Int32 × Ob × Ob → Option (Int32 × Ob × Ob)) (v1 : Int32) (v2 : Int32) (v3 : Int32) (o_me : Ob) (o_me_court_machine : Ob) : Option (Int32 × Ob × Ob) :=
  if (gI o_me_court_isles 7) ≤ v3 then
  (zlt (v2 + (1 : Int32)) fun x3 =>
  rec_14_0 (v1, x3, o_me, o_me_court_machine))
  else
  (zgd (zin ((v2 * (7 : Int32)) + v3) 28) <|
  if (gA o_me 5 ((v2 * (7 : Int32)) + v3).toNatClampNeg) = (-1 : Int32) then
  (bk_X7_neverSecond_69 o_me_court o_me_court_isles o_me_court_isles_now o_pool rec_14_0 rec_26_1 v1 v2 v3 o_me o_me_court_machine)
  else
  ((f_X7_aheadOf o_me o_me_court_isles v3 v2).bind fun z6 =>
  if z6 = (0 : Int32) then
  (bk_X7_neverSecond_69 o_me_court o_me_court_isles o_me_court_isles_now o_pool rec_14_0 rec_26_1 v1 v2 v3 o_me o_me_court_machine)
  else
  (zlt (v1 &&& (((1 : Int32) <<< (v3 &&& 31)) ^^^ (-1 : Int32))) fun x7 =>
  bk_X7_neverSecond_69 o_me_court o_me_court_isles o_me_court_isles_now o_pool rec_14_0 rec_26_1 x7 v2 v3 o_me o_me_court_machine)))
def lp_X7_neverSecond_26 (o_me_court : Ob) (o_me_court_isles : Ob) (o_me_court_isles_now : Ob) (o_pool : List CR) (rec_14_0 : Int32 × Int32 × Ob × Ob → Option (Int32 × Ob × Ob)) : Nat → (Int32 × Int32 × Int32 × Ob × Ob) → Option (Int32 × Ob × Ob) := zit (fun rec a => lb_X7_neverSecond_26 o_me_court o_me_court_isles o_me_court_isles_now o_pool rec_14_0 rec a.1 a.2.1 a.2.2.1 a.2.2.2.1 a.2.2.2.2)
def lb_X7_neverSecond_14 (o_me_court : Ob) (o_me_court_isles : Ob) (o_me_court_isles_now : Ob) (o_pool : List CR)  (rec_14_0 : Int32 × Int32 × Ob × Ob → Option (Int32 × Ob × Ob)) (v1 : Int32) (v2 : Int32) (o_me : Ob) (o_me_court_machine : Ob) : Option (Int32 × Ob × Ob) :=
  if (4 : Int32) ≤ v2 then
  (some (v1, o_me, o_me_court_machine))
  else
  ((f_X7_setScores o_me o_me_court o_me_court_isles o_me_court_isles_now o_me_court_machine o_pool v2).bind fun z2 =>
  lp_X7_neverSecond_26 o_me_court o_me_court_isles o_me_court_isles_now o_pool rec_14_0 zfu (v1, v2, (0 : Int32), z2.1, z2.2))
def lp_X7_neverSecond_14 (o_me_court : Ob) (o_me_court_isles : Ob) (o_me_court_isles_now : Ob) (o_pool : List CR)  : Nat → (Int32 × Int32 × Ob × Ob) → Option (Int32 × Ob × Ob) := zit (fun rec a => lb_X7_neverSecond_14 o_me_court o_me_court_isles o_me_court_isles_now o_pool  rec a.1 a.2.1 a.2.2.1 a.2.2.2)
def f_X7_neverSecond (o_me : Ob) (o_me_court : Ob) (o_me_court_isles : Ob) (o_me_court_isles_now : Ob) (o_me_court_machine : Ob) (o_pool : List CR) : Option (Int32 × Ob × Ob) :=
  zlt (((1 : Int32) <<< ((gI o_me_court_isles 7) &&& 31)) - (1 : Int32)) fun x1 =>
  lp_X7_neverSecond_14 o_me_court o_me_court_isles o_me_court_isles_now o_pool  zfu (x1, (0 : Int32), o_me, o_me_court_machine)
set_option maxHeartbeats 4000000 in
set_option maxRecDepth 100000 in
theorem m_X7_neverSecond (l : Launch) (dC : Nat → ClassId) (dI : Nat → Nat → Nat) (sz : Nat) (h_me : Nat) (h_me_court : Nat) (h_me_court_isles : Nat) (h_me_court_machine : Nat) (h_me_court_isles_now : Nat) (q_me : Nat → Nat) (k_me : Nat → ClassId) (q_me_court : Nat → Nat) (k_me_court : Nat → ClassId) (q_me_court_isles : Nat → Nat) (k_me_court_isles : Nat → ClassId) (q_me_court_isles_now : Nat → Nat) (k_me_court_isles_now : Nat → ClassId) (q_me_court_machine : Nat → Nat) (k_me_court_machine : Nat → ClassId) (o_me : Ob) (o_me_court : Ob) (o_me_court_isles : Ob) (o_me_court_isles_now : Ob) (o_me_court_machine : Ob) (o_pool : List CR) (y : Int32 × Ob × Ob) (h : f_X7_neverSecond o_me o_me_court o_me_court_isles o_me_court_isles_now o_me_court_machine o_pool = some y) : CI l yX7_neverSecond cX7_neverSecond 4 (some .int) ({ frames := 5, cells := 0, slots := 0, locals := 132 } : Room) dC dI sz [.ref h_me] [wX7 h_me h_me_court h_me_court_isles q_me k_me o_me, wX1 h_me_court h_me_court_isles h_me_court_machine q_me_court k_me_court o_me_court, wX2 h_me_court_isles h_me_court_isles_now q_me_court_isles k_me_court_isles o_me_court_isles, wX4 h_me_court_isles_now q_me_court_isles_now k_me_court_isles_now o_me_court_isles_now, wX3 h_me_court_machine q_me_court_machine k_me_court_machine o_me_court_machine, wPL o_pool] [tX7 k_me, tX1 k_me_court, tX2 k_me_court_isles, tX4 k_me_court_isles_now, tX3 k_me_court_machine, tPL o_pool] y.1 [wX7 h_me h_me_court h_me_court_isles q_me k_me y.2.1, wX1 h_me_court h_me_court_isles h_me_court_machine q_me_court k_me_court o_me_court, wX2 h_me_court_isles h_me_court_isles_now q_me_court_isles k_me_court_isles o_me_court_isles, wX4 h_me_court_isles_now q_me_court_isles_now k_me_court_isles_now o_me_court_isles_now, wX3 h_me_court_machine q_me_court_machine k_me_court_machine y.2.2, wPL o_pool] := by
  refine CC_of (by decide) (Nat.le_of_ble_eq_true rfl) ?_
  intro p e s m below meth c A ls hx hb hml hr hlk hnm hown hts hX hK hP hD hA hl
  have hl : lv_has ls 4 [(0, .ref h_me)] := hl
  have hown : s.vm.findClass RX7 = some m.cls := hown
  have hw : Wd dC dI A s.heap [wX7 h_me h_me_court h_me_court_isles q_me k_me o_me, wX1 h_me_court h_me_court_isles h_me_court_machine q_me_court k_me_court o_me_court, wX2 h_me_court_isles h_me_court_isles_now q_me_court_isles k_me_court_isles o_me_court_isles, wX4 h_me_court_isles_now q_me_court_isles_now k_me_court_isles_now o_me_court_isles_now, wX3 h_me_court_machine q_me_court_machine k_me_court_machine o_me_court_machine, wPL o_pool] s.heap [] := ⟨hP, hD, va_S.rf⟩
  generalize hQz : (MQ below (QI dC dI (fun r (_ : Unit) => r = y.1) (fun _ => Jn [wX7 h_me h_me_court h_me_court_isles q_me k_me y.2.1, wX1 h_me_court h_me_court_isles h_me_court_machine q_me_court k_me_court o_me_court, wX2 h_me_court_isles h_me_court_isles_now q_me_court_isles k_me_court_isles o_me_court_isles, wX4 h_me_court_isles_now q_me_court_isles_now k_me_court_isles_now o_me_court_isles_now, wX3 h_me_court_machine q_me_court_machine k_me_court_machine y.2.2, wPL o_pool]) (fun _ => Jt [tX7 k_me, tX1 k_me_court, tX2 k_me_court_isles, tX4 k_me_court_isles_now, tX3 k_me_court_machine, tPL o_pool]) A) ([.ref h_me] : List Value).toArray s 0 0 A) = Qz
  clear hP hD hnm
  have bk_69_2 : ∀ (rec_14_0 : Int32 × Int32 × Ob × Ob → Option (Int32 × Ob × Ob)) (hrec_14_0 : ∀ (v1 : Int32) (v2 : Int32) (o_me : Ob) (o_me_court_machine : Ob) (H : Heap) (locs : List Loc) (ls : Array Slot), rec_14_0 (v1, v2, o_me, o_me_court_machine) = some y → Wd dC dI A s.heap [wX7 h_me h_me_court h_me_court_isles q_me k_me o_me, wX1 h_me_court h_me_court_isles h_me_court_machine q_me_court k_me_court o_me_court, wX2 h_me_court_isles h_me_court_isles_now q_me_court_isles k_me_court_isles o_me_court_isles, wX4 h_me_court_isles_now q_me_court_isles_now k_me_court_isles_now o_me_court_isles_now, wX3 h_me_court_machine q_me_court_machine k_me_court_machine o_me_court_machine, wPL o_pool] H locs → lv_has ls 4 [(0, .ref h_me), (1, .int v1), (2, .int v2)] → W p l e ({ frames := 5, cells := 0, slots := 0, locals := 132 } : Room) s m ([.ref h_me] : List Value).toArray below meth c H locs 0 0 Qz (F0 m 14 ls [])) (rec_26_1 : Int32 × Int32 × Int32 × Ob × Ob → Option (Int32 × Ob × Ob)) (hrec_26_1 : ∀ (v1 : Int32) (v2 : Int32) (v3 : Int32) (o_me : Ob) (o_me_court_machine : Ob) (H : Heap) (locs : List Loc) (ls : Array Slot), rec_26_1 (v1, v2, v3, o_me, o_me_court_machine) = some y → Wd dC dI A s.heap [wX7 h_me h_me_court h_me_court_isles q_me k_me o_me, wX1 h_me_court h_me_court_isles h_me_court_machine q_me_court k_me_court o_me_court, wX2 h_me_court_isles h_me_court_isles_now q_me_court_isles k_me_court_isles o_me_court_isles, wX4 h_me_court_isles_now q_me_court_isles_now k_me_court_isles_now o_me_court_isles_now, wX3 h_me_court_machine q_me_court_machine k_me_court_machine o_me_court_machine, wPL o_pool] H locs → lv_has ls 4 [(0, .ref h_me), (1, .int v1), (2, .int v2), (3, .int v3)] → W p l e ({ frames := 5, cells := 0, slots := 0, locals := 132 } : Room) s m ([.ref h_me] : List Value).toArray below meth c H locs 0 0 Qz (F0 m 26 ls [])), ∀ (v1 : Int32) (v2 : Int32) (v3 : Int32) (o_me : Ob) (o_me_court_machine : Ob) (H : Heap) (locs : List Loc) (ls : Array Slot), bk_X7_neverSecond_69 o_me_court o_me_court_isles o_me_court_isles_now o_pool rec_14_0 rec_26_1 v1 v2 v3 o_me o_me_court_machine = some y → Wd dC dI A s.heap [wX7 h_me h_me_court h_me_court_isles q_me k_me o_me, wX1 h_me_court h_me_court_isles h_me_court_machine q_me_court k_me_court o_me_court, wX2 h_me_court_isles h_me_court_isles_now q_me_court_isles k_me_court_isles o_me_court_isles, wX4 h_me_court_isles_now q_me_court_isles_now k_me_court_isles_now o_me_court_isles_now, wX3 h_me_court_machine q_me_court_machine k_me_court_machine o_me_court_machine, wPL o_pool] H locs → lv_has ls 4 [(0, .ref h_me), (1, .int v1), (2, .int v2), (3, .int v3)] → W p l e ({ frames := 5, cells := 0, slots := 0, locals := 132 } : Room) s m ([.ref h_me] : List Value).toArray below meth c H locs 0 0 Qz (F0 m 69 ls []) := by
    intro rec_14_0 hrec_14_0 rec_26_1 hrec_26_1
    intro v1 v2 v3 o_me o_me_court_machine H locs ls h hw hl
    unfold bk_X7_neverSecond_69 at h
    obtain ⟨x5, ex5, h⟩ := z_lt h
    refine lv_iinc (v := x5) (lv' := [(3, .int x5), (0, .ref h_me), (1, .int v1), (2, .int v2)]) hx hb dX7_neverSecond_69 hl (k := 3) rfl ((congrArg (v3 + ·) (show Int32.ofInt 1 = (1 : Int32) from by decide)).trans ex5.symm) (by decide) rfl (fun ls hl => ?_)
    refine lv_goto (tgt := 26) hx hb dX7_neverSecond_72 (by decide) ?_
    exact hrec_26_1 v1 v2 x5 o_me o_me_court_machine _ _ _ h hw (lv_sub hl [1, 2, 3, 0] rfl)
  have lp_26_1 : ∀ (rec_14_0 : Int32 × Int32 × Ob × Ob → Option (Int32 × Ob × Ob)) (hrec_14_0 : ∀ (v1 : Int32) (v2 : Int32) (o_me : Ob) (o_me_court_machine : Ob) (H : Heap) (locs : List Loc) (ls : Array Slot), rec_14_0 (v1, v2, o_me, o_me_court_machine) = some y → Wd dC dI A s.heap [wX7 h_me h_me_court h_me_court_isles q_me k_me o_me, wX1 h_me_court h_me_court_isles h_me_court_machine q_me_court k_me_court o_me_court, wX2 h_me_court_isles h_me_court_isles_now q_me_court_isles k_me_court_isles o_me_court_isles, wX4 h_me_court_isles_now q_me_court_isles_now k_me_court_isles_now o_me_court_isles_now, wX3 h_me_court_machine q_me_court_machine k_me_court_machine o_me_court_machine, wPL o_pool] H locs → lv_has ls 4 [(0, .ref h_me), (1, .int v1), (2, .int v2)] → W p l e ({ frames := 5, cells := 0, slots := 0, locals := 132 } : Room) s m ([.ref h_me] : List Value).toArray below meth c H locs 0 0 Qz (F0 m 14 ls [])) (N : Nat), ∀ (v1 : Int32) (v2 : Int32) (v3 : Int32) (o_me : Ob) (o_me_court_machine : Ob) (H : Heap) (locs : List Loc) (ls : Array Slot), lp_X7_neverSecond_26 o_me_court o_me_court_isles o_me_court_isles_now o_pool rec_14_0 N (v1, v2, v3, o_me, o_me_court_machine) = some y → Wd dC dI A s.heap [wX7 h_me h_me_court h_me_court_isles q_me k_me o_me, wX1 h_me_court h_me_court_isles h_me_court_machine q_me_court k_me_court o_me_court, wX2 h_me_court_isles h_me_court_isles_now q_me_court_isles k_me_court_isles o_me_court_isles, wX4 h_me_court_isles_now q_me_court_isles_now k_me_court_isles_now o_me_court_isles_now, wX3 h_me_court_machine q_me_court_machine k_me_court_machine o_me_court_machine, wPL o_pool] H locs → lv_has ls 4 [(0, .ref h_me), (1, .int v1), (2, .int v2), (3, .int v3)] → W p l e ({ frames := 5, cells := 0, slots := 0, locals := 132 } : Room) s m ([.ref h_me] : List Value).toArray below meth c H locs 0 0 Qz (F0 m 26 ls []) := by
    intro rec_14_0 hrec_14_0
    intro N
    induction N with
    | zero =>
      intro v1 v2 v3 o_me o_me_court_machine H locs ls h hw hl
      exact absurd (show (none : Option (Int32 × Ob × Ob)) = some y from h) (by simp)
    | succ N ih =>
      intro v1 v2 v3 o_me o_me_court_machine H locs ls h hw hl
      have h : lb_X7_neverSecond_26 o_me_court o_me_court_isles o_me_court_isles_now o_pool rec_14_0 (lp_X7_neverSecond_26 o_me_court o_me_court_isles o_me_court_isles_now o_pool rec_14_0 N) v1 v2 v3 o_me o_me_court_machine = some y := h
      unfold lb_X7_neverSecond_26 at h
      refine lv_iload_n hx hb dX7_neverSecond_26 rfl (lv_at hl 3 rfl) ?_
      refine lv_aload_n hx hb dX7_neverSecond_27 rfl (lv_at hl 0 rfl) ?_
      refine fgX7_1 hx hb hts hown hK hw 0 rfl kw387 dX7_neverSecond_28 ?_
      refine fgX2_7 hx hb hts hown hK hw 2 rfl kw316 dX7_neverSecond_31 ?_
      refine lv_icmp_ge (tgt := 75) hx hb dX7_neverSecond_34 (by decide) (fun c => ?_) (fun c => ?_)
      · have h := z_t h c
        obtain ⟨x3, ex3, h⟩ := z_lt h
        refine lv_iinc (v := x3) (lv' := [(2, .int x3), (0, .ref h_me), (1, .int v1), (3, .int v3)]) hx hb dX7_neverSecond_75 hl (k := 2) rfl ((congrArg (v2 + ·) (show Int32.ofInt 1 = (1 : Int32) from by decide)).trans ex3.symm) (by decide) rfl (fun ls hl => ?_)
        refine lv_goto (tgt := 14) hx hb dX7_neverSecond_78 (by decide) ?_
        exact hrec_14_0 v1 x3 o_me o_me_court_machine _ _ _ h hw (lv_sub hl [1, 2, 0] rfl)
      · have h := z_f h c
        refine lv_aload_n hx hb dX7_neverSecond_37 rfl (lv_at hl 0 rfl) ?_
        refine fgX7_5 hx hb hts hown hK hw 0 rfl kw392 dX7_neverSecond_38 ?_
        refine lv_iload_n hx hb dX7_neverSecond_41 rfl (lv_at hl 2 rfl) ?_
        refine lv_bipush (v := 7) hx hb dX7_neverSecond_42 (by decide) ?_
        refine lv_imul hx hb dX7_neverSecond_44 ?_
        refine lv_iload_n hx hb dX7_neverSecond_45 rfl (lv_at hl 3 rfl) ?_
        refine lv_iadd hx hb dX7_neverSecond_46 ?_
        obtain ⟨g4, h⟩ := z_gd h
        refine faX7_5 hx hb hK hw 0 rfl rfl g4 dX7_neverSecond_47 ?_
        refine lv_iconst (v := (-1)) hx hb dX7_neverSecond_48 (by decide) ?_
        refine lv_icmp_eq (tgt := 69) hx hb dX7_neverSecond_49 (by decide) (fun c => ?_) (fun c => ?_)
        · have h := z_t h c
          exact bk_69_2 rec_14_0 hrec_14_0 (lp_X7_neverSecond_26 o_me_court o_me_court_isles o_me_court_isles_now o_pool rec_14_0 N) ih v1 v2 v3 o_me o_me_court_machine _ _ _ h hw (lv_sub hl [0, 1, 2, 3] rfl)
        · have h := z_f h c
          refine lv_aload_n hx hb dX7_neverSecond_52 rfl (lv_at hl 0 rfl) ?_
          refine lv_iload_n hx hb dX7_neverSecond_53 rfl (lv_at hl 3 rfl) ?_
          refine lv_iload_n hx hb dX7_neverSecond_54 rfl (lv_at hl 2 rfl) ?_
          obtain ⟨z6, ez6, h⟩ := z_bd h
          refine xj_i (xrV (As := [.int v3, .int v2]) (rest := []) ⟨hx, hb, hml, hown, hts⟩ (m_X7_aheadOf l dC dI _ h_me h_me_court h_me_court_isles h_me_court_isles_now q_me k_me q_me_court_isles k_me_court_isles o_me o_me_court_isles v3 v2 z6 ez6) kw961 kw958 kw960 kw28 kw118 hd_X7_aheadOf ⟨rfl, rfl⟩ rfl rfl ⟨rfl, rfl⟩ hX hK hw [0, 2] (by decide) rfl rfl rfl rfl rfl hl.1 rfl rfl dX7_neverSecond_55) hw hA [0, 2] (by decide) rfl rfl (fun H locs hw => ?_)
          have hw : Wd dC dI A s.heap [wX7 h_me h_me_court h_me_court_isles q_me k_me o_me, wX1 h_me_court h_me_court_isles h_me_court_machine q_me_court k_me_court o_me_court, wX2 h_me_court_isles h_me_court_isles_now q_me_court_isles k_me_court_isles o_me_court_isles, wX4 h_me_court_isles_now q_me_court_isles_now k_me_court_isles_now o_me_court_isles_now, wX3 h_me_court_machine q_me_court_machine k_me_court_machine o_me_court_machine, wPL o_pool] H locs := hw
          refine lv_if_eq (tgt := 69) hx hb dX7_neverSecond_58 (by decide) (fun c => ?_) (fun c => ?_)
          · have h := z_t h c
            exact bk_69_2 rec_14_0 hrec_14_0 (lp_X7_neverSecond_26 o_me_court o_me_court_isles o_me_court_isles_now o_pool rec_14_0 N) ih v1 v2 v3 o_me o_me_court_machine _ _ _ h hw (lv_sub hl [0, 1, 2, 3] rfl)
          · have h := z_f h c
            refine lv_iload_n hx hb dX7_neverSecond_61 rfl (lv_at hl 1 rfl) ?_
            refine lv_iconst (v := 1) hx hb dX7_neverSecond_62 (by decide) ?_
            refine lv_iload_n hx hb dX7_neverSecond_63 rfl (lv_at hl 3 rfl) ?_
            refine lv_ishl hx hb dX7_neverSecond_64 ?_
            refine lv_iconst (v := (-1)) hx hb dX7_neverSecond_65 (by decide) ?_
            refine lv_ixor hx hb dX7_neverSecond_66 ?_
            refine lv_iand hx hb dX7_neverSecond_67 ?_
            obtain ⟨x7, ex7, h⟩ := z_lt h
            refine lv_fi (v := x7) ex7.symm ?_
            refine lv_istore_n (lv' := [(1, .int x7), (0, .ref h_me), (2, .int v2), (3, .int v3)]) hx hb dX7_neverSecond_68 rfl hl (by decide) rfl (fun ls hl => ?_)
            exact bk_69_2 rec_14_0 hrec_14_0 (lp_X7_neverSecond_26 o_me_court o_me_court_isles o_me_court_isles_now o_pool rec_14_0 N) ih x7 v2 v3 o_me o_me_court_machine _ _ _ h hw (lv_sub hl [1, 0, 2, 3] rfl)
  have lp_14_0 : ∀ (N : Nat), ∀ (v1 : Int32) (v2 : Int32) (o_me : Ob) (o_me_court_machine : Ob) (H : Heap) (locs : List Loc) (ls : Array Slot), lp_X7_neverSecond_14 o_me_court o_me_court_isles o_me_court_isles_now o_pool  N (v1, v2, o_me, o_me_court_machine) = some y → Wd dC dI A s.heap [wX7 h_me h_me_court h_me_court_isles q_me k_me o_me, wX1 h_me_court h_me_court_isles h_me_court_machine q_me_court k_me_court o_me_court, wX2 h_me_court_isles h_me_court_isles_now q_me_court_isles k_me_court_isles o_me_court_isles, wX4 h_me_court_isles_now q_me_court_isles_now k_me_court_isles_now o_me_court_isles_now, wX3 h_me_court_machine q_me_court_machine k_me_court_machine o_me_court_machine, wPL o_pool] H locs → lv_has ls 4 [(0, .ref h_me), (1, .int v1), (2, .int v2)] → W p l e ({ frames := 5, cells := 0, slots := 0, locals := 132 } : Room) s m ([.ref h_me] : List Value).toArray below meth c H locs 0 0 Qz (F0 m 14 ls []) := by
    intro N
    induction N with
    | zero =>
      intro v1 v2 o_me o_me_court_machine H locs ls h hw hl
      exact absurd (show (none : Option (Int32 × Ob × Ob)) = some y from h) (by simp)
    | succ N ih =>
      intro v1 v2 o_me o_me_court_machine H locs ls h hw hl
      have h : lb_X7_neverSecond_14 o_me_court o_me_court_isles o_me_court_isles_now o_pool  (lp_X7_neverSecond_14 o_me_court o_me_court_isles o_me_court_isles_now o_pool  N) v1 v2 o_me o_me_court_machine = some y := h
      unfold lb_X7_neverSecond_14 at h
      refine lv_iload_n hx hb dX7_neverSecond_14 rfl (lv_at hl 2 rfl) ?_
      refine lv_iconst (v := 4) hx hb dX7_neverSecond_15 (by decide) ?_
      refine lv_icmp_ge (tgt := 81) hx hb dX7_neverSecond_16 (by decide) (fun c => ?_) (fun c => ?_)
      · have h := z_t h c
        refine lv_iload_n hx hb dX7_neverSecond_81 rfl (lv_at hl 1 rfl) ?_
        have hy := Option.some.inj h
        rw [← hQz, ← hy]
        exact xr_i (v := v1) hx hb hr rfl hlk hK hw dX7_neverSecond_82
      · have h := z_f h c
        refine lv_aload_n hx hb dX7_neverSecond_19 rfl (lv_at hl 0 rfl) ?_
        refine lv_iload_n hx hb dX7_neverSecond_20 rfl (lv_at hl 2 rfl) ?_
        obtain ⟨z2, ez2, h⟩ := z_bd h
        refine xj_v (xrV (As := [.int v2]) (rest := []) ⟨hx, hb, hml, hown, hts⟩ (m_X7_setScores l dC dI _ h_me h_me_court h_me_court_isles h_me_court_machine h_me_court_isles_now q_me k_me q_me_court k_me_court q_me_court_isles k_me_court_isles q_me_court_isles_now k_me_court_isles_now q_me_court_machine k_me_court_machine o_me o_me_court o_me_court_isles o_me_court_isles_now o_me_court_machine o_pool v2 z2 ez2) kw954 kw951 kw953 kw27 kw118 hd_X7_setScores ⟨rfl, rfl⟩ rfl rfl ⟨rfl, rfl⟩ hX hK hw [0, 1, 2, 3, 4, 5] (by decide) rfl rfl rfl rfl rfl hl.1 rfl rfl dX7_neverSecond_21) hw hA [0, 1, 2, 3, 4, 5] (by decide) rfl rfl (fun H locs hw => ?_)
        have hw : Wd dC dI A s.heap [wX7 h_me h_me_court h_me_court_isles q_me k_me z2.1, wX1 h_me_court h_me_court_isles h_me_court_machine q_me_court k_me_court o_me_court, wX2 h_me_court_isles h_me_court_isles_now q_me_court_isles k_me_court_isles o_me_court_isles, wX4 h_me_court_isles_now q_me_court_isles_now k_me_court_isles_now o_me_court_isles_now, wX3 h_me_court_machine q_me_court_machine k_me_court_machine z2.2, wPL o_pool] H locs := hw
        refine lv_iconst (v := 0) hx hb dX7_neverSecond_24 (by decide) ?_
        refine lv_istore_n (lv' := [(3, .int (0 : Int32)), (0, .ref h_me), (1, .int v1), (2, .int v2)]) hx hb dX7_neverSecond_25 rfl hl (by decide) rfl (fun ls hl => ?_)
        exact lp_26_1 (lp_X7_neverSecond_14 o_me_court o_me_court_isles o_me_court_isles_now o_pool  N) ih zfu v1 v2 (0 : Int32) z2.1 z2.2 _ _ _ h hw (lv_sub hl [1, 2, 3, 0] rfl)
  unfold f_X7_neverSecond at h
  refine lv_iconst (v := 1) hx hb dX7_neverSecond_0 (by decide) ?_
  refine lv_aload_n hx hb dX7_neverSecond_1 rfl (lv_at hl 0 rfl) ?_
  refine fgX7_1 hx hb hts hown hK hw 0 rfl kw387 dX7_neverSecond_2 ?_
  refine fgX2_7 hx hb hts hown hK hw 2 rfl kw316 dX7_neverSecond_5 ?_
  refine lv_ishl hx hb dX7_neverSecond_8 ?_
  refine lv_iconst (v := 1) hx hb dX7_neverSecond_9 (by decide) ?_
  refine lv_isub hx hb dX7_neverSecond_10 ?_
  obtain ⟨x1, ex1, h⟩ := z_lt h
  refine lv_fi (v := x1) ex1.symm ?_
  refine lv_istore_n (lv' := [(1, .int x1), (0, .ref h_me)]) hx hb dX7_neverSecond_11 rfl hl (by decide) rfl (fun ls hl => ?_)
  refine lv_iconst (v := 0) hx hb dX7_neverSecond_12 (by decide) ?_
  refine lv_istore_n (lv' := [(2, .int (0 : Int32)), (1, .int x1), (0, .ref h_me)]) hx hb dX7_neverSecond_13 rfl hl (by decide) rfl (fun ls hl => ?_)
  exact lp_14_0  zfu x1 (0 : Int32) o_me o_me_court_machine _ _ _ h hw (lv_sub hl [2, 1, 0] rfl)

def f_X8_never (o_me : Ob) (o_me_machine : Ob) (o_me_isles : Ob) (o_me_isles_now : Ob) (o_me_court : Ob) (o_me_study : Ob) (o_pool : List CR) : Option (Int32 × Ob × Ob) :=
  (f_X7_neverSecond o_me_study o_me_court o_me_isles o_me_isles_now o_me_machine o_pool).bind fun z1 =>
  some (z1.1, z1.2.2, z1.2.1)
set_option maxHeartbeats 4000000 in
set_option maxRecDepth 100000 in
theorem m_X8_never (l : Launch) (dC : Nat → ClassId) (dI : Nat → Nat → Nat) (sz : Nat) (h_me : Nat) (h_me_reader : Nat) (h_me_machine : Nat) (h_me_isles : Nat) (h_me_court : Nat) (h_me_study : Nat) (h_me_paper : Nat) (h_me_paperCourt : Nat) (h_me_past : Nat) (h_me_pastAhead : Nat) (h_me_movingAhead : Nat) (h_me_isles_now : Nat) (q_me : Nat → Nat) (k_me : Nat → ClassId) (q_me_machine : Nat → Nat) (k_me_machine : Nat → ClassId) (q_me_isles : Nat → Nat) (k_me_isles : Nat → ClassId) (q_me_isles_now : Nat → Nat) (k_me_isles_now : Nat → ClassId) (q_me_court : Nat → Nat) (k_me_court : Nat → ClassId) (q_me_study : Nat → Nat) (k_me_study : Nat → ClassId) (o_me : Ob) (o_me_machine : Ob) (o_me_isles : Ob) (o_me_isles_now : Ob) (o_me_court : Ob) (o_me_study : Ob) (o_pool : List CR) (y : Int32 × Ob × Ob) (h : f_X8_never o_me o_me_machine o_me_isles o_me_isles_now o_me_court o_me_study o_pool = some y) : CI l yX8_never cX8_never 1 (some .int) ({ frames := 6, cells := 0, slots := 0, locals := 155 } : Room) dC dI sz [.ref h_me] [wX8 h_me h_me_reader h_me_machine h_me_isles h_me_court h_me_study h_me_paper h_me_paperCourt h_me_past h_me_pastAhead h_me_movingAhead q_me k_me o_me, wX3 h_me_machine q_me_machine k_me_machine o_me_machine, wX2 h_me_isles h_me_isles_now q_me_isles k_me_isles o_me_isles, wX4 h_me_isles_now q_me_isles_now k_me_isles_now o_me_isles_now, wX1 h_me_court h_me_isles h_me_machine q_me_court k_me_court o_me_court, wX7 h_me_study h_me_court h_me_isles q_me_study k_me_study o_me_study, wPL o_pool] [tX8 k_me, tX3 k_me_machine, tX2 k_me_isles, tX4 k_me_isles_now, tX1 k_me_court, tX7 k_me_study, tPL o_pool] y.1 [wX8 h_me h_me_reader h_me_machine h_me_isles h_me_court h_me_study h_me_paper h_me_paperCourt h_me_past h_me_pastAhead h_me_movingAhead q_me k_me o_me, wX3 h_me_machine q_me_machine k_me_machine y.2.1, wX2 h_me_isles h_me_isles_now q_me_isles k_me_isles o_me_isles, wX4 h_me_isles_now q_me_isles_now k_me_isles_now o_me_isles_now, wX1 h_me_court h_me_isles h_me_machine q_me_court k_me_court o_me_court, wX7 h_me_study h_me_court h_me_isles q_me_study k_me_study y.2.2, wPL o_pool] := by
  refine CC_of (by decide) (Nat.le_of_ble_eq_true rfl) ?_
  intro p e s m below meth c A ls hx hb hml hr hlk hnm hown hts hX hK hP hD hA hl
  have hl : lv_has ls 1 [(0, .ref h_me)] := hl
  have hown : s.vm.findClass RX8 = some m.cls := hown
  have hw : Wd dC dI A s.heap [wX8 h_me h_me_reader h_me_machine h_me_isles h_me_court h_me_study h_me_paper h_me_paperCourt h_me_past h_me_pastAhead h_me_movingAhead q_me k_me o_me, wX3 h_me_machine q_me_machine k_me_machine o_me_machine, wX2 h_me_isles h_me_isles_now q_me_isles k_me_isles o_me_isles, wX4 h_me_isles_now q_me_isles_now k_me_isles_now o_me_isles_now, wX1 h_me_court h_me_isles h_me_machine q_me_court k_me_court o_me_court, wX7 h_me_study h_me_court h_me_isles q_me_study k_me_study o_me_study, wPL o_pool] s.heap [] := ⟨hP, hD, va_S.rf⟩
  generalize hQz : (MQ below (QI dC dI (fun r (_ : Unit) => r = y.1) (fun _ => Jn [wX8 h_me h_me_reader h_me_machine h_me_isles h_me_court h_me_study h_me_paper h_me_paperCourt h_me_past h_me_pastAhead h_me_movingAhead q_me k_me o_me, wX3 h_me_machine q_me_machine k_me_machine y.2.1, wX2 h_me_isles h_me_isles_now q_me_isles k_me_isles o_me_isles, wX4 h_me_isles_now q_me_isles_now k_me_isles_now o_me_isles_now, wX1 h_me_court h_me_isles h_me_machine q_me_court k_me_court o_me_court, wX7 h_me_study h_me_court h_me_isles q_me_study k_me_study y.2.2, wPL o_pool]) (fun _ => Jt [tX8 k_me, tX3 k_me_machine, tX2 k_me_isles, tX4 k_me_isles_now, tX1 k_me_court, tX7 k_me_study, tPL o_pool]) A) ([.ref h_me] : List Value).toArray s 0 0 A) = Qz
  clear hP hD hnm
  unfold f_X8_never at h
  refine lv_aload_n hx hb dX8_never_0 rfl (lv_at hl 0 rfl) ?_
  refine fgX8_4 hx hb hts hown hK hw 0 rfl kw446 dX8_never_1 ?_
  obtain ⟨z1, ez1, h⟩ := z_bd h
  refine xj_i (xrV (As := []) (rest := []) ⟨hx, hb, hml, hown, hts⟩ (m_X7_neverSecond l dC dI _ h_me_study h_me_court h_me_isles h_me_machine h_me_isles_now q_me_study k_me_study q_me_court k_me_court q_me_isles k_me_isles q_me_isles_now k_me_isles_now q_me_machine k_me_machine o_me_study o_me_court o_me_isles o_me_isles_now o_me_machine o_pool z1 ez1) kw1091 kw1088 kw1089 kw1090 kw118 hd_X7_neverSecond ⟨rfl, rfl⟩ rfl rfl ⟨rfl, rfl⟩ hX hK hw [5, 4, 2, 3, 1, 6] (by decide) rfl rfl rfl rfl rfl hl.1 rfl rfl dX8_never_4) hw hA [5, 4, 2, 3, 1, 6] (by decide) rfl rfl (fun H locs hw => ?_)
  have hw : Wd dC dI A s.heap [wX8 h_me h_me_reader h_me_machine h_me_isles h_me_court h_me_study h_me_paper h_me_paperCourt h_me_past h_me_pastAhead h_me_movingAhead q_me k_me o_me, wX3 h_me_machine q_me_machine k_me_machine z1.2.2, wX2 h_me_isles h_me_isles_now q_me_isles k_me_isles o_me_isles, wX4 h_me_isles_now q_me_isles_now k_me_isles_now o_me_isles_now, wX1 h_me_court h_me_isles h_me_machine q_me_court k_me_court o_me_court, wX7 h_me_study h_me_court h_me_isles q_me_study k_me_study z1.2.1, wPL o_pool] H locs := hw
  have hy := Option.some.inj h
  rw [← hQz, ← hy]
  exact xr_i (v := z1.1) hx hb hr rfl hlk hK hw dX8_never_7

def f_X8_of (o_me : Ob) (o_me_machine : Ob) (o_me_isles : Ob) (o_me_isles_now : Ob) (o_me_court : Ob) (o_pool : List CR) (p0 : Int32) (p1 : Int32) : Option (Int32 × Ob) :=
  (f_X2_isPerson o_me_isles p0).bind fun z1 =>
  if z1 = (0 : Int32) then
  (some ((-1 : Int32), o_me_machine))
  else
  (if p1 = (3 : Int32) then
  (zgd (zin p0 7) <|
  some (gA o_me_isles 1 p0.toNatClampNeg, o_me_machine))
  else
  ((f_X8_isRace (p1 - (4 : Int32))).bind fun z2 =>
  if z2 = (0 : Int32) then
  ((f_X8_isRace (p1 - (8 : Int32))).bind fun z3 =>
  if z3 = (0 : Int32) then
  ((f_X8_isRace (p1 - (12 : Int32))).bind fun z4 =>
  if z4 = (0 : Int32) then
  ((f_X4_told o_me_isles_now p0 p1).bind fun z5 =>
  some (z5, o_me_machine))
  else
  ((f_X2_lawInForce o_me_isles).bind fun z6 =>
  (f_X1_isBarred_Q o_me_court o_me_isles o_me_isles_now o_me_machine o_pool z6 p0 (p1 - (12 : Int32))).bind fun z7 =>
  if z7.1 = (0 : Int32) then
  (some ((0 : Int32), z7.2))
  else
  (some ((1 : Int32), z7.2))))
  else
  ((f_X2_lawInForce o_me_isles).bind fun z8 =>
  (f_X1_runsBy_Q o_me_court o_me_isles o_me_isles_now o_me_machine o_pool z8 p0 (p1 - (8 : Int32))).bind fun z9 =>
  some (z9.1, z9.2)))
  else
  (zgd (zin (((p0 * (4 : Int32)) + p1) - (4 : Int32)) 28) <|
  some (gA o_me_isles 2 (((p0 * (4 : Int32)) + p1) - (4 : Int32)).toNatClampNeg, o_me_machine))))
set_option maxHeartbeats 4000000 in
set_option maxRecDepth 100000 in
theorem m_X8_of (l : Launch) (dC : Nat → ClassId) (dI : Nat → Nat → Nat) (sz : Nat) (h_me : Nat) (h_me_reader : Nat) (h_me_machine : Nat) (h_me_isles : Nat) (h_me_court : Nat) (h_me_study : Nat) (h_me_paper : Nat) (h_me_paperCourt : Nat) (h_me_past : Nat) (h_me_pastAhead : Nat) (h_me_movingAhead : Nat) (h_me_isles_now : Nat) (q_me : Nat → Nat) (k_me : Nat → ClassId) (q_me_machine : Nat → Nat) (k_me_machine : Nat → ClassId) (q_me_isles : Nat → Nat) (k_me_isles : Nat → ClassId) (q_me_isles_now : Nat → Nat) (k_me_isles_now : Nat → ClassId) (q_me_court : Nat → Nat) (k_me_court : Nat → ClassId) (o_me : Ob) (o_me_machine : Ob) (o_me_isles : Ob) (o_me_isles_now : Ob) (o_me_court : Ob) (o_pool : List CR) (p0 : Int32) (p1 : Int32) (y : Int32 × Ob) (h : f_X8_of o_me o_me_machine o_me_isles o_me_isles_now o_me_court o_pool p0 p1 = some y) : CI l yX8_of cX8_of 3 (some .int) ({ frames := 4, cells := 0, slots := 0, locals := 109 } : Room) dC dI sz [.ref h_me, .int p0, .int p1] [wX8 h_me h_me_reader h_me_machine h_me_isles h_me_court h_me_study h_me_paper h_me_paperCourt h_me_past h_me_pastAhead h_me_movingAhead q_me k_me o_me, wX3 h_me_machine q_me_machine k_me_machine o_me_machine, wX2 h_me_isles h_me_isles_now q_me_isles k_me_isles o_me_isles, wX4 h_me_isles_now q_me_isles_now k_me_isles_now o_me_isles_now, wX1 h_me_court h_me_isles h_me_machine q_me_court k_me_court o_me_court, wPL o_pool] [tX8 k_me, tX3 k_me_machine, tX2 k_me_isles, tX4 k_me_isles_now, tX1 k_me_court, tPL o_pool] y.1 [wX8 h_me h_me_reader h_me_machine h_me_isles h_me_court h_me_study h_me_paper h_me_paperCourt h_me_past h_me_pastAhead h_me_movingAhead q_me k_me o_me, wX3 h_me_machine q_me_machine k_me_machine y.2, wX2 h_me_isles h_me_isles_now q_me_isles k_me_isles o_me_isles, wX4 h_me_isles_now q_me_isles_now k_me_isles_now o_me_isles_now, wX1 h_me_court h_me_isles h_me_machine q_me_court k_me_court o_me_court, wPL o_pool] := by
  refine CC_of (by decide) (Nat.le_of_ble_eq_true rfl) ?_
  intro p e s m below meth c A ls hx hb hml hr hlk hnm hown hts hX hK hP hD hA hl
  have hl : lv_has ls 3 [(0, .ref h_me), (1, .int p0), (2, .int p1)] := hl
  have hown : s.vm.findClass RX8 = some m.cls := hown
  have hw : Wd dC dI A s.heap [wX8 h_me h_me_reader h_me_machine h_me_isles h_me_court h_me_study h_me_paper h_me_paperCourt h_me_past h_me_pastAhead h_me_movingAhead q_me k_me o_me, wX3 h_me_machine q_me_machine k_me_machine o_me_machine, wX2 h_me_isles h_me_isles_now q_me_isles k_me_isles o_me_isles, wX4 h_me_isles_now q_me_isles_now k_me_isles_now o_me_isles_now, wX1 h_me_court h_me_isles h_me_machine q_me_court k_me_court o_me_court, wPL o_pool] s.heap [] := ⟨hP, hD, va_S.rf⟩
  generalize hQz : (MQ below (QI dC dI (fun r (_ : Unit) => r = y.1) (fun _ => Jn [wX8 h_me h_me_reader h_me_machine h_me_isles h_me_court h_me_study h_me_paper h_me_paperCourt h_me_past h_me_pastAhead h_me_movingAhead q_me k_me o_me, wX3 h_me_machine q_me_machine k_me_machine y.2, wX2 h_me_isles h_me_isles_now q_me_isles k_me_isles o_me_isles, wX4 h_me_isles_now q_me_isles_now k_me_isles_now o_me_isles_now, wX1 h_me_court h_me_isles h_me_machine q_me_court k_me_court o_me_court, wPL o_pool]) (fun _ => Jt [tX8 k_me, tX3 k_me_machine, tX2 k_me_isles, tX4 k_me_isles_now, tX1 k_me_court, tPL o_pool]) A) ([.ref h_me, .int p0, .int p1] : List Value).toArray s 0 0 A) = Qz
  clear hP hD hnm
  unfold f_X8_of at h
  refine lv_aload_n hx hb dX8_of_0 rfl (lv_at hl 0 rfl) ?_
  refine fgX8_2 hx hb hts hown hK hw 0 rfl kw444 dX8_of_1 ?_
  refine lv_iload_n hx hb dX8_of_4 rfl (lv_at hl 1 rfl) ?_
  obtain ⟨z1, ez1, h⟩ := z_bd h
  refine xj_i (xrV (As := [.int p0]) (rest := []) ⟨hx, hb, hml, hown, hts⟩ (m_X2_isPerson l dC dI _ h_me_isles h_me_isles_now q_me_isles k_me_isles o_me_isles p0 z1 ez1) kw504 kw501 kw502 kw503 kw115 hd_X2_isPerson ⟨rfl, rfl⟩ rfl rfl ⟨rfl, rfl⟩ hX hK hw [2] (by decide) rfl rfl rfl rfl rfl hl.1 rfl rfl dX8_of_5) hw hA [2] (by decide) rfl rfl (fun H locs hw => ?_)
  have hw : Wd dC dI A s.heap [wX8 h_me h_me_reader h_me_machine h_me_isles h_me_court h_me_study h_me_paper h_me_paperCourt h_me_past h_me_pastAhead h_me_movingAhead q_me k_me o_me, wX3 h_me_machine q_me_machine k_me_machine o_me_machine, wX2 h_me_isles h_me_isles_now q_me_isles k_me_isles o_me_isles, wX4 h_me_isles_now q_me_isles_now k_me_isles_now o_me_isles_now, wX1 h_me_court h_me_isles h_me_machine q_me_court k_me_court o_me_court, wPL o_pool] H locs := hw
  refine lv_if_ne (tgt := 13) hx hb dX8_of_8 (by decide) (fun c => ?_) (fun c => ?_)
  · have h := z_f h c
    refine lv_iload_n hx hb dX8_of_13 rfl (lv_at hl 2 rfl) ?_
    refine lv_iconst (v := 3) hx hb dX8_of_14 (by decide) ?_
    refine lv_icmp_ne (tgt := 28) hx hb dX8_of_15 (by decide) (fun c => ?_) (fun c => ?_)
    · have h := z_f h c
      refine lv_iload_n hx hb dX8_of_28 rfl (lv_at hl 2 rfl) ?_
      refine lv_iconst (v := 4) hx hb dX8_of_29 (by decide) ?_
      refine lv_isub hx hb dX8_of_30 ?_
      obtain ⟨z2, ez2, h⟩ := z_bd h
      refine xj_i (xrS (As := [.int (p1 - (4 : Int32))]) (rest := []) ⟨hx, hb, hml, hown, hts⟩ (m_X8_isRace l dC dI _  (p1 - (4 : Int32)) z2 ez2) kw527 kw525 kw526 kw110 hd_X8_isRace ⟨rfl, rfl⟩ rfl rfl ⟨rfl, rfl⟩ hX hK hw [] (by decide) rfl rfl hl.1 rfl rfl dX8_of_31) hw hA [] (by decide) rfl rfl (fun H locs hw => ?_)
      refine lv_if_eq (tgt := 53) hx hb dX8_of_34 (by decide) (fun c => ?_) (fun c => ?_)
      · have h := z_t h c
        refine lv_iload_n hx hb dX8_of_53 rfl (lv_at hl 2 rfl) ?_
        refine lv_bipush (v := 8) hx hb dX8_of_54 (by decide) ?_
        refine lv_isub hx hb dX8_of_56 ?_
        obtain ⟨z3, ez3, h⟩ := z_bd h
        refine xj_i (xrS (As := [.int (p1 - (8 : Int32))]) (rest := []) ⟨hx, hb, hml, hown, hts⟩ (m_X8_isRace l dC dI _  (p1 - (8 : Int32)) z3 ez3) kw527 kw525 kw526 kw110 hd_X8_isRace ⟨rfl, rfl⟩ rfl rfl ⟨rfl, rfl⟩ hX hK hw [] (by decide) rfl rfl hl.1 rfl rfl dX8_of_57) hw hA [] (by decide) rfl rfl (fun H locs hw => ?_)
        refine lv_if_eq (tgt := 83) hx hb dX8_of_60 (by decide) (fun c => ?_) (fun c => ?_)
        · have h := z_t h c
          refine lv_iload_n hx hb dX8_of_83 rfl (lv_at hl 2 rfl) ?_
          refine lv_bipush (v := 12) hx hb dX8_of_84 (by decide) ?_
          refine lv_isub hx hb dX8_of_86 ?_
          obtain ⟨z4, ez4, h⟩ := z_bd h
          refine xj_i (xrS (As := [.int (p1 - (12 : Int32))]) (rest := []) ⟨hx, hb, hml, hown, hts⟩ (m_X8_isRace l dC dI _  (p1 - (12 : Int32)) z4 ez4) kw527 kw525 kw526 kw110 hd_X8_isRace ⟨rfl, rfl⟩ rfl rfl ⟨rfl, rfl⟩ hX hK hw [] (by decide) rfl rfl hl.1 rfl rfl dX8_of_87) hw hA [] (by decide) rfl rfl (fun H locs hw => ?_)
          refine lv_if_eq (tgt := 121) hx hb dX8_of_90 (by decide) (fun c => ?_) (fun c => ?_)
          · have h := z_t h c
            refine lv_aload_n hx hb dX8_of_121 rfl (lv_at hl 0 rfl) ?_
            refine fgX8_2 hx hb hts hown hK hw 0 rfl kw444 dX8_of_122 ?_
            refine fgX2_0 hx hb hts hown hK hw 2 rfl kw297 dX8_of_125 ?_
            refine lv_iload_n hx hb dX8_of_128 rfl (lv_at hl 1 rfl) ?_
            refine lv_iload_n hx hb dX8_of_129 rfl (lv_at hl 2 rfl) ?_
            obtain ⟨z5, ez5, h⟩ := z_bd h
            refine xj_i (xrV (As := [.int p0, .int p1]) (rest := []) ⟨hx, hb, hml, hown, hts⟩ (m_X4_told l dC dI _ h_me_isles_now q_me_isles_now k_me_isles_now o_me_isles_now p0 p1 z5 ez5) kw589 kw586 kw587 kw588 kw116 hd_X4_told ⟨rfl, rfl⟩ rfl rfl ⟨rfl, rfl⟩ hX hK hw [3] (by decide) rfl rfl rfl rfl rfl hl.1 rfl rfl dX8_of_130) hw hA [3] (by decide) rfl rfl (fun H locs hw => ?_)
            have hw : Wd dC dI A s.heap [wX8 h_me h_me_reader h_me_machine h_me_isles h_me_court h_me_study h_me_paper h_me_paperCourt h_me_past h_me_pastAhead h_me_movingAhead q_me k_me o_me, wX3 h_me_machine q_me_machine k_me_machine o_me_machine, wX2 h_me_isles h_me_isles_now q_me_isles k_me_isles o_me_isles, wX4 h_me_isles_now q_me_isles_now k_me_isles_now o_me_isles_now, wX1 h_me_court h_me_isles h_me_machine q_me_court k_me_court o_me_court, wPL o_pool] H locs := hw
            have hy := Option.some.inj h
            rw [← hQz, ← hy]
            exact xr_i (v := z5) hx hb hr rfl hlk hK hw dX8_of_133
          · have h := z_f h c
            refine lv_aload_n hx hb dX8_of_93 rfl (lv_at hl 0 rfl) ?_
            refine fgX8_3 hx hb hts hown hK hw 0 rfl kw445 dX8_of_94 ?_
            refine lv_aload_n hx hb dX8_of_97 rfl (lv_at hl 0 rfl) ?_
            refine fgX8_2 hx hb hts hown hK hw 0 rfl kw444 dX8_of_98 ?_
            obtain ⟨z6, ez6, h⟩ := z_bd h
            refine xj_q (xrV (As := []) (rest := [.ref h_me_court]) ⟨hx, hb, hml, hown, hts⟩ (m_X2_lawInForce l dC dI _ h_me_isles h_me_isles_now q_me_isles k_me_isles o_me_isles z6 ez6) kw531 kw528 kw529 kw530 kw115 hd_X2_lawInForce ⟨rfl, rfl⟩ rfl rfl ⟨rfl, rfl⟩ hX hK hw [2] (by decide) rfl rfl rfl rfl rfl hl.1 rfl rfl dX8_of_101) hw hA [2] (by decide) rfl rfl (fun H locs hw => ?_)
            have hw : Wd dC dI A s.heap [wX8 h_me h_me_reader h_me_machine h_me_isles h_me_court h_me_study h_me_paper h_me_paperCourt h_me_past h_me_pastAhead h_me_movingAhead q_me k_me o_me, wX3 h_me_machine q_me_machine k_me_machine o_me_machine, wX2 h_me_isles h_me_isles_now q_me_isles k_me_isles o_me_isles, wX4 h_me_isles_now q_me_isles_now k_me_isles_now o_me_isles_now, wX1 h_me_court h_me_isles h_me_machine q_me_court k_me_court o_me_court, wPL o_pool] H locs := hw
            refine lv_iload_n hx hb dX8_of_104 rfl (lv_at hl 1 rfl) ?_
            refine lv_iload_n hx hb dX8_of_105 rfl (lv_at hl 2 rfl) ?_
            refine lv_bipush (v := 12) hx hb dX8_of_106 (by decide) ?_
            refine lv_isub hx hb dX8_of_108 ?_
            obtain ⟨z7, ez7, h⟩ := z_bd h
            refine xj_i (xrV (As := [va_rf z6, .int p0, .int (p1 - (12 : Int32))]) (rest := []) ⟨hx, hb, hml, hown, hts⟩ (m_X1_isBarred_Q l dC dI _ h_me_court h_me_isles h_me_machine h_me_isles_now q_me_court k_me_court q_me_isles k_me_isles q_me_isles_now k_me_isles_now q_me_machine k_me_machine o_me_court o_me_isles o_me_isles_now o_me_machine o_pool z6 p0 (p1 - (12 : Int32)) z7 ez7) kw585 kw582 kw583 kw584 kw117 hd_X1_isBarred ⟨rfl, rfl⟩ rfl rfl ⟨rfl, rfl⟩ hX hK hw [4, 2, 3, 1, 5] (by decide) rfl rfl rfl rfl rfl hl.1 rfl rfl dX8_of_109) hw hA [4, 2, 3, 1, 5] (by decide) rfl rfl (fun H locs hw => ?_)
            have hw : Wd dC dI A s.heap [wX8 h_me h_me_reader h_me_machine h_me_isles h_me_court h_me_study h_me_paper h_me_paperCourt h_me_past h_me_pastAhead h_me_movingAhead q_me k_me o_me, wX3 h_me_machine q_me_machine k_me_machine z7.2, wX2 h_me_isles h_me_isles_now q_me_isles k_me_isles o_me_isles, wX4 h_me_isles_now q_me_isles_now k_me_isles_now o_me_isles_now, wX1 h_me_court h_me_isles h_me_machine q_me_court k_me_court o_me_court, wPL o_pool] H locs := hw
            refine lv_if_eq (tgt := 119) hx hb dX8_of_112 (by decide) (fun c => ?_) (fun c => ?_)
            · have h := z_t h c
              refine lv_iconst (v := 0) hx hb dX8_of_119 (by decide) ?_
              have hy := Option.some.inj h
              rw [← hQz, ← hy]
              exact xr_i (v := (0 : Int32)) hx hb hr rfl hlk hK hw dX8_of_120
            · have h := z_f h c
              refine lv_iconst (v := 1) hx hb dX8_of_115 (by decide) ?_
              refine lv_goto (tgt := 120) hx hb dX8_of_116 (by decide) ?_
              have hy := Option.some.inj h
              rw [← hQz, ← hy]
              exact xr_i (v := (1 : Int32)) hx hb hr rfl hlk hK hw dX8_of_120
        · have h := z_f h c
          refine lv_aload_n hx hb dX8_of_63 rfl (lv_at hl 0 rfl) ?_
          refine fgX8_3 hx hb hts hown hK hw 0 rfl kw445 dX8_of_64 ?_
          refine lv_aload_n hx hb dX8_of_67 rfl (lv_at hl 0 rfl) ?_
          refine fgX8_2 hx hb hts hown hK hw 0 rfl kw444 dX8_of_68 ?_
          obtain ⟨z8, ez8, h⟩ := z_bd h
          refine xj_q (xrV (As := []) (rest := [.ref h_me_court]) ⟨hx, hb, hml, hown, hts⟩ (m_X2_lawInForce l dC dI _ h_me_isles h_me_isles_now q_me_isles k_me_isles o_me_isles z8 ez8) kw531 kw528 kw529 kw530 kw115 hd_X2_lawInForce ⟨rfl, rfl⟩ rfl rfl ⟨rfl, rfl⟩ hX hK hw [2] (by decide) rfl rfl rfl rfl rfl hl.1 rfl rfl dX8_of_71) hw hA [2] (by decide) rfl rfl (fun H locs hw => ?_)
          have hw : Wd dC dI A s.heap [wX8 h_me h_me_reader h_me_machine h_me_isles h_me_court h_me_study h_me_paper h_me_paperCourt h_me_past h_me_pastAhead h_me_movingAhead q_me k_me o_me, wX3 h_me_machine q_me_machine k_me_machine o_me_machine, wX2 h_me_isles h_me_isles_now q_me_isles k_me_isles o_me_isles, wX4 h_me_isles_now q_me_isles_now k_me_isles_now o_me_isles_now, wX1 h_me_court h_me_isles h_me_machine q_me_court k_me_court o_me_court, wPL o_pool] H locs := hw
          refine lv_iload_n hx hb dX8_of_74 rfl (lv_at hl 1 rfl) ?_
          refine lv_iload_n hx hb dX8_of_75 rfl (lv_at hl 2 rfl) ?_
          refine lv_bipush (v := 8) hx hb dX8_of_76 (by decide) ?_
          refine lv_isub hx hb dX8_of_78 ?_
          obtain ⟨z9, ez9, h⟩ := z_bd h
          refine xj_i (xrV (As := [va_rf z8, .int p0, .int (p1 - (8 : Int32))]) (rest := []) ⟨hx, hb, hml, hown, hts⟩ (m_X1_runsBy_Q l dC dI _ h_me_court h_me_isles h_me_machine h_me_isles_now q_me_court k_me_court q_me_isles k_me_isles q_me_isles_now k_me_isles_now q_me_machine k_me_machine o_me_court o_me_isles o_me_isles_now o_me_machine o_pool z8 p0 (p1 - (8 : Int32)) z9 ez9) kw543 kw540 kw541 kw542 kw117 hd_X1_runsBy ⟨rfl, rfl⟩ rfl rfl ⟨rfl, rfl⟩ hX hK hw [4, 2, 3, 1, 5] (by decide) rfl rfl rfl rfl rfl hl.1 rfl rfl dX8_of_79) hw hA [4, 2, 3, 1, 5] (by decide) rfl rfl (fun H locs hw => ?_)
          have hw : Wd dC dI A s.heap [wX8 h_me h_me_reader h_me_machine h_me_isles h_me_court h_me_study h_me_paper h_me_paperCourt h_me_past h_me_pastAhead h_me_movingAhead q_me k_me o_me, wX3 h_me_machine q_me_machine k_me_machine z9.2, wX2 h_me_isles h_me_isles_now q_me_isles k_me_isles o_me_isles, wX4 h_me_isles_now q_me_isles_now k_me_isles_now o_me_isles_now, wX1 h_me_court h_me_isles h_me_machine q_me_court k_me_court o_me_court, wPL o_pool] H locs := hw
          have hy := Option.some.inj h
          rw [← hQz, ← hy]
          exact xr_i (v := z9.1) hx hb hr rfl hlk hK hw dX8_of_82
      · have h := z_f h c
        refine lv_aload_n hx hb dX8_of_37 rfl (lv_at hl 0 rfl) ?_
        refine fgX8_2 hx hb hts hown hK hw 0 rfl kw444 dX8_of_38 ?_
        refine fgX2_2 hx hb hts hown hK hw 2 rfl kw305 dX8_of_41 ?_
        refine lv_iload_n hx hb dX8_of_44 rfl (lv_at hl 1 rfl) ?_
        refine lv_iconst (v := 4) hx hb dX8_of_45 (by decide) ?_
        refine lv_imul hx hb dX8_of_46 ?_
        refine lv_iload_n hx hb dX8_of_47 rfl (lv_at hl 2 rfl) ?_
        refine lv_iadd hx hb dX8_of_48 ?_
        refine lv_iconst (v := 4) hx hb dX8_of_49 (by decide) ?_
        refine lv_isub hx hb dX8_of_50 ?_
        obtain ⟨g10, h⟩ := z_gd h
        refine faX2_2 hx hb hK hw 2 rfl rfl g10 dX8_of_51 ?_
        have hy := Option.some.inj h
        rw [← hQz, ← hy]
        exact xr_i (v := gA o_me_isles 2 (((p0 * (4 : Int32)) + p1) - (4 : Int32)).toNatClampNeg) hx hb hr rfl hlk hK hw dX8_of_52
    · have h := z_t h c
      refine lv_aload_n hx hb dX8_of_18 rfl (lv_at hl 0 rfl) ?_
      refine fgX8_2 hx hb hts hown hK hw 0 rfl kw444 dX8_of_19 ?_
      refine fgX2_1 hx hb hts hown hK hw 2 rfl kw301 dX8_of_22 ?_
      refine lv_iload_n hx hb dX8_of_25 rfl (lv_at hl 1 rfl) ?_
      obtain ⟨g11, h⟩ := z_gd h
      refine faX2_1 hx hb hK hw 2 rfl rfl g11 dX8_of_26 ?_
      have hy := Option.some.inj h
      rw [← hQz, ← hy]
      exact xr_i (v := gA o_me_isles 1 p0.toNatClampNeg) hx hb hr rfl hlk hK hw dX8_of_27
  · have h := z_t h c
    refine lv_iconst (v := (-1)) hx hb dX8_of_11 (by decide) ?_
    have hy := Option.some.inj h
    rw [← hQz, ← hy]
    exact xr_i (v := (-1 : Int32)) hx hb hr rfl hlk hK hw dX8_of_12

def f_X0_clear (nc_me : Nat) (ns_me : Nat) (o_me : Ob) : Option (Ob) :=
  zlt (sI o_me 7 (0 : Int32)) fun o1 =>
  zlt (sI o1 8 (0 : Int32)) fun o2 =>
  some o2
set_option maxHeartbeats 4000000 in
set_option maxRecDepth 100000 in
theorem m_X0_clear (l : Launch) (dC : Nat → ClassId) (dI : Nat → Nat → Nat) (sz : Nat) (h_me : Nat) (q_me : Nat → Nat) (k_me : Nat → ClassId) (nc_me : Nat) (ns_me : Nat) (o_me : Ob) (y : Ob) (h : f_X0_clear nc_me ns_me o_me = some y) : CV l yX0_clear cX0_clear 1 none ({ frames := 0, cells := 0, slots := 0, locals := 0 } : Room) dC dI sz [.ref h_me] [wX0 h_me nc_me ns_me q_me k_me o_me] [tX0 k_me] [wX0 h_me nc_me ns_me q_me k_me y] := by
  refine CC_of (by decide) (Nat.le_of_ble_eq_true rfl) ?_
  intro p e s m below meth c A ls hx hb hml hr hlk hnm hown hts hX hK hP hD hA hl
  have hl : lv_has ls 1 [(0, .ref h_me)] := hl
  have hown : s.vm.findClass RX0 = some m.cls := hown
  have hw : Wd dC dI A s.heap [wX0 h_me nc_me ns_me q_me k_me o_me] s.heap [] := ⟨hP, hD, va_S.rf⟩
  generalize hQz : (MQ below (QV dC dI (fun (_ : Unit) => True) (fun _ => Jn [wX0 h_me nc_me ns_me q_me k_me y]) (fun _ => Jt [tX0 k_me]) A) ([.ref h_me] : List Value).toArray s 0 0 A) = Qz
  clear hP hD hnm
  unfold f_X0_clear at h
  refine lv_aload_n hx hb dX0_clear_0 rfl (lv_at hl 0 rfl) ?_
  refine lv_iconst (v := 0) hx hb dX0_clear_1 (by decide) ?_
  refine fpX0_7 hx hb hts hown hK hw 0 rfl kw174 dX0_clear_2 (fun H locs hw => ?_)
  obtain ⟨o1, eo1, h⟩ := z_lt h
  have hw : Wd dC dI A s.heap [wX0 h_me nc_me ns_me q_me k_me o1] H locs := by rw [eo1]; exact hw
  refine lv_aload_n hx hb dX0_clear_5 rfl (lv_at hl 0 rfl) ?_
  refine lv_iconst (v := 0) hx hb dX0_clear_6 (by decide) ?_
  refine fpX0_8 hx hb hts hown hK hw 0 rfl kw178 dX0_clear_7 (fun H locs hw => ?_)
  obtain ⟨o2, eo2, h⟩ := z_lt h
  have hw : Wd dC dI A s.heap [wX0 h_me nc_me ns_me q_me k_me o2] H locs := by rw [eo2]; exact hw
  have hy := Option.some.inj h
  rw [← hQz, ← hy]
  exact xr_v hx hb hr hlk hK hw dX0_clear_10

def f_X6_byteAt (o_me : Ob) (p0 : Int32) : Option (Int32) :=
  if p0 < (0 : Int32) then
  (some (-1 : Int32))
  else
  (if (gI o_me 2) ≤ p0 then
  (some (-1 : Int32))
  else
  (if (400 : Int32) ≤ p0 then
  (some (-1 : Int32))
  else
  (zgd (zin p0 400) <|
  some (gA o_me 0 p0.toNatClampNeg))))
set_option maxHeartbeats 4000000 in
set_option maxRecDepth 100000 in
theorem m_X6_byteAt (l : Launch) (dC : Nat → ClassId) (dI : Nat → Nat → Nat) (sz : Nat) (h_me : Nat) (h_me_code : Nat) (q_me : Nat → Nat) (k_me : Nat → ClassId) (o_me : Ob) (p0 : Int32) (y : Int32) (h : f_X6_byteAt o_me p0 = some y) : CI l yX6_byteAt cX6_byteAt 2 (some .int) ({ frames := 0, cells := 0, slots := 0, locals := 0 } : Room) dC dI sz [.ref h_me, .int p0] [wX6 h_me h_me_code q_me k_me o_me] [tX6 k_me] y [wX6 h_me h_me_code q_me k_me o_me] := by
  refine CC_of (by decide) (Nat.le_of_ble_eq_true rfl) ?_
  intro p e s m below meth c A ls hx hb hml hr hlk hnm hown hts hX hK hP hD hA hl
  have hl : lv_has ls 2 [(0, .ref h_me), (1, .int p0)] := hl
  have hown : s.vm.findClass RX6 = some m.cls := hown
  have hw : Wd dC dI A s.heap [wX6 h_me h_me_code q_me k_me o_me] s.heap [] := ⟨hP, hD, va_S.rf⟩
  generalize hQz : (MQ below (QI dC dI (fun r (_ : Unit) => r = y) (fun _ => Jn [wX6 h_me h_me_code q_me k_me o_me]) (fun _ => Jt [tX6 k_me]) A) ([.ref h_me, .int p0] : List Value).toArray s 0 0 A) = Qz
  clear hP hD hnm
  unfold f_X6_byteAt at h
  refine lv_iload_n hx hb dX6_byteAt_0 rfl (lv_at hl 1 rfl) ?_
  refine lv_if_lt (tgt := 28) hx hb dX6_byteAt_1 (by decide) (fun c => ?_) (fun c => ?_)
  · have h := z_t h c
    refine lv_iconst (v := (-1)) hx hb dX6_byteAt_28 (by decide) ?_
    have hy := Option.some.inj h
    rw [← hQz, ← hy]
    exact xr_i (v := (-1 : Int32)) hx hb hr rfl hlk hK hw dX6_byteAt_29
  · have h := z_f h c
    refine lv_iload_n hx hb dX6_byteAt_4 rfl (lv_at hl 1 rfl) ?_
    refine lv_aload_n hx hb dX6_byteAt_5 rfl (lv_at hl 0 rfl) ?_
    refine fgX6_2 hx hb hts hown hK hw 0 rfl kw204 dX6_byteAt_6 ?_
    refine lv_icmp_ge (tgt := 28) hx hb dX6_byteAt_9 (by decide) (fun c => ?_) (fun c => ?_)
    · have h := z_t h c
      refine lv_iconst (v := (-1)) hx hb dX6_byteAt_28 (by decide) ?_
      have hy := Option.some.inj h
      rw [← hQz, ← hy]
      exact xr_i (v := (-1 : Int32)) hx hb hr rfl hlk hK hw dX6_byteAt_29
    · have h := z_f h c
      refine lv_iload_n hx hb dX6_byteAt_12 rfl (lv_at hl 1 rfl) ?_
      refine lv_sipush (v := 400) hx hb dX6_byteAt_13 (by decide) ?_
      refine lv_icmp_ge (tgt := 28) hx hb dX6_byteAt_16 (by decide) (fun c => ?_) (fun c => ?_)
      · have h := z_t h c
        refine lv_iconst (v := (-1)) hx hb dX6_byteAt_28 (by decide) ?_
        have hy := Option.some.inj h
        rw [← hQz, ← hy]
        exact xr_i (v := (-1 : Int32)) hx hb hr rfl hlk hK hw dX6_byteAt_29
      · have h := z_f h c
        refine lv_aload_n hx hb dX6_byteAt_19 rfl (lv_at hl 0 rfl) ?_
        refine fgX6_0 hx hb hts hown hK hw 0 rfl kw201 dX6_byteAt_20 ?_
        refine lv_iload_n hx hb dX6_byteAt_23 rfl (lv_at hl 1 rfl) ?_
        obtain ⟨g1, h⟩ := z_gd h
        refine faX6_0 hx hb hK hw 0 rfl rfl g1 dX6_byteAt_24 ?_
        refine lv_goto (tgt := 29) hx hb dX6_byteAt_25 (by decide) ?_
        have hy := Option.some.inj h
        rw [← hQz, ← hy]
        exact xr_i (v := gA o_me 0 p0.toNatClampNeg) hx hb hr rfl hlk hK hw dX6_byteAt_29

def f_X6_isLetter (p0 : Int32) : Option (Int32) :=
  if p0 < (97 : Int32) then
  (some (0 : Int32))
  else
  (if (122 : Int32) < p0 then
  (some (0 : Int32))
  else
  (some (1 : Int32)))
set_option maxHeartbeats 4000000 in
set_option maxRecDepth 100000 in
theorem m_X6_isLetter (l : Launch) (dC : Nat → ClassId) (dI : Nat → Nat → Nat) (sz : Nat)  (p0 : Int32) (y : Int32) (h : f_X6_isLetter p0 = some y) : CI l yX6_isLetter cX6_isLetter 1 (some .boolean) ({ frames := 0, cells := 0, slots := 0, locals := 0 } : Room) dC dI sz [.int p0] [] [] y [] := by
  refine CC_of (by decide) (Nat.le_of_ble_eq_true rfl) ?_
  intro p e s m below meth c A ls hx hb hml hr hlk hnm hown hts hX hK hP hD hA hl
  have hl : lv_has ls 1 [(0, .int p0)] := hl
  have hown : s.vm.findClass RX6 = some m.cls := hown
  have hw : Wd dC dI A s.heap [] s.heap [] := ⟨hP, hD, va_S.rf⟩
  generalize hQz : (MQ below (QI dC dI (fun r (_ : Unit) => r = y) (fun _ => Jn []) (fun _ => Jt []) A) ([.int p0] : List Value).toArray s 0 0 A) = Qz
  clear hP hD hnm
  unfold f_X6_isLetter at h
  refine lv_iload_n hx hb dX6_isLetter_0 rfl (lv_at hl 0 rfl) ?_
  refine lv_bipush (v := 97) hx hb dX6_isLetter_1 (by decide) ?_
  refine lv_icmp_lt (tgt := 16) hx hb dX6_isLetter_3 (by decide) (fun c => ?_) (fun c => ?_)
  · have h := z_t h c
    refine lv_iconst (v := 0) hx hb dX6_isLetter_16 (by decide) ?_
    have hy := Option.some.inj h
    rw [← hQz, ← hy]
    exact xr_i (v := (0 : Int32)) hx hb hr rfl hlk hK hw dX6_isLetter_17
  · have h := z_f h c
    refine lv_iload_n hx hb dX6_isLetter_6 rfl (lv_at hl 0 rfl) ?_
    refine lv_bipush (v := 122) hx hb dX6_isLetter_7 (by decide) ?_
    refine lv_icmp_gt (tgt := 16) hx hb dX6_isLetter_9 (by decide) (fun c => ?_) (fun c => ?_)
    · have h := z_t h c
      refine lv_iconst (v := 0) hx hb dX6_isLetter_16 (by decide) ?_
      have hy := Option.some.inj h
      rw [← hQz, ← hy]
      exact xr_i (v := (0 : Int32)) hx hb hr rfl hlk hK hw dX6_isLetter_17
    · have h := z_f h c
      refine lv_iconst (v := 1) hx hb dX6_isLetter_12 (by decide) ?_
      refine lv_goto (tgt := 17) hx hb dX6_isLetter_13 (by decide) ?_
      have hy := Option.some.inj h
      rw [← hQz, ← hy]
      exact xr_i (v := (1 : Int32)) hx hb hr rfl hlk hK hw dX6_isLetter_17

def f_X6_isDigit (p0 : Int32) : Option (Int32) :=
  if p0 < (48 : Int32) then
  (some (0 : Int32))
  else
  (if (57 : Int32) < p0 then
  (some (0 : Int32))
  else
  (some (1 : Int32)))
set_option maxHeartbeats 4000000 in
set_option maxRecDepth 100000 in
theorem m_X6_isDigit (l : Launch) (dC : Nat → ClassId) (dI : Nat → Nat → Nat) (sz : Nat)  (p0 : Int32) (y : Int32) (h : f_X6_isDigit p0 = some y) : CI l yX6_isDigit cX6_isDigit 1 (some .boolean) ({ frames := 0, cells := 0, slots := 0, locals := 0 } : Room) dC dI sz [.int p0] [] [] y [] := by
  refine CC_of (by decide) (Nat.le_of_ble_eq_true rfl) ?_
  intro p e s m below meth c A ls hx hb hml hr hlk hnm hown hts hX hK hP hD hA hl
  have hl : lv_has ls 1 [(0, .int p0)] := hl
  have hown : s.vm.findClass RX6 = some m.cls := hown
  have hw : Wd dC dI A s.heap [] s.heap [] := ⟨hP, hD, va_S.rf⟩
  generalize hQz : (MQ below (QI dC dI (fun r (_ : Unit) => r = y) (fun _ => Jn []) (fun _ => Jt []) A) ([.int p0] : List Value).toArray s 0 0 A) = Qz
  clear hP hD hnm
  unfold f_X6_isDigit at h
  refine lv_iload_n hx hb dX6_isDigit_0 rfl (lv_at hl 0 rfl) ?_
  refine lv_bipush (v := 48) hx hb dX6_isDigit_1 (by decide) ?_
  refine lv_icmp_lt (tgt := 16) hx hb dX6_isDigit_3 (by decide) (fun c => ?_) (fun c => ?_)
  · have h := z_t h c
    refine lv_iconst (v := 0) hx hb dX6_isDigit_16 (by decide) ?_
    have hy := Option.some.inj h
    rw [← hQz, ← hy]
    exact xr_i (v := (0 : Int32)) hx hb hr rfl hlk hK hw dX6_isDigit_17
  · have h := z_f h c
    refine lv_iload_n hx hb dX6_isDigit_6 rfl (lv_at hl 0 rfl) ?_
    refine lv_bipush (v := 57) hx hb dX6_isDigit_7 (by decide) ?_
    refine lv_icmp_gt (tgt := 16) hx hb dX6_isDigit_9 (by decide) (fun c => ?_) (fun c => ?_)
    · have h := z_t h c
      refine lv_iconst (v := 0) hx hb dX6_isDigit_16 (by decide) ?_
      have hy := Option.some.inj h
      rw [← hQz, ← hy]
      exact xr_i (v := (0 : Int32)) hx hb hr rfl hlk hK hw dX6_isDigit_17
    · have h := z_f h c
      refine lv_iconst (v := 1) hx hb dX6_isDigit_12 (by decide) ?_
      refine lv_goto (tgt := 17) hx hb dX6_isDigit_13 (by decide) ?_
      have hy := Option.some.inj h
      rw [← hQz, ← hy]
      exact xr_i (v := (1 : Int32)) hx hb hr rfl hlk hK hw dX6_isDigit_17

def lb_X6_step_149   (rec_149_2 : Ob → Option (Ob)) (o_me : Ob) : Option (Ob) :=
  if (gI o_me 2) ≤ (gI o_me 8) then
  (some o_me)
  else
  ((f_X6_byteAt o_me (gI o_me 8)).bind fun z13 =>
  (f_X6_isDigit z13).bind fun z14 =>
  if z14 = (0 : Int32) then
  (some o_me)
  else
  ((f_X6_byteAt o_me (gI o_me 8)).bind fun z15 =>
  zlt (sI o_me 9 (if ((((gI o_me 9) * (10 : Int32)) + z15) - (48 : Int32)) < (1001 : Int32) then ((((gI o_me 9) * (10 : Int32)) + z15) - (48 : Int32)) else (1001 : Int32))) fun o16 =>
  zlt (sI o16 8 ((gI o16 8) + (1 : Int32))) fun o17 =>
  rec_149_2 o17))
def lp_X6_step_149   : Nat → Ob → Option (Ob) := zit (fun rec a => lb_X6_step_149   rec a)
def lb_X6_step_83   (rec_83_3 : Ob → Option (Ob)) (o_me : Ob) : Option (Ob) :=
  if (gI o_me 2) ≤ (gI o_me 8) then
  (some o_me)
  else
  ((f_X6_byteAt o_me (gI o_me 8)).bind fun z19 =>
  (f_X6_isLetter z19).bind fun z20 =>
  if z20 = (0 : Int32) then
  (some o_me)
  else
  (zlt (sI o_me 8 ((gI o_me 8) + (1 : Int32))) fun o21 =>
  rec_83_3 o21))
def lp_X6_step_83   : Nat → Ob → Option (Ob) := zit (fun rec a => lb_X6_step_83   rec a)
def bk_X6_step_29   (v1 : Int32) (o_me : Ob) : Option (Ob) :=
  zlt (sI o_me 7 v1) fun o2 =>
  zlt (sI o2 8 (v1 + (1 : Int32))) fun o3 =>
  zlt (sI o3 9 (0 : Int32)) fun o4 =>
  if v1 < (gI o4 2) then
  ((f_X6_byteAt o4 v1).bind fun z5 =>
  (f_X6_isLetter z5).bind fun z6 =>
  if z6 = (0 : Int32) then
  ((f_X6_byteAt o4 v1).bind fun z7 =>
  (f_X6_isDigit z7).bind fun z8 =>
  if z8 = (0 : Int32) then
  (zlt (sI o4 6 (3 : Int32)) fun o9 =>
  some o9)
  else
  (zlt (sI o4 6 (2 : Int32)) fun o10 =>
  (f_X6_byteAt o10 v1).bind fun z11 =>
  zlt (sI o10 9 (z11 - (48 : Int32))) fun o12 =>
  lp_X6_step_149   zfu o12))
  else
  (zlt (sI o4 6 (1 : Int32)) fun o18 =>
  lp_X6_step_83   zfu o18))
  else
  (zlt (sI o4 6 (0 : Int32)) fun o22 =>
  zlt (sI o22 8 v1) fun o23 =>
  some o23)
def lb_X6_step_5   (rec_5_0 : Int32 × Ob → Option (Ob)) (v1 : Int32) (o_me : Ob) : Option (Ob) :=
  if (gI o_me 2) ≤ v1 then
  (bk_X6_step_29   v1 o_me)
  else
  ((f_X6_byteAt o_me v1).bind fun z24 =>
  if z24 = (32 : Int32) then
  (zlt (v1 + (1 : Int32)) fun x25 =>
  rec_5_0 (x25, o_me))
  else
  (bk_X6_step_29   v1 o_me))
def lp_X6_step_5   : Nat → (Int32 × Ob) → Option (Ob) := zit (fun rec a => lb_X6_step_5   rec a.1 a.2)
def f_X6_step (o_me : Ob) : Option (Ob) :=
  zlt (gI o_me 8) fun x1 =>
  lp_X6_step_5   zfu (x1, o_me)
set_option maxHeartbeats 4000000 in
set_option maxRecDepth 100000 in
theorem m_X6_step (l : Launch) (dC : Nat → ClassId) (dI : Nat → Nat → Nat) (sz : Nat) (h_me : Nat) (h_me_code : Nat) (q_me : Nat → Nat) (k_me : Nat → ClassId) (o_me : Ob) (y : Ob) (h : f_X6_step o_me = some y) : CV l yX6_step cX6_step 2 none ({ frames := 1, cells := 0, slots := 0, locals := 21 } : Room) dC dI sz [.ref h_me] [wX6 h_me h_me_code q_me k_me o_me] [tX6 k_me] [wX6 h_me h_me_code q_me k_me y] := by
  refine CC_of (by decide) (Nat.le_of_ble_eq_true rfl) ?_
  intro p e s m below meth c A ls hx hb hml hr hlk hnm hown hts hX hK hP hD hA hl
  have hl : lv_has ls 2 [(0, .ref h_me)] := hl
  have hown : s.vm.findClass RX6 = some m.cls := hown
  have hw : Wd dC dI A s.heap [wX6 h_me h_me_code q_me k_me o_me] s.heap [] := ⟨hP, hD, va_S.rf⟩
  generalize hQz : (MQ below (QV dC dI (fun (_ : Unit) => True) (fun _ => Jn [wX6 h_me h_me_code q_me k_me y]) (fun _ => Jt [tX6 k_me]) A) ([.ref h_me] : List Value).toArray s 0 0 A) = Qz
  clear hP hD hnm
  have lp_149_2 : ∀ (N : Nat), ∀ (o_me : Ob) (H : Heap) (locs : List Loc) (ls : Array Slot), lp_X6_step_149   N o_me = some y → Wd dC dI A s.heap [wX6 h_me h_me_code q_me k_me o_me] H locs → lv_has ls 2 [(0, .ref h_me)] → W p l e ({ frames := 1, cells := 0, slots := 0, locals := 21 } : Room) s m ([.ref h_me] : List Value).toArray below meth c H locs 0 0 Qz (F0 m 149 ls []) := by
    intro N
    induction N with
    | zero =>
      intro o_me H locs ls h hw hl
      exact absurd (show (none : Option (Ob)) = some y from h) (by simp)
    | succ N ih =>
      intro o_me H locs ls h hw hl
      have h : lb_X6_step_149   (lp_X6_step_149   N) o_me = some y := h
      unfold lb_X6_step_149 at h
      refine lv_aload_n hx hb dX6_step_149 rfl (lv_at hl 0 rfl) ?_
      refine fgX6_8 hx hb hts hown hK hw 0 rfl kw212 dX6_step_150 ?_
      refine lv_aload_n hx hb dX6_step_153 rfl (lv_at hl 0 rfl) ?_
      refine fgX6_2 hx hb hts hown hK hw 0 rfl kw204 dX6_step_154 ?_
      refine lv_icmp_ge (tgt := 221) hx hb dX6_step_157 (by decide) (fun c => ?_) (fun c => ?_)
      · have h := z_t h c
        have hy := Option.some.inj h
        rw [← hQz, ← hy]
        exact xr_v hx hb hr hlk hK hw dX6_step_221
      · have h := z_f h c
        refine lv_aload_n hx hb dX6_step_160 rfl (lv_at hl 0 rfl) ?_
        refine lv_aload_n hx hb dX6_step_161 rfl (lv_at hl 0 rfl) ?_
        refine fgX6_8 hx hb hts hown hK hw 0 rfl kw212 dX6_step_162 ?_
        obtain ⟨z13, ez13, h⟩ := z_bd h
        refine xj_i (xrV (As := [.int (gI o_me 8)]) (rest := []) ⟨hx, hb, hml, hown, hts⟩ (m_X6_byteAt l dC dI _ h_me h_me_code q_me k_me o_me (gI o_me 8) z13 ez13) kw655 kw676 kw653 kw654 kw111 hd_X6_byteAt ⟨rfl, rfl⟩ rfl rfl ⟨rfl, rfl⟩ hX hK hw [0] (by decide) rfl rfl rfl rfl rfl hl.1 rfl rfl dX6_step_165) hw hA [0] (by decide) rfl rfl (fun H locs hw => ?_)
        have hw : Wd dC dI A s.heap [wX6 h_me h_me_code q_me k_me o_me] H locs := hw
        obtain ⟨z14, ez14, h⟩ := z_bd h
        refine xj_i (xrS (As := [.int z13]) (rest := []) ⟨hx, hb, hml, hown, hts⟩ (m_X6_isDigit l dC dI _  z13 z14 ez14) kw682 kw680 kw681 kw111 hd_X6_isDigit ⟨rfl, rfl⟩ rfl rfl ⟨rfl, rfl⟩ hX hK hw [] (by decide) rfl rfl hl.1 rfl rfl dX6_step_168) hw hA [] (by decide) rfl rfl (fun H locs hw => ?_)
        refine lv_if_eq (tgt := 221) hx hb dX6_step_171 (by decide) (fun c => ?_) (fun c => ?_)
        · have h := z_t h c
          have hy := Option.some.inj h
          rw [← hQz, ← hy]
          exact xr_v hx hb hr hlk hK hw dX6_step_221
        · have h := z_f h c
          refine lv_aload_n hx hb dX6_step_174 rfl (lv_at hl 0 rfl) ?_
          refine lv_sipush (v := 1001) hx hb dX6_step_175 (by decide) ?_
          refine lv_aload_n hx hb dX6_step_178 rfl (lv_at hl 0 rfl) ?_
          refine fgX6_9 hx hb hts hown hK hw 0 rfl kw213 dX6_step_179 ?_
          refine lv_bipush (v := 10) hx hb dX6_step_182 (by decide) ?_
          refine lv_imul hx hb dX6_step_184 ?_
          refine lv_aload_n hx hb dX6_step_185 rfl (lv_at hl 0 rfl) ?_
          refine lv_aload_n hx hb dX6_step_186 rfl (lv_at hl 0 rfl) ?_
          refine fgX6_8 hx hb hts hown hK hw 0 rfl kw212 dX6_step_187 ?_
          obtain ⟨z15, ez15, h⟩ := z_bd h
          refine xj_i (xrV (As := [.int (gI o_me 8)]) (rest := [.int ((gI o_me 9) * (10 : Int32)), .int (1001 : Int32), .ref h_me]) ⟨hx, hb, hml, hown, hts⟩ (m_X6_byteAt l dC dI _ h_me h_me_code q_me k_me o_me (gI o_me 8) z15 ez15) kw655 kw676 kw653 kw654 kw111 hd_X6_byteAt ⟨rfl, rfl⟩ rfl rfl ⟨rfl, rfl⟩ hX hK hw [0] (by decide) rfl rfl rfl rfl rfl hl.1 rfl rfl dX6_step_190) hw hA [0] (by decide) rfl rfl (fun H locs hw => ?_)
          have hw : Wd dC dI A s.heap [wX6 h_me h_me_code q_me k_me o_me] H locs := hw
          refine lv_iadd hx hb dX6_step_193 ?_
          refine lv_bipush (v := 48) hx hb dX6_step_194 (by decide) ?_
          refine lv_isub hx hb dX6_step_196 ?_
          refine va_mmin hx hb (hml.trans hl.1.symm) hown (hts _ kw683) (hts _ kw561) (hts _ kw113) (hts _ kw562) (Nat.le_of_ble_eq_true rfl) (Nat.le_of_ble_eq_true rfl) (Nat.le_of_ble_eq_true rfl) (Nat.le_of_ble_eq_true rfl) dX6_step_197 ?_
          refine fpX6_9 hx hb hts hown hK hw 0 rfl kw213 dX6_step_200 (fun H locs hw => ?_)
          obtain ⟨o16, eo16, h⟩ := z_lt h
          have hw : Wd dC dI A s.heap [wX6 h_me h_me_code q_me k_me o16] H locs := by rw [eo16]; exact hw
          refine lv_aload_n hx hb dX6_step_203 rfl (lv_at hl 0 rfl) ?_
          refine lv_dup hx hb dX6_step_204 rfl ?_
          refine fgX6_8 hx hb hts hown hK hw 0 rfl kw212 dX6_step_205 ?_
          refine lv_iconst (v := 1) hx hb dX6_step_208 (by decide) ?_
          refine lv_iadd hx hb dX6_step_209 ?_
          refine fpX6_8 hx hb hts hown hK hw 0 rfl kw212 dX6_step_210 (fun H locs hw => ?_)
          obtain ⟨o17, eo17, h⟩ := z_lt h
          have hw : Wd dC dI A s.heap [wX6 h_me h_me_code q_me k_me o17] H locs := by rw [eo17]; exact hw
          refine lv_goto (tgt := 149) hx hb dX6_step_213 (by decide) ?_
          exact ih o17 _ _ _ h hw (lv_sub hl [0] rfl)
  have lp_83_3 : ∀ (N : Nat), ∀ (o_me : Ob) (H : Heap) (locs : List Loc) (ls : Array Slot), lp_X6_step_83   N o_me = some y → Wd dC dI A s.heap [wX6 h_me h_me_code q_me k_me o_me] H locs → lv_has ls 2 [(0, .ref h_me)] → W p l e ({ frames := 1, cells := 0, slots := 0, locals := 21 } : Room) s m ([.ref h_me] : List Value).toArray below meth c H locs 0 0 Qz (F0 m 83 ls []) := by
    intro N
    induction N with
    | zero =>
      intro o_me H locs ls h hw hl
      exact absurd (show (none : Option (Ob)) = some y from h) (by simp)
    | succ N ih =>
      intro o_me H locs ls h hw hl
      have h : lb_X6_step_83   (lp_X6_step_83   N) o_me = some y := h
      unfold lb_X6_step_83 at h
      refine lv_aload_n hx hb dX6_step_83 rfl (lv_at hl 0 rfl) ?_
      refine fgX6_8 hx hb hts hown hK hw 0 rfl kw212 dX6_step_84 ?_
      refine lv_aload_n hx hb dX6_step_87 rfl (lv_at hl 0 rfl) ?_
      refine fgX6_2 hx hb hts hown hK hw 0 rfl kw204 dX6_step_88 ?_
      refine lv_icmp_ge (tgt := 221) hx hb dX6_step_91 (by decide) (fun c => ?_) (fun c => ?_)
      · have h := z_t h c
        have hy := Option.some.inj h
        rw [← hQz, ← hy]
        exact xr_v hx hb hr hlk hK hw dX6_step_221
      · have h := z_f h c
        refine lv_aload_n hx hb dX6_step_94 rfl (lv_at hl 0 rfl) ?_
        refine lv_aload_n hx hb dX6_step_95 rfl (lv_at hl 0 rfl) ?_
        refine fgX6_8 hx hb hts hown hK hw 0 rfl kw212 dX6_step_96 ?_
        obtain ⟨z19, ez19, h⟩ := z_bd h
        refine xj_i (xrV (As := [.int (gI o_me 8)]) (rest := []) ⟨hx, hb, hml, hown, hts⟩ (m_X6_byteAt l dC dI _ h_me h_me_code q_me k_me o_me (gI o_me 8) z19 ez19) kw655 kw676 kw653 kw654 kw111 hd_X6_byteAt ⟨rfl, rfl⟩ rfl rfl ⟨rfl, rfl⟩ hX hK hw [0] (by decide) rfl rfl rfl rfl rfl hl.1 rfl rfl dX6_step_99) hw hA [0] (by decide) rfl rfl (fun H locs hw => ?_)
        have hw : Wd dC dI A s.heap [wX6 h_me h_me_code q_me k_me o_me] H locs := hw
        obtain ⟨z20, ez20, h⟩ := z_bd h
        refine xj_i (xrS (As := [.int z19]) (rest := []) ⟨hx, hb, hml, hown, hts⟩ (m_X6_isLetter l dC dI _  z19 z20 ez20) kw679 kw677 kw678 kw111 hd_X6_isLetter ⟨rfl, rfl⟩ rfl rfl ⟨rfl, rfl⟩ hX hK hw [] (by decide) rfl rfl hl.1 rfl rfl dX6_step_102) hw hA [] (by decide) rfl rfl (fun H locs hw => ?_)
        refine lv_if_eq (tgt := 221) hx hb dX6_step_105 (by decide) (fun c => ?_) (fun c => ?_)
        · have h := z_t h c
          have hy := Option.some.inj h
          rw [← hQz, ← hy]
          exact xr_v hx hb hr hlk hK hw dX6_step_221
        · have h := z_f h c
          refine lv_aload_n hx hb dX6_step_108 rfl (lv_at hl 0 rfl) ?_
          refine lv_dup hx hb dX6_step_109 rfl ?_
          refine fgX6_8 hx hb hts hown hK hw 0 rfl kw212 dX6_step_110 ?_
          refine lv_iconst (v := 1) hx hb dX6_step_113 (by decide) ?_
          refine lv_iadd hx hb dX6_step_114 ?_
          refine fpX6_8 hx hb hts hown hK hw 0 rfl kw212 dX6_step_115 (fun H locs hw => ?_)
          obtain ⟨o21, eo21, h⟩ := z_lt h
          have hw : Wd dC dI A s.heap [wX6 h_me h_me_code q_me k_me o21] H locs := by rw [eo21]; exact hw
          refine lv_goto (tgt := 83) hx hb dX6_step_118 (by decide) ?_
          exact ih o21 _ _ _ h hw (lv_sub hl [0] rfl)
  have bk_29_1 : ∀ (v1 : Int32) (o_me : Ob) (H : Heap) (locs : List Loc) (ls : Array Slot), bk_X6_step_29   v1 o_me = some y → Wd dC dI A s.heap [wX6 h_me h_me_code q_me k_me o_me] H locs → lv_has ls 2 [(0, .ref h_me), (1, .int v1)] → W p l e ({ frames := 1, cells := 0, slots := 0, locals := 21 } : Room) s m ([.ref h_me] : List Value).toArray below meth c H locs 0 0 Qz (F0 m 29 ls []) := by
    intro v1 o_me H locs ls h hw hl
    unfold bk_X6_step_29 at h
    refine lv_aload_n hx hb dX6_step_29 rfl (lv_at hl 0 rfl) ?_
    refine lv_iload_n hx hb dX6_step_30 rfl (lv_at hl 1 rfl) ?_
    refine fpX6_7 hx hb hts hown hK hw 0 rfl kw211 dX6_step_31 (fun H locs hw => ?_)
    obtain ⟨o2, eo2, h⟩ := z_lt h
    have hw : Wd dC dI A s.heap [wX6 h_me h_me_code q_me k_me o2] H locs := by rw [eo2]; exact hw
    refine lv_aload_n hx hb dX6_step_34 rfl (lv_at hl 0 rfl) ?_
    refine lv_iload_n hx hb dX6_step_35 rfl (lv_at hl 1 rfl) ?_
    refine lv_iconst (v := 1) hx hb dX6_step_36 (by decide) ?_
    refine lv_iadd hx hb dX6_step_37 ?_
    refine fpX6_8 hx hb hts hown hK hw 0 rfl kw212 dX6_step_38 (fun H locs hw => ?_)
    obtain ⟨o3, eo3, h⟩ := z_lt h
    have hw : Wd dC dI A s.heap [wX6 h_me h_me_code q_me k_me o3] H locs := by rw [eo3]; exact hw
    refine lv_aload_n hx hb dX6_step_41 rfl (lv_at hl 0 rfl) ?_
    refine lv_iconst (v := 0) hx hb dX6_step_42 (by decide) ?_
    refine fpX6_9 hx hb hts hown hK hw 0 rfl kw213 dX6_step_43 (fun H locs hw => ?_)
    obtain ⟨o4, eo4, h⟩ := z_lt h
    have hw : Wd dC dI A s.heap [wX6 h_me h_me_code q_me k_me o4] H locs := by rw [eo4]; exact hw
    refine lv_iload_n hx hb dX6_step_46 rfl (lv_at hl 1 rfl) ?_
    refine lv_aload_n hx hb dX6_step_47 rfl (lv_at hl 0 rfl) ?_
    refine fgX6_2 hx hb hts hown hK hw 0 rfl kw204 dX6_step_48 ?_
    refine lv_icmp_lt (tgt := 67) hx hb dX6_step_51 (by decide) (fun c => ?_) (fun c => ?_)
    · have h := z_t h c
      refine lv_aload_n hx hb dX6_step_67 rfl (lv_at hl 0 rfl) ?_
      refine lv_iload_n hx hb dX6_step_68 rfl (lv_at hl 1 rfl) ?_
      obtain ⟨z5, ez5, h⟩ := z_bd h
      refine xj_i (xrV (As := [.int v1]) (rest := []) ⟨hx, hb, hml, hown, hts⟩ (m_X6_byteAt l dC dI _ h_me h_me_code q_me k_me o4 v1 z5 ez5) kw655 kw676 kw653 kw654 kw111 hd_X6_byteAt ⟨rfl, rfl⟩ rfl rfl ⟨rfl, rfl⟩ hX hK hw [0] (by decide) rfl rfl rfl rfl rfl hl.1 rfl rfl dX6_step_69) hw hA [0] (by decide) rfl rfl (fun H locs hw => ?_)
      have hw : Wd dC dI A s.heap [wX6 h_me h_me_code q_me k_me o4] H locs := hw
      obtain ⟨z6, ez6, h⟩ := z_bd h
      refine xj_i (xrS (As := [.int z5]) (rest := []) ⟨hx, hb, hml, hown, hts⟩ (m_X6_isLetter l dC dI _  z5 z6 ez6) kw679 kw677 kw678 kw111 hd_X6_isLetter ⟨rfl, rfl⟩ rfl rfl ⟨rfl, rfl⟩ hX hK hw [] (by decide) rfl rfl hl.1 rfl rfl dX6_step_72) hw hA [] (by decide) rfl rfl (fun H locs hw => ?_)
      refine lv_if_eq (tgt := 121) hx hb dX6_step_75 (by decide) (fun c => ?_) (fun c => ?_)
      · have h := z_t h c
        refine lv_aload_n hx hb dX6_step_121 rfl (lv_at hl 0 rfl) ?_
        refine lv_iload_n hx hb dX6_step_122 rfl (lv_at hl 1 rfl) ?_
        obtain ⟨z7, ez7, h⟩ := z_bd h
        refine xj_i (xrV (As := [.int v1]) (rest := []) ⟨hx, hb, hml, hown, hts⟩ (m_X6_byteAt l dC dI _ h_me h_me_code q_me k_me o4 v1 z7 ez7) kw655 kw676 kw653 kw654 kw111 hd_X6_byteAt ⟨rfl, rfl⟩ rfl rfl ⟨rfl, rfl⟩ hX hK hw [0] (by decide) rfl rfl rfl rfl rfl hl.1 rfl rfl dX6_step_123) hw hA [0] (by decide) rfl rfl (fun H locs hw => ?_)
        have hw : Wd dC dI A s.heap [wX6 h_me h_me_code q_me k_me o4] H locs := hw
        obtain ⟨z8, ez8, h⟩ := z_bd h
        refine xj_i (xrS (As := [.int z7]) (rest := []) ⟨hx, hb, hml, hown, hts⟩ (m_X6_isDigit l dC dI _  z7 z8 ez8) kw682 kw680 kw681 kw111 hd_X6_isDigit ⟨rfl, rfl⟩ rfl rfl ⟨rfl, rfl⟩ hX hK hw [] (by decide) rfl rfl hl.1 rfl rfl dX6_step_126) hw hA [] (by decide) rfl rfl (fun H locs hw => ?_)
        refine lv_if_eq (tgt := 216) hx hb dX6_step_129 (by decide) (fun c => ?_) (fun c => ?_)
        · have h := z_t h c
          refine lv_aload_n hx hb dX6_step_216 rfl (lv_at hl 0 rfl) ?_
          refine lv_iconst (v := 3) hx hb dX6_step_217 (by decide) ?_
          refine fpX6_6 hx hb hts hown hK hw 0 rfl kw210 dX6_step_218 (fun H locs hw => ?_)
          obtain ⟨o9, eo9, h⟩ := z_lt h
          have hw : Wd dC dI A s.heap [wX6 h_me h_me_code q_me k_me o9] H locs := by rw [eo9]; exact hw
          have hy := Option.some.inj h
          rw [← hQz, ← hy]
          exact xr_v hx hb hr hlk hK hw dX6_step_221
        · have h := z_f h c
          refine lv_aload_n hx hb dX6_step_132 rfl (lv_at hl 0 rfl) ?_
          refine lv_iconst (v := 2) hx hb dX6_step_133 (by decide) ?_
          refine fpX6_6 hx hb hts hown hK hw 0 rfl kw210 dX6_step_134 (fun H locs hw => ?_)
          obtain ⟨o10, eo10, h⟩ := z_lt h
          have hw : Wd dC dI A s.heap [wX6 h_me h_me_code q_me k_me o10] H locs := by rw [eo10]; exact hw
          refine lv_aload_n hx hb dX6_step_137 rfl (lv_at hl 0 rfl) ?_
          refine lv_aload_n hx hb dX6_step_138 rfl (lv_at hl 0 rfl) ?_
          refine lv_iload_n hx hb dX6_step_139 rfl (lv_at hl 1 rfl) ?_
          obtain ⟨z11, ez11, h⟩ := z_bd h
          refine xj_i (xrV (As := [.int v1]) (rest := [.ref h_me]) ⟨hx, hb, hml, hown, hts⟩ (m_X6_byteAt l dC dI _ h_me h_me_code q_me k_me o10 v1 z11 ez11) kw655 kw676 kw653 kw654 kw111 hd_X6_byteAt ⟨rfl, rfl⟩ rfl rfl ⟨rfl, rfl⟩ hX hK hw [0] (by decide) rfl rfl rfl rfl rfl hl.1 rfl rfl dX6_step_140) hw hA [0] (by decide) rfl rfl (fun H locs hw => ?_)
          have hw : Wd dC dI A s.heap [wX6 h_me h_me_code q_me k_me o10] H locs := hw
          refine lv_bipush (v := 48) hx hb dX6_step_143 (by decide) ?_
          refine lv_isub hx hb dX6_step_145 ?_
          refine fpX6_9 hx hb hts hown hK hw 0 rfl kw213 dX6_step_146 (fun H locs hw => ?_)
          obtain ⟨o12, eo12, h⟩ := z_lt h
          have hw : Wd dC dI A s.heap [wX6 h_me h_me_code q_me k_me o12] H locs := by rw [eo12]; exact hw
          exact lp_149_2  zfu o12 _ _ _ h hw (lv_sub hl [0] rfl)
      · have h := z_f h c
        refine lv_aload_n hx hb dX6_step_78 rfl (lv_at hl 0 rfl) ?_
        refine lv_iconst (v := 1) hx hb dX6_step_79 (by decide) ?_
        refine fpX6_6 hx hb hts hown hK hw 0 rfl kw210 dX6_step_80 (fun H locs hw => ?_)
        obtain ⟨o18, eo18, h⟩ := z_lt h
        have hw : Wd dC dI A s.heap [wX6 h_me h_me_code q_me k_me o18] H locs := by rw [eo18]; exact hw
        exact lp_83_3  zfu o18 _ _ _ h hw (lv_sub hl [0] rfl)
    · have h := z_f h c
      refine lv_aload_n hx hb dX6_step_54 rfl (lv_at hl 0 rfl) ?_
      refine lv_iconst (v := 0) hx hb dX6_step_55 (by decide) ?_
      refine fpX6_6 hx hb hts hown hK hw 0 rfl kw210 dX6_step_56 (fun H locs hw => ?_)
      obtain ⟨o22, eo22, h⟩ := z_lt h
      have hw : Wd dC dI A s.heap [wX6 h_me h_me_code q_me k_me o22] H locs := by rw [eo22]; exact hw
      refine lv_aload_n hx hb dX6_step_59 rfl (lv_at hl 0 rfl) ?_
      refine lv_iload_n hx hb dX6_step_60 rfl (lv_at hl 1 rfl) ?_
      refine fpX6_8 hx hb hts hown hK hw 0 rfl kw212 dX6_step_61 (fun H locs hw => ?_)
      obtain ⟨o23, eo23, h⟩ := z_lt h
      have hw : Wd dC dI A s.heap [wX6 h_me h_me_code q_me k_me o23] H locs := by rw [eo23]; exact hw
      refine lv_goto (tgt := 221) hx hb dX6_step_64 (by decide) ?_
      have hy := Option.some.inj h
      rw [← hQz, ← hy]
      exact xr_v hx hb hr hlk hK hw dX6_step_221
  have lp_5_0 : ∀ (N : Nat), ∀ (v1 : Int32) (o_me : Ob) (H : Heap) (locs : List Loc) (ls : Array Slot), lp_X6_step_5   N (v1, o_me) = some y → Wd dC dI A s.heap [wX6 h_me h_me_code q_me k_me o_me] H locs → lv_has ls 2 [(0, .ref h_me), (1, .int v1)] → W p l e ({ frames := 1, cells := 0, slots := 0, locals := 21 } : Room) s m ([.ref h_me] : List Value).toArray below meth c H locs 0 0 Qz (F0 m 5 ls []) := by
    intro N
    induction N with
    | zero =>
      intro v1 o_me H locs ls h hw hl
      exact absurd (show (none : Option (Ob)) = some y from h) (by simp)
    | succ N ih =>
      intro v1 o_me H locs ls h hw hl
      have h : lb_X6_step_5   (lp_X6_step_5   N) v1 o_me = some y := h
      unfold lb_X6_step_5 at h
      refine lv_iload_n hx hb dX6_step_5 rfl (lv_at hl 1 rfl) ?_
      refine lv_aload_n hx hb dX6_step_6 rfl (lv_at hl 0 rfl) ?_
      refine fgX6_2 hx hb hts hown hK hw 0 rfl kw204 dX6_step_7 ?_
      refine lv_icmp_ge (tgt := 29) hx hb dX6_step_10 (by decide) (fun c => ?_) (fun c => ?_)
      · have h := z_t h c
        exact bk_29_1  v1 o_me _ _ _ h hw (lv_sub hl [0, 1] rfl)
      · have h := z_f h c
        refine lv_aload_n hx hb dX6_step_13 rfl (lv_at hl 0 rfl) ?_
        refine lv_iload_n hx hb dX6_step_14 rfl (lv_at hl 1 rfl) ?_
        obtain ⟨z24, ez24, h⟩ := z_bd h
        refine xj_i (xrV (As := [.int v1]) (rest := []) ⟨hx, hb, hml, hown, hts⟩ (m_X6_byteAt l dC dI _ h_me h_me_code q_me k_me o_me v1 z24 ez24) kw655 kw676 kw653 kw654 kw111 hd_X6_byteAt ⟨rfl, rfl⟩ rfl rfl ⟨rfl, rfl⟩ hX hK hw [0] (by decide) rfl rfl rfl rfl rfl hl.1 rfl rfl dX6_step_15) hw hA [0] (by decide) rfl rfl (fun H locs hw => ?_)
        have hw : Wd dC dI A s.heap [wX6 h_me h_me_code q_me k_me o_me] H locs := hw
        refine lv_bipush (v := 32) hx hb dX6_step_18 (by decide) ?_
        refine lv_icmp_ne (tgt := 29) hx hb dX6_step_20 (by decide) (fun c => ?_) (fun c => ?_)
        · have h := z_f h c
          exact bk_29_1  v1 o_me _ _ _ h hw (lv_sub hl [0, 1] rfl)
        · have h := z_t h c
          obtain ⟨x25, ex25, h⟩ := z_lt h
          refine lv_iinc (v := x25) (lv' := [(1, .int x25), (0, .ref h_me)]) hx hb dX6_step_23 hl (k := 1) rfl ((congrArg (v1 + ·) (show Int32.ofInt 1 = (1 : Int32) from by decide)).trans ex25.symm) (by decide) rfl (fun ls hl => ?_)
          refine lv_goto (tgt := 5) hx hb dX6_step_26 (by decide) ?_
          exact ih x25 o_me _ _ _ h hw (lv_sub hl [1, 0] rfl)
  unfold f_X6_step at h
  refine lv_aload_n hx hb dX6_step_0 rfl (lv_at hl 0 rfl) ?_
  refine fgX6_8 hx hb hts hown hK hw 0 rfl kw212 dX6_step_1 ?_
  obtain ⟨x1, ex1, h⟩ := z_lt h
  refine lv_fi (v := x1) ex1.symm ?_
  refine lv_istore_n (lv' := [(1, .int x1), (0, .ref h_me)]) hx hb dX6_step_4 rfl hl (by decide) rfl (fun ls hl => ?_)
  exact lp_5_0  zfu x1 o_me _ _ _ h hw (lv_sub hl [1, 0] rfl)

def f_X6_stop (o_me : Ob) : Option (Int32 × Ob) :=
  zlt (sI o_me 3 (gI o_me 7)) fun o1 =>
  some ((0 : Int32), o1)
set_option maxHeartbeats 4000000 in
set_option maxRecDepth 100000 in
theorem m_X6_stop (l : Launch) (dC : Nat → ClassId) (dI : Nat → Nat → Nat) (sz : Nat) (h_me : Nat) (h_me_code : Nat) (q_me : Nat → Nat) (k_me : Nat → ClassId) (o_me : Ob) (y : Int32 × Ob) (h : f_X6_stop o_me = some y) : CI l yX6_stop cX6_stop 1 (some .boolean) ({ frames := 0, cells := 0, slots := 0, locals := 0 } : Room) dC dI sz [.ref h_me] [wX6 h_me h_me_code q_me k_me o_me] [tX6 k_me] y.1 [wX6 h_me h_me_code q_me k_me y.2] := by
  refine CC_of (by decide) (Nat.le_of_ble_eq_true rfl) ?_
  intro p e s m below meth c A ls hx hb hml hr hlk hnm hown hts hX hK hP hD hA hl
  have hl : lv_has ls 1 [(0, .ref h_me)] := hl
  have hown : s.vm.findClass RX6 = some m.cls := hown
  have hw : Wd dC dI A s.heap [wX6 h_me h_me_code q_me k_me o_me] s.heap [] := ⟨hP, hD, va_S.rf⟩
  generalize hQz : (MQ below (QI dC dI (fun r (_ : Unit) => r = y.1) (fun _ => Jn [wX6 h_me h_me_code q_me k_me y.2]) (fun _ => Jt [tX6 k_me]) A) ([.ref h_me] : List Value).toArray s 0 0 A) = Qz
  clear hP hD hnm
  unfold f_X6_stop at h
  refine lv_aload_n hx hb dX6_stop_0 rfl (lv_at hl 0 rfl) ?_
  refine lv_aload_n hx hb dX6_stop_1 rfl (lv_at hl 0 rfl) ?_
  refine fgX6_7 hx hb hts hown hK hw 0 rfl kw211 dX6_stop_2 ?_
  refine fpX6_3 hx hb hts hown hK hw 0 rfl kw206 dX6_stop_5 (fun H locs hw => ?_)
  obtain ⟨o1, eo1, h⟩ := z_lt h
  have hw : Wd dC dI A s.heap [wX6 h_me h_me_code q_me k_me o1] H locs := by rw [eo1]; exact hw
  refine lv_iconst (v := 0) hx hb dX6_stop_8 (by decide) ?_
  have hy := Option.some.inj h
  rw [← hQz, ← hy]
  exact xr_i (v := (0 : Int32)) hx hb hr rfl hlk hK hw dX6_stop_9

def f_J0_coder_7d493 (p9 : Nat) : Option (Int32) :=
  zgd (decide (p9 < 9)) <|
  some (0 : Int32)
set_option maxHeartbeats 4000000 in
set_option maxRecDepth 100000 in
theorem m_J0_coder_7d493 (l : Launch) (dC : Nat → ClassId) (dI : Nat → Nat → Nat) (sz : Nat)  (p9 : Nat) (y : Int32) (h : f_J0_coder_7d493 p9 = some y) : CI l yJ0_coder_7d493 cJ0_coder_7d493 1 (some .byte) ({ frames := 0, cells := 0, slots := 0, locals := 0 } : Room) dC dI sz [.ref (dI 101 p9)] [] [] y [] := by
  refine CC_of (by decide) (Nat.le_of_ble_eq_true rfl) ?_
  intro p e s m below meth c A ls hx hb hml hr hlk hnm hown hts hX hK hP hD hA hl
  have hl : lv_has ls 1 [(0, .ref (dI 101 p9))] := hl
  have hown : s.vm.findClass RJ0 = some m.cls := hown
  have hw : Wd dC dI A s.heap [] s.heap [] := ⟨hP, hD, va_S.rf⟩
  generalize hQz : (MQ below (QI dC dI (fun r (_ : Unit) => r = y) (fun _ => Jn []) (fun _ => Jt []) A) ([.ref (dI 101 p9)] : List Value).toArray s 0 0 A) = Qz
  clear hP hD hnm
  unfold f_J0_coder_7d493 at h
  refine xs_cs hx hb hX hw hts hown kw702 dJ0_coder_7d493_0 ?_
  refine lv_if_eq (tgt := 13) hx hb dJ0_coder_7d493_3 (by decide) (fun c => absurd c (by decide)) (fun _ => ?_)
  refine lv_aload_n hx hb dJ0_coder_7d493_6 rfl (lv_at hl 0 rfl) ?_
  obtain ⟨g1, h⟩ := z_gd h
  refine xs_cod hx hb hX hw hts hown g1 kw1864 dJ0_coder_7d493_7 ?_
  refine lv_goto (tgt := 14) hx hb dJ0_coder_7d493_10 (by decide) ?_
  have hy := Option.some.inj h
  rw [← hQz, ← hy]
  exact xr_i (v := (0 : Int32)) hx hb hr rfl hlk hK hw dJ0_coder_7d493_14

def f_J0_length_8abf5 (p9 : Nat) : Option (Int32) :=
  zgd (decide (p9 < 9)) <|
  zgd (decide (p9 < 9)) <|
  zgd (decide (p9 < 9)) <|
  (f_J0_coder_7d493 p9).bind fun z3 =>
  some ((Int32.ofNat (lnS.getD p9 0)) >>> (z3 &&& 31))
set_option maxHeartbeats 4000000 in
set_option maxRecDepth 100000 in
theorem m_J0_length_8abf5 (l : Launch) (dC : Nat → ClassId) (dI : Nat → Nat → Nat) (sz : Nat)  (p9 : Nat) (y : Int32) (h : f_J0_length_8abf5 p9 = some y) : CI l yJ0_length_8abf5 cJ0_length_8abf5 1 (some .int) ({ frames := 1, cells := 0, slots := 0, locals := 20 } : Room) dC dI sz [.ref (dI 101 p9)] [] [] y [] := by
  refine CC_of (by decide) (Nat.le_of_ble_eq_true rfl) ?_
  intro p e s m below meth c A ls hx hb hml hr hlk hnm hown hts hX hK hP hD hA hl
  have hl : lv_has ls 1 [(0, .ref (dI 101 p9))] := hl
  have hown : s.vm.findClass RJ0 = some m.cls := hown
  have hw : Wd dC dI A s.heap [] s.heap [] := ⟨hP, hD, va_S.rf⟩
  generalize hQz : (MQ below (QI dC dI (fun r (_ : Unit) => r = y) (fun _ => Jn []) (fun _ => Jt []) A) ([.ref (dI 101 p9)] : List Value).toArray s 0 0 A) = Qz
  clear hP hD hnm
  unfold f_J0_length_8abf5 at h
  refine lv_aload_n hx hb dJ0_length_8abf5_0 rfl (lv_at hl 0 rfl) ?_
  obtain ⟨g1, h⟩ := z_gd h
  refine xs_val hx hb hX hw hts hown g1 kw1863 dJ0_length_8abf5_1 ?_
  obtain ⟨g2, h⟩ := z_gd h
  refine xs_len hx hb hX hw g2 dJ0_length_8abf5_4 ?_
  refine lv_aload_n hx hb dJ0_length_8abf5_5 rfl (lv_at hl 0 rfl) ?_
  obtain ⟨g4, h⟩ := z_gd h
  obtain ⟨z3, ez3, h⟩ := z_bd h
  refine xj_i (xrT (As := []) (rest := [.int (Int32.ofNat (lnS.getD p9 0))]) ⟨hx, hb, hml, hown, hts⟩ (m_J0_coder_7d493 l dC dI _  p9 z3 ez3) g4 rfl kw701 kw698 kw699 kw700 kw121 hd_J0_coder_7d493 ⟨rfl, rfl⟩ rfl rfl ⟨rfl, rfl⟩ hX hK hw hl.1 rfl rfl dJ0_length_8abf5_6) hw hA [] (by decide) rfl rfl (fun H locs hw => ?_)
  refine lv_ishr hx hb dJ0_length_8abf5_9 ?_
  have hy := Option.some.inj h
  rw [← hQz, ← hy]
  exact xr_i (v := (Int32.ofNat (lnS.getD p9 0)) >>> (z3 &&& 31)) hx hb hr rfl hlk hK hw dJ0_length_8abf5_10

def f_J0_isLatin1_aae02 (p9 : Nat) : Option (Int32) :=
  zgd (decide (p9 < 9)) <|
  some (1 : Int32)
set_option maxHeartbeats 4000000 in
set_option maxRecDepth 100000 in
theorem m_J0_isLatin1_aae02 (l : Launch) (dC : Nat → ClassId) (dI : Nat → Nat → Nat) (sz : Nat)  (p9 : Nat) (y : Int32) (h : f_J0_isLatin1_aae02 p9 = some y) : CI l yJ0_isLatin1_aae02 cJ0_isLatin1_aae02 1 (some .boolean) ({ frames := 0, cells := 0, slots := 0, locals := 0 } : Room) dC dI sz [.ref (dI 101 p9)] [] [] y [] := by
  refine CC_of (by decide) (Nat.le_of_ble_eq_true rfl) ?_
  intro p e s m below meth c A ls hx hb hml hr hlk hnm hown hts hX hK hP hD hA hl
  have hl : lv_has ls 1 [(0, .ref (dI 101 p9))] := hl
  have hown : s.vm.findClass RJ0 = some m.cls := hown
  have hw : Wd dC dI A s.heap [] s.heap [] := ⟨hP, hD, va_S.rf⟩
  generalize hQz : (MQ below (QI dC dI (fun r (_ : Unit) => r = y) (fun _ => Jn []) (fun _ => Jt []) A) ([.ref (dI 101 p9)] : List Value).toArray s 0 0 A) = Qz
  clear hP hD hnm
  unfold f_J0_isLatin1_aae02 at h
  refine xs_cs hx hb hX hw hts hown kw702 dJ0_isLatin1_aae02_0 ?_
  refine lv_if_eq (tgt := 17) hx hb dJ0_isLatin1_aae02_3 (by decide) (fun c => absurd c (by decide)) (fun _ => ?_)
  refine lv_aload_n hx hb dJ0_isLatin1_aae02_6 rfl (lv_at hl 0 rfl) ?_
  obtain ⟨g1, h⟩ := z_gd h
  refine xs_cod hx hb hX hw hts hown g1 kw1864 dJ0_isLatin1_aae02_7 ?_
  refine lv_if_ne (tgt := 17) hx hb dJ0_isLatin1_aae02_10 (by decide) (fun c => absurd c (by decide)) (fun _ => ?_)
  refine lv_iconst (v := 1) hx hb dJ0_isLatin1_aae02_13 (by decide) ?_
  refine lv_goto (tgt := 18) hx hb dJ0_isLatin1_aae02_14 (by decide) ?_
  have hy := Option.some.inj h
  rw [← hQz, ← hy]
  exact xr_i (v := (1 : Int32)) hx hb hr rfl hlk hK hw dJ0_isLatin1_aae02_18

def bk_J3_checkIndex_8e157_Q_9   (v0 : Int32) (v1 : Int32) (v2 : Option Nat) : Option (Int32) :=
  none
def f_J3_checkIndex_8e157_Q (p0 : Int32) (p1 : Int32) (p2 : Option Nat) : Option (Int32) :=
  if p0 < (0 : Int32) then
  (bk_J3_checkIndex_8e157_Q_9   p0 p1 p2)
  else
  (if p0 < p1 then
  (some p0)
  else
  (bk_J3_checkIndex_8e157_Q_9   p0 p1 p2))
set_option maxHeartbeats 4000000 in
set_option maxRecDepth 100000 in
theorem m_J3_checkIndex_8e157_Q (l : Launch) (dC : Nat → ClassId) (dI : Nat → Nat → Nat) (sz : Nat)  (p0 : Int32) (p1 : Int32) (p2 : Option Nat) (y : Int32) (h : f_J3_checkIndex_8e157_Q p0 p1 p2 = some y) : CI l yJ3_checkIndex_8e157 cJ3_checkIndex_8e157 3 (some .int) ({ frames := 0, cells := 0, slots := 0, locals := 0 } : Room) dC dI sz [.int p0, .int p1, va_rf p2] [] [] y [] := by
  refine CC_of (by decide) (by cases p2 <;> exact Nat.le_of_ble_eq_true rfl) ?_
  intro p e s m below meth c A ls hx hb hml hr hlk hnm hown hts hX hK hP hD hA hl
  have hl : lv_has ls 3 [(0, .int p0), (1, .int p1), (2, va_rf p2)] := by
    have e9 : lv_args 0 [.int p0, .int p1, va_rf p2] = [(0, .int p0), (1, .int p1), (2, va_rf p2)] := by cases p2 <;> rfl
    rw [← e9]; exact hl
  have hown : s.vm.findClass RJ3 = some m.cls := hown
  have hw : Wd dC dI A s.heap [] s.heap [] := ⟨hP, hD, va_S.rf⟩
  generalize hQz : (MQ below (QI dC dI (fun r (_ : Unit) => r = y) (fun _ => Jn []) (fun _ => Jt []) A) ([.int p0, .int p1, va_rf p2] : List Value).toArray s 0 0 A) = Qz
  clear hP hD hnm
  have bk_9_0 : ∀ (v0 : Int32) (v1 : Int32) (v2 : Option Nat) (H : Heap) (locs : List Loc) (ls : Array Slot), bk_J3_checkIndex_8e157_Q_9   v0 v1 v2 = some y → Wd dC dI A s.heap [] H locs → lv_has ls 3 [(0, .int v0), (1, .int v1), (2, va_rf v2)] → W p l e ({ frames := 0, cells := 0, slots := 0, locals := 0 } : Room) s m ([.int p0, .int p1, va_rf p2] : List Value).toArray below meth c H locs 0 0 Qz (F0 m 9 ls []) := by
    intro v0 v1 v2 H locs ls h hw hl
    unfold bk_J3_checkIndex_8e157_Q_9 at h
    refine xaload_n hx hb dJ3_checkIndex_8e157_9 rfl (lv_at hl 2 rfl) ?_
    refine lv_iload_n hx hb dJ3_checkIndex_8e157_10 rfl (lv_at hl 0 rfl) ?_
    refine lv_iload_n hx hb dJ3_checkIndex_8e157_11 rfl (lv_at hl 1 rfl) ?_
    exact absurd h (by simp)
  unfold f_J3_checkIndex_8e157_Q at h
  refine lv_iload_n hx hb dJ3_checkIndex_8e157_0 rfl (lv_at hl 0 rfl) ?_
  refine lv_if_lt (tgt := 9) hx hb dJ3_checkIndex_8e157_1 (by decide) (fun c => ?_) (fun c => ?_)
  · have h := z_t h c
    exact bk_9_0  p0 p1 p2 _ _ _ h hw (lv_sub hl [0, 1, 2] rfl)
  · have h := z_f h c
    refine lv_iload_n hx hb dJ3_checkIndex_8e157_4 rfl (lv_at hl 0 rfl) ?_
    refine lv_iload_n hx hb dJ3_checkIndex_8e157_5 rfl (lv_at hl 1 rfl) ?_
    refine lv_icmp_lt (tgt := 16) hx hb dJ3_checkIndex_8e157_6 (by decide) (fun c => ?_) (fun c => ?_)
    · have h := z_t h c
      refine lv_iload_n hx hb dJ3_checkIndex_8e157_16 rfl (lv_at hl 0 rfl) ?_
      have hy := Option.some.inj h
      rw [← hQz, ← hy]
      exact xr_i (v := p0) hx hb hr rfl hlk hK hw dJ3_checkIndex_8e157_17
    · have h := z_f h c
      exact bk_9_0  p0 p1 p2 _ _ _ h hw (lv_sub hl [0, 1, 2] rfl)

def f_J0_checkIndex_df160 (p0 : Int32) (p1 : Int32) : Option (Unit) :=
  (f_J3_checkIndex_8e157_Q p0 p1 none).bind fun z2 =>
  some ()
set_option maxHeartbeats 4000000 in
set_option maxRecDepth 100000 in
theorem m_J0_checkIndex_df160 (l : Launch) (dC : Nat → ClassId) (dI : Nat → Nat → Nat) (sz : Nat)  (p0 : Int32) (p1 : Int32) (y : Unit) (h : f_J0_checkIndex_df160 p0 p1 = some y) : CV l yJ0_checkIndex_df160 cJ0_checkIndex_df160 2 none ({ frames := 1, cells := 0, slots := 0, locals := 22 } : Room) dC dI sz [.int p0, .int p1] [] [] [] := by
  refine CC_of (by decide) (Nat.le_of_ble_eq_true rfl) ?_
  intro p e s m below meth c A ls hx hb hml hr hlk hnm hown hts hX hK hP hD hA hl
  have hl : lv_has ls 2 [(0, .int p0), (1, .int p1)] := hl
  have hown : s.vm.findClass RJ0 = some m.cls := hown
  have hw : Wd dC dI A s.heap [] s.heap [] := ⟨hP, hD, va_S.rf⟩
  generalize hQz : (MQ below (QV dC dI (fun (_ : Unit) => True) (fun _ => Jn []) (fun _ => Jt []) A) ([.int p0, .int p1] : List Value).toArray s 0 0 A) = Qz
  clear hP hD hnm
  unfold f_J0_checkIndex_df160 at h
  refine lv_iload_n hx hb dJ0_checkIndex_df160_0 rfl (lv_at hl 0 rfl) ?_
  refine lv_iload_n hx hb dJ0_checkIndex_df160_1 rfl (lv_at hl 1 rfl) ?_
  refine xs_sio hx hb hX hw hts hown kw718 dJ0_checkIndex_df160_2 (fun r1 => ?_)
  obtain ⟨z2, ez2, h⟩ := z_bd h
  refine xj_i (xrS (As := [.int p0, .int p1, va_rf r1]) (rest := []) ⟨hx, hb, hml, hown, hts⟩ (m_J3_checkIndex_8e157_Q l dC dI _  p0 p1 r1 z2 ez2) kw722 kw720 kw721 kw123 hd_J3_checkIndex_8e157 ⟨rfl, rfl⟩ rfl rfl ⟨rfl, rfl⟩ hX hK hw [] (by decide) rfl rfl hl.1 rfl rfl dJ0_checkIndex_df160_5) hw hA [] (by decide) rfl rfl (fun H locs hw => ?_)
  refine lv_pop hx hb dJ0_checkIndex_df160_8 rfl ?_
  have hy := Option.some.inj h
  rw [← hQz]
  exact xr_v hx hb hr hlk hK hw dJ0_checkIndex_df160_9

def f_J1_charAt_3b067 (p0 : Nat) (p1 : Int32) : Option (Int32) :=
  zgd (decide (p0 < 9)) <|
  (f_J0_checkIndex_df160 p1 (Int32.ofNat (lnS.getD p0 0))).bind fun z2 =>
  zgd (decide (p0 < 9)) <|
  zgd (zin p1 (lnS.getD p0 0)) <|
  zgd (zch (((((btS.getD p0 []).getD p1.toNatClampNeg 0) &&& (255 : Int32)).toUInt32 % 65536).toInt32)) <|
  some (((((btS.getD p0 []).getD p1.toNatClampNeg 0) &&& (255 : Int32)).toUInt32 % 65536).toInt32)
set_option maxHeartbeats 4000000 in
set_option maxRecDepth 100000 in
theorem m_J1_charAt_3b067 (l : Launch) (dC : Nat → ClassId) (dI : Nat → Nat → Nat) (sz : Nat)  (p0 : Nat) (p1 : Int32) (y : Int32) (h : f_J1_charAt_3b067 p0 p1 = some y) : CI l yJ1_charAt_3b067 cJ1_charAt_3b067 2 (some .char) ({ frames := 2, cells := 0, slots := 0, locals := 43 } : Room) dC dI sz [.ref (dI 102 p0), .int p1] [] [] y [] := by
  refine CC_of (by decide) (Nat.le_of_ble_eq_true rfl) ?_
  intro p e s m below meth c A ls hx hb hml hr hlk hnm hown hts hX hK hP hD hA hl
  have hl : lv_has ls 2 [(0, .ref (dI 102 p0)), (1, .int p1)] := hl
  have hown : s.vm.findClass RJ1 = some m.cls := hown
  have hw : Wd dC dI A s.heap [] s.heap [] := ⟨hP, hD, va_S.rf⟩
  generalize hQz : (MQ below (QI dC dI (fun r (_ : Unit) => r = y) (fun _ => Jn []) (fun _ => Jt []) A) ([.ref (dI 102 p0), .int p1] : List Value).toArray s 0 0 A) = Qz
  clear hP hD hnm
  unfold f_J1_charAt_3b067 at h
  refine lv_iload_n hx hb dJ1_charAt_3b067_0 rfl (lv_at hl 1 rfl) ?_
  refine lv_aload_n hx hb dJ1_charAt_3b067_1 rfl (lv_at hl 0 rfl) ?_
  obtain ⟨g1, h⟩ := z_gd h
  refine xs_len hx hb hX hw g1 dJ1_charAt_3b067_2 ?_
  obtain ⟨z2, ez2, h⟩ := z_bd h
  refine xj_v (xrS (As := [.int p1, .int (Int32.ofNat (lnS.getD p0 0))]) (rest := []) ⟨hx, hb, hml, hown, hts⟩ (m_J0_checkIndex_df160 l dC dI _  p1 (Int32.ofNat (lnS.getD p0 0)) z2 ez2) kw717 kw715 kw716 kw121 hd_J0_checkIndex_df160 ⟨rfl, rfl⟩ rfl rfl ⟨rfl, rfl⟩ hX hK hw [] (by decide) rfl rfl hl.1 rfl rfl dJ1_charAt_3b067_3) hw hA [] (by decide) rfl rfl (fun H locs hw => ?_)
  refine lv_aload_n hx hb dJ1_charAt_3b067_6 rfl (lv_at hl 0 rfl) ?_
  refine lv_iload_n hx hb dJ1_charAt_3b067_7 rfl (lv_at hl 1 rfl) ?_
  obtain ⟨g3, h⟩ := z_gd h
  obtain ⟨g4, h⟩ := z_gd h
  refine xs_ld hx hb hX hw g3 g4 dJ1_charAt_3b067_8 ?_
  refine lv_sipush (v := 255) hx hb dJ1_charAt_3b067_9 (by decide) ?_
  refine lv_iand hx hb dJ1_charAt_3b067_12 ?_
  refine lv_i2c hx hb dJ1_charAt_3b067_13 rfl ?_
  obtain ⟨g5, h⟩ := z_gd h
  have hy := Option.some.inj h
  rw [← hQz, ← hy]
  exact xr_i (v := ((((btS.getD p0 []).getD p1.toNatClampNeg 0) &&& (255 : Int32)).toUInt32 % 65536).toInt32) hx hb hr (z_ch g5) hlk hK hw dJ1_charAt_3b067_14

def f_J0_charAt_5068e (p9 : Nat) (p0 : Int32) : Option (Int32) :=
  zgd (decide (p9 < 9)) <|
  (f_J0_isLatin1_aae02 p9).bind fun z1 =>
  if z1 = (0 : Int32) then
  (none)
  else
  (zgd (decide (p9 < 9)) <|
  (f_J1_charAt_3b067 p9 p0).bind fun z4 =>
  zgd (zch z4) <|
  some z4)
set_option maxHeartbeats 4000000 in
set_option maxRecDepth 100000 in
theorem m_J0_charAt_5068e (l : Launch) (dC : Nat → ClassId) (dI : Nat → Nat → Nat) (sz : Nat)  (p9 : Nat) (p0 : Int32) (y : Int32) (h : f_J0_charAt_5068e p9 p0 = some y) : CI l yJ0_charAt_5068e cJ0_charAt_5068e 2 (some .char) ({ frames := 3, cells := 0, slots := 0, locals := 64 } : Room) dC dI sz [.ref (dI 101 p9), .int p0] [] [] y [] := by
  refine CC_of (by decide) (Nat.le_of_ble_eq_true rfl) ?_
  intro p e s m below meth c A ls hx hb hml hr hlk hnm hown hts hX hK hP hD hA hl
  have hl : lv_has ls 2 [(0, .ref (dI 101 p9)), (1, .int p0)] := hl
  have hown : s.vm.findClass RJ0 = some m.cls := hown
  have hw : Wd dC dI A s.heap [] s.heap [] := ⟨hP, hD, va_S.rf⟩
  generalize hQz : (MQ below (QI dC dI (fun r (_ : Unit) => r = y) (fun _ => Jn []) (fun _ => Jt []) A) ([.ref (dI 101 p9), .int p0] : List Value).toArray s 0 0 A) = Qz
  clear hP hD hnm
  unfold f_J0_charAt_5068e at h
  refine lv_aload_n hx hb dJ0_charAt_5068e_0 rfl (lv_at hl 0 rfl) ?_
  obtain ⟨g2, h⟩ := z_gd h
  obtain ⟨z1, ez1, h⟩ := z_bd h
  refine xj_i (xrT (As := []) (rest := []) ⟨hx, hb, hml, hown, hts⟩ (m_J0_isLatin1_aae02 l dC dI _  p9 z1 ez1) g2 rfl kw711 kw708 kw709 kw710 kw121 hd_J0_isLatin1_aae02 ⟨rfl, rfl⟩ rfl rfl ⟨rfl, rfl⟩ hX hK hw hl.1 rfl rfl dJ0_charAt_5068e_1) hw hA [] (by decide) rfl rfl (fun H locs hw => ?_)
  refine lv_if_eq (tgt := 16) hx hb dJ0_charAt_5068e_4 (by decide) (fun c => ?_) (fun c => ?_)
  · have h := z_t h c
    exact absurd h (by simp)
  · have h := z_f h c
    refine lv_aload_n hx hb dJ0_charAt_5068e_7 rfl (lv_at hl 0 rfl) ?_
    obtain ⟨g3, h⟩ := z_gd h
    refine xs_val hx hb hX hw hts hown g3 kw1863 dJ0_charAt_5068e_8 ?_
    refine lv_iload_n hx hb dJ0_charAt_5068e_11 rfl (lv_at hl 1 rfl) ?_
    obtain ⟨z4, ez4, h⟩ := z_bd h
    refine xj_i (xrS (As := [.ref (dI 102 p9), .int p0]) (rest := []) ⟨hx, hb, hml, hown, hts⟩ (m_J1_charAt_3b067 l dC dI _  p9 p0 z4 ez4) kw714 kw712 kw713 kw122 hd_J1_charAt_3b067 ⟨rfl, rfl⟩ rfl rfl ⟨rfl, rfl⟩ hX hK hw [] (by decide) rfl rfl hl.1 rfl rfl dJ0_charAt_5068e_12) hw hA [] (by decide) rfl rfl (fun H locs hw => ?_)
    obtain ⟨g5, h⟩ := z_gd h
    have hy := Option.some.inj h
    rw [← hQz, ← hy]
    exact xr_i (v := z4) hx hb hr (z_ch g5) hlk hK hw dJ0_charAt_5068e_15

def lb_X6_isSame_53 (o_me : Ob)  (rec_53_0 : Nat × Int32 × Int32 × Int32 → Option (Int32)) (v1 : Nat) (v2 : Int32) (v4 : Int32) (v5 : Int32) : Option (Int32) :=
  if v4 ≤ v5 then
  (some (1 : Int32))
  else
  (zgd (zin ((gI o_me 7) + v5) 400) <|
  zgd (decide (v1 < 9)) <|
  (f_J0_charAt_5068e v1 (v2 + v5)).bind fun z5 =>
  if (gA o_me 0 ((gI o_me 7) + v5).toNatClampNeg) = z5 then
  (zlt (v5 + (1 : Int32)) fun x7 =>
  rec_53_0 (v1, v2, v4, x7))
  else
  (some (0 : Int32)))
def lp_X6_isSame_53 (o_me : Ob)  : Nat → (Nat × Int32 × Int32 × Int32) → Option (Int32) := zit (fun rec a => lb_X6_isSame_53 o_me  rec a.1 a.2.1 a.2.2.1 a.2.2.2)
def f_X6_isSame (o_me : Ob) (p0 : Nat) (p1 : Int32) (p2 : Int32) : Option (Int32) :=
  zlt (p2 - p1) fun x1 =>
  if p1 < (0 : Int32) then
  (some (0 : Int32))
  else
  (zgd (decide (p0 < 9)) <|
  (f_J0_length_8abf5 p0).bind fun z2 =>
  if z2 < p2 then
  (some (0 : Int32))
  else
  (if x1 = ((gI o_me 8) - (gI o_me 7)) then
  (if (gI o_me 7) < (0 : Int32) then
  (some (0 : Int32))
  else
  (if (gI o_me 8) ≤ (400 : Int32) then
  (lp_X6_isSame_53 o_me  zfu (p0, p1, x1, (0 : Int32)))
  else
  (some (0 : Int32))))
  else
  (some (0 : Int32))))
set_option maxHeartbeats 4000000 in
set_option maxRecDepth 100000 in
theorem m_X6_isSame (l : Launch) (dC : Nat → ClassId) (dI : Nat → Nat → Nat) (sz : Nat) (h_me : Nat) (h_me_code : Nat) (q_me : Nat → Nat) (k_me : Nat → ClassId) (o_me : Ob) (p0 : Nat) (p1 : Int32) (p2 : Int32) (y : Int32) (h : f_X6_isSame o_me p0 p1 p2 = some y) : CI l yX6_isSame cX6_isSame 6 (some .boolean) ({ frames := 4, cells := 0, slots := 0, locals := 85 } : Room) dC dI sz [.ref h_me, .ref (dI 101 p0), .int p1, .int p2] [wX6 h_me h_me_code q_me k_me o_me] [tX6 k_me] y [wX6 h_me h_me_code q_me k_me o_me] := by
  refine CC_of (by decide) (Nat.le_of_ble_eq_true rfl) ?_
  intro p e s m below meth c A ls hx hb hml hr hlk hnm hown hts hX hK hP hD hA hl
  have hl : lv_has ls 6 [(0, .ref h_me), (1, .ref (dI 101 p0)), (2, .int p1), (3, .int p2)] := hl
  have hown : s.vm.findClass RX6 = some m.cls := hown
  have hw : Wd dC dI A s.heap [wX6 h_me h_me_code q_me k_me o_me] s.heap [] := ⟨hP, hD, va_S.rf⟩
  generalize hQz : (MQ below (QI dC dI (fun r (_ : Unit) => r = y) (fun _ => Jn [wX6 h_me h_me_code q_me k_me o_me]) (fun _ => Jt [tX6 k_me]) A) ([.ref h_me, .ref (dI 101 p0), .int p1, .int p2] : List Value).toArray s 0 0 A) = Qz
  clear hP hD hnm
  have lp_53_0 : ∀ (N : Nat), ∀ (v1 : Nat) (v2 : Int32) (v4 : Int32) (v5 : Int32) (H : Heap) (locs : List Loc) (ls : Array Slot), lp_X6_isSame_53 o_me  N (v1, v2, v4, v5) = some y → Wd dC dI A s.heap [wX6 h_me h_me_code q_me k_me o_me] H locs → lv_has ls 6 [(0, .ref h_me), (1, .ref (dI 101 v1)), (2, .int v2), (4, .int v4), (5, .int v5)] → W p l e ({ frames := 4, cells := 0, slots := 0, locals := 85 } : Room) s m ([.ref h_me, .ref (dI 101 p0), .int p1, .int p2] : List Value).toArray below meth c H locs 0 0 Qz (F0 m 53 ls []) := by
    intro N
    induction N with
    | zero =>
      intro v1 v2 v4 v5 H locs ls h hw hl
      exact absurd (show (none : Option (Int32)) = some y from h) (by simp)
    | succ N ih =>
      intro v1 v2 v4 v5 H locs ls h hw hl
      have h : lb_X6_isSame_53 o_me  (lp_X6_isSame_53 o_me  N) v1 v2 v4 v5 = some y := h
      unfold lb_X6_isSame_53 at h
      refine lv_iload hx hb dX6_isSame_53 (lv_at hl 4 rfl) ?_
      refine lv_iload hx hb dX6_isSame_55 (lv_at hl 3 rfl) ?_
      refine lv_icmp_ge (tgt := 91) hx hb dX6_isSame_57 (by decide) (fun c => ?_) (fun c => ?_)
      · have h := z_t h c
        refine lv_iconst (v := 1) hx hb dX6_isSame_91 (by decide) ?_
        have hy := Option.some.inj h
        rw [← hQz, ← hy]
        exact xr_i (v := (1 : Int32)) hx hb hr rfl hlk hK hw dX6_isSame_92
      · have h := z_f h c
        refine lv_aload_n hx hb dX6_isSame_60 rfl (lv_at hl 0 rfl) ?_
        refine fgX6_0 hx hb hts hown hK hw 0 rfl kw201 dX6_isSame_61 ?_
        refine lv_aload_n hx hb dX6_isSame_64 rfl (lv_at hl 0 rfl) ?_
        refine fgX6_7 hx hb hts hown hK hw 0 rfl kw211 dX6_isSame_65 ?_
        refine lv_iload hx hb dX6_isSame_68 (lv_at hl 4 rfl) ?_
        refine lv_iadd hx hb dX6_isSame_70 ?_
        obtain ⟨g4, h⟩ := z_gd h
        refine faX6_0 hx hb hK hw 0 rfl rfl g4 dX6_isSame_71 ?_
        refine lv_aload_n hx hb dX6_isSame_72 rfl (lv_at hl 1 rfl) ?_
        refine lv_iload_n hx hb dX6_isSame_73 rfl (lv_at hl 2 rfl) ?_
        refine lv_iload hx hb dX6_isSame_74 (lv_at hl 4 rfl) ?_
        refine lv_iadd hx hb dX6_isSame_76 ?_
        obtain ⟨g6, h⟩ := z_gd h
        obtain ⟨z5, ez5, h⟩ := z_bd h
        refine xj_i (xrT (As := [.int (v2 + v5)]) (rest := [.int (gA o_me 0 ((gI o_me 7) + v5).toNatClampNeg)]) ⟨hx, hb, hml, hown, hts⟩ (m_J0_charAt_5068e l dC dI _  v1 (v2 + v5) z5 ez5) g6 rfl kw707 kw704 kw705 kw706 kw121 hd_J0_charAt_5068e ⟨rfl, rfl⟩ rfl rfl ⟨rfl, rfl⟩ hX hK hw hl.1 rfl rfl dX6_isSame_77) hw hA [] (by decide) rfl rfl (fun H locs hw => ?_)
        refine lv_icmp_eq (tgt := 85) hx hb dX6_isSame_80 (by decide) (fun c => ?_) (fun c => ?_)
        · have h := z_t h c
          obtain ⟨x7, ex7, h⟩ := z_lt h
          refine lv_iinc (v := x7) (lv' := [(5, .int x7), (0, .ref h_me), (1, .ref (dI 101 v1)), (2, .int v2), (4, .int v4)]) hx hb dX6_isSame_85 hl (k := 4) rfl ((congrArg (v5 + ·) (show Int32.ofInt 1 = (1 : Int32) from by decide)).trans ex7.symm) (by decide) rfl (fun ls hl => ?_)
          refine lv_goto (tgt := 53) hx hb dX6_isSame_88 (by decide) ?_
          exact ih v1 v2 v4 x7 _ _ _ h hw (lv_sub hl [1, 2, 3, 4, 0] rfl)
        · have h := z_f h c
          refine lv_iconst (v := 0) hx hb dX6_isSame_83 (by decide) ?_
          have hy := Option.some.inj h
          rw [← hQz, ← hy]
          exact xr_i (v := (0 : Int32)) hx hb hr rfl hlk hK hw dX6_isSame_84
  unfold f_X6_isSame at h
  refine lv_iload_n hx hb dX6_isSame_0 rfl (lv_at hl 3 rfl) ?_
  refine lv_iload_n hx hb dX6_isSame_1 rfl (lv_at hl 2 rfl) ?_
  refine lv_isub hx hb dX6_isSame_2 ?_
  obtain ⟨x1, ex1, h⟩ := z_lt h
  refine lv_fi (v := x1) ex1.symm ?_
  refine lv_istore (lv' := [(4, .int x1), (0, .ref h_me), (1, .ref (dI 101 p0)), (2, .int p1), (3, .int p2)]) hx hb dX6_isSame_3 hl (by decide) rfl (fun ls hl => ?_)
  refine lv_iload_n hx hb dX6_isSame_5 rfl (lv_at hl 3 rfl) ?_
  refine lv_if_lt (tgt := 48) hx hb dX6_isSame_6 (by decide) (fun c => ?_) (fun c => ?_)
  · have h := z_t h c
    refine lv_iconst (v := 0) hx hb dX6_isSame_48 (by decide) ?_
    have hy := Option.some.inj h
    rw [← hQz, ← hy]
    exact xr_i (v := (0 : Int32)) hx hb hr rfl hlk hK hw dX6_isSame_49
  · have h := z_f h c
    refine lv_iload_n hx hb dX6_isSame_9 rfl (lv_at hl 4 rfl) ?_
    refine lv_aload_n hx hb dX6_isSame_10 rfl (lv_at hl 2 rfl) ?_
    obtain ⟨g3, h⟩ := z_gd h
    obtain ⟨z2, ez2, h⟩ := z_bd h
    refine xj_i (xrT (As := []) (rest := [.int p2]) ⟨hx, hb, hml, hown, hts⟩ (m_J0_length_8abf5 l dC dI _  p0 z2 ez2) g3 rfl kw697 kw694 kw695 kw696 kw121 hd_J0_length_8abf5 ⟨rfl, rfl⟩ rfl rfl ⟨rfl, rfl⟩ hX hK hw hl.1 rfl rfl dX6_isSame_11) hw hA [] (by decide) rfl rfl (fun H locs hw => ?_)
    refine lv_icmp_gt (tgt := 48) hx hb dX6_isSame_14 (by decide) (fun c => ?_) (fun c => ?_)
    · have h := z_t h c
      refine lv_iconst (v := 0) hx hb dX6_isSame_48 (by decide) ?_
      have hy := Option.some.inj h
      rw [← hQz, ← hy]
      exact xr_i (v := (0 : Int32)) hx hb hr rfl hlk hK hw dX6_isSame_49
    · have h := z_f h c
      refine lv_iload hx hb dX6_isSame_17 (lv_at hl 0 rfl) ?_
      refine lv_aload_n hx hb dX6_isSame_19 rfl (lv_at hl 1 rfl) ?_
      refine fgX6_8 hx hb hts hown hK hw 0 rfl kw212 dX6_isSame_20 ?_
      refine lv_aload_n hx hb dX6_isSame_23 rfl (lv_at hl 1 rfl) ?_
      refine fgX6_7 hx hb hts hown hK hw 0 rfl kw211 dX6_isSame_24 ?_
      refine lv_isub hx hb dX6_isSame_27 ?_
      refine lv_icmp_ne (tgt := 48) hx hb dX6_isSame_28 (by decide) (fun c => ?_) (fun c => ?_)
      · have h := z_f h c
        refine lv_iconst (v := 0) hx hb dX6_isSame_48 (by decide) ?_
        have hy := Option.some.inj h
        rw [← hQz, ← hy]
        exact xr_i (v := (0 : Int32)) hx hb hr rfl hlk hK hw dX6_isSame_49
      · have h := z_t h c
        refine lv_aload_n hx hb dX6_isSame_31 rfl (lv_at hl 1 rfl) ?_
        refine fgX6_7 hx hb hts hown hK hw 0 rfl kw211 dX6_isSame_32 ?_
        refine lv_if_lt (tgt := 48) hx hb dX6_isSame_35 (by decide) (fun c => ?_) (fun c => ?_)
        · have h := z_t h c
          refine lv_iconst (v := 0) hx hb dX6_isSame_48 (by decide) ?_
          have hy := Option.some.inj h
          rw [← hQz, ← hy]
          exact xr_i (v := (0 : Int32)) hx hb hr rfl hlk hK hw dX6_isSame_49
        · have h := z_f h c
          refine lv_aload_n hx hb dX6_isSame_38 rfl (lv_at hl 1 rfl) ?_
          refine fgX6_8 hx hb hts hown hK hw 0 rfl kw212 dX6_isSame_39 ?_
          refine lv_sipush (v := 400) hx hb dX6_isSame_42 (by decide) ?_
          refine lv_icmp_le (tgt := 50) hx hb dX6_isSame_45 (by decide) (fun c => ?_) (fun c => ?_)
          · have h := z_t h c
            refine lv_iconst (v := 0) hx hb dX6_isSame_50 (by decide) ?_
            refine lv_istore (lv' := [(5, .int (0 : Int32)), (4, .int x1), (0, .ref h_me), (1, .ref (dI 101 p0)), (2, .int p1), (3, .int p2)]) hx hb dX6_isSame_51 hl (by decide) rfl (fun ls hl => ?_)
            exact lp_53_0  zfu p0 p1 x1 (0 : Int32) _ _ _ h hw (lv_sub hl [2, 3, 4, 1, 0] rfl)
          · have h := z_f h c
            refine lv_iconst (v := 0) hx hb dX6_isSame_48 (by decide) ?_
            have hy := Option.some.inj h
            rw [← hQz, ← hy]
            exact xr_i (v := (0 : Int32)) hx hb hr rfl hlk hK hw dX6_isSame_49

def bk_X6_wordOf_67 (o_me : Ob) (rec_17_0 : Nat × Int32 × Int32 × Int32 → Option (Int32)) (v1 : Nat) (v2 : Int32) (v3 : Int32) (v4 : Int32) : Option (Int32) :=
  zlt (v4 + (1 : Int32)) fun x8 =>
  rec_17_0 (v1, v2, v3, x8)
def bk_X6_wordOf_46 (o_me : Ob) (rec_17_0 : Nat × Int32 × Int32 × Int32 → Option (Int32)) (v1 : Nat) (v2 : Int32) (v3 : Int32) (v4 : Int32) : Option (Int32) :=
  (f_X6_isSame o_me v1 v3 v4).bind fun z5 =>
  if z5 = (0 : Int32) then
  (zlt (v2 + (1 : Int32)) fun x6 =>
  zlt (v4 + (1 : Int32)) fun x7 =>
  bk_X6_wordOf_67 o_me rec_17_0 v1 x6 x7 v4)
  else
  (some v2)
def lb_X6_wordOf_17 (o_me : Ob)  (rec_17_0 : Nat × Int32 × Int32 × Int32 → Option (Int32)) (v1 : Nat) (v2 : Int32) (v3 : Int32) (v4 : Int32) : Option (Int32) :=
  zgd (decide (v1 < 9)) <|
  (f_J0_length_8abf5 v1).bind fun z1 =>
  if z1 < v4 then
  (some (-1 : Int32))
  else
  (zgd (decide (v1 < 9)) <|
  (f_J0_length_8abf5 v1).bind fun z3 =>
  if v4 = z3 then
  (bk_X6_wordOf_46 o_me rec_17_0 v1 v2 v3 v4)
  else
  (zgd (decide (v1 < 9)) <|
  (f_J0_charAt_5068e v1 v4).bind fun z9 =>
  if z9 = (32 : Int32) then
  (bk_X6_wordOf_46 o_me rec_17_0 v1 v2 v3 v4)
  else
  (bk_X6_wordOf_67 o_me rec_17_0 v1 v2 v3 v4)))
def lp_X6_wordOf_17 (o_me : Ob)  : Nat → (Nat × Int32 × Int32 × Int32) → Option (Int32) := zit (fun rec a => lb_X6_wordOf_17 o_me  rec a.1 a.2.1 a.2.2.1 a.2.2.2)
def f_X6_wordOf (o_me : Ob) (p0 : Nat) : Option (Int32) :=
  if (gI o_me 6) = (1 : Int32) then
  (lp_X6_wordOf_17 o_me  zfu (p0, (0 : Int32), (0 : Int32), (0 : Int32)))
  else
  (some (-1 : Int32))
set_option maxHeartbeats 4000000 in
set_option maxRecDepth 100000 in
theorem m_X6_wordOf (l : Launch) (dC : Nat → ClassId) (dI : Nat → Nat → Nat) (sz : Nat) (h_me : Nat) (h_me_code : Nat) (q_me : Nat → Nat) (k_me : Nat → ClassId) (o_me : Ob) (p0 : Nat) (y : Int32) (h : f_X6_wordOf o_me p0 = some y) : CI l yX6_wordOf cX6_wordOf 5 (some .int) ({ frames := 5, cells := 0, slots := 0, locals := 110 } : Room) dC dI sz [.ref h_me, .ref (dI 101 p0)] [wX6 h_me h_me_code q_me k_me o_me] [tX6 k_me] y [wX6 h_me h_me_code q_me k_me o_me] := by
  refine CC_of (by decide) (Nat.le_of_ble_eq_true rfl) ?_
  intro p e s m below meth c A ls hx hb hml hr hlk hnm hown hts hX hK hP hD hA hl
  have hl : lv_has ls 5 [(0, .ref h_me), (1, .ref (dI 101 p0))] := hl
  have hown : s.vm.findClass RX6 = some m.cls := hown
  have hw : Wd dC dI A s.heap [wX6 h_me h_me_code q_me k_me o_me] s.heap [] := ⟨hP, hD, va_S.rf⟩
  generalize hQz : (MQ below (QI dC dI (fun r (_ : Unit) => r = y) (fun _ => Jn [wX6 h_me h_me_code q_me k_me o_me]) (fun _ => Jt [tX6 k_me]) A) ([.ref h_me, .ref (dI 101 p0)] : List Value).toArray s 0 0 A) = Qz
  clear hP hD hnm
  have bk_67_2 : ∀ (rec_17_0 : Nat × Int32 × Int32 × Int32 → Option (Int32)) (hrec_17_0 : ∀ (v1 : Nat) (v2 : Int32) (v3 : Int32) (v4 : Int32) (H : Heap) (locs : List Loc) (ls : Array Slot), rec_17_0 (v1, v2, v3, v4) = some y → Wd dC dI A s.heap [wX6 h_me h_me_code q_me k_me o_me] H locs → lv_has ls 5 [(0, .ref h_me), (1, .ref (dI 101 v1)), (2, .int v2), (3, .int v3), (4, .int v4)] → W p l e ({ frames := 5, cells := 0, slots := 0, locals := 110 } : Room) s m ([.ref h_me, .ref (dI 101 p0)] : List Value).toArray below meth c H locs 0 0 Qz (F0 m 17 ls [])), ∀ (v1 : Nat) (v2 : Int32) (v3 : Int32) (v4 : Int32) (H : Heap) (locs : List Loc) (ls : Array Slot), bk_X6_wordOf_67 o_me rec_17_0 v1 v2 v3 v4 = some y → Wd dC dI A s.heap [wX6 h_me h_me_code q_me k_me o_me] H locs → lv_has ls 5 [(0, .ref h_me), (1, .ref (dI 101 v1)), (2, .int v2), (3, .int v3), (4, .int v4)] → W p l e ({ frames := 5, cells := 0, slots := 0, locals := 110 } : Room) s m ([.ref h_me, .ref (dI 101 p0)] : List Value).toArray below meth c H locs 0 0 Qz (F0 m 67 ls []) := by
    intro rec_17_0 hrec_17_0
    intro v1 v2 v3 v4 H locs ls h hw hl
    unfold bk_X6_wordOf_67 at h
    obtain ⟨x8, ex8, h⟩ := z_lt h
    refine lv_iinc (v := x8) (lv' := [(4, .int x8), (0, .ref h_me), (1, .ref (dI 101 v1)), (2, .int v2), (3, .int v3)]) hx hb dX6_wordOf_67 hl (k := 4) rfl ((congrArg (v4 + ·) (show Int32.ofInt 1 = (1 : Int32) from by decide)).trans ex8.symm) (by decide) rfl (fun ls hl => ?_)
    refine lv_goto (tgt := 17) hx hb dX6_wordOf_70 (by decide) ?_
    exact hrec_17_0 v1 v2 v3 x8 _ _ _ h hw (lv_sub hl [1, 2, 3, 4, 0] rfl)
  have bk_46_1 : ∀ (rec_17_0 : Nat × Int32 × Int32 × Int32 → Option (Int32)) (hrec_17_0 : ∀ (v1 : Nat) (v2 : Int32) (v3 : Int32) (v4 : Int32) (H : Heap) (locs : List Loc) (ls : Array Slot), rec_17_0 (v1, v2, v3, v4) = some y → Wd dC dI A s.heap [wX6 h_me h_me_code q_me k_me o_me] H locs → lv_has ls 5 [(0, .ref h_me), (1, .ref (dI 101 v1)), (2, .int v2), (3, .int v3), (4, .int v4)] → W p l e ({ frames := 5, cells := 0, slots := 0, locals := 110 } : Room) s m ([.ref h_me, .ref (dI 101 p0)] : List Value).toArray below meth c H locs 0 0 Qz (F0 m 17 ls [])), ∀ (v1 : Nat) (v2 : Int32) (v3 : Int32) (v4 : Int32) (H : Heap) (locs : List Loc) (ls : Array Slot), bk_X6_wordOf_46 o_me rec_17_0 v1 v2 v3 v4 = some y → Wd dC dI A s.heap [wX6 h_me h_me_code q_me k_me o_me] H locs → lv_has ls 5 [(0, .ref h_me), (1, .ref (dI 101 v1)), (2, .int v2), (3, .int v3), (4, .int v4)] → W p l e ({ frames := 5, cells := 0, slots := 0, locals := 110 } : Room) s m ([.ref h_me, .ref (dI 101 p0)] : List Value).toArray below meth c H locs 0 0 Qz (F0 m 46 ls []) := by
    intro rec_17_0 hrec_17_0
    intro v1 v2 v3 v4 H locs ls h hw hl
    unfold bk_X6_wordOf_46 at h
    refine lv_aload_n hx hb dX6_wordOf_46 rfl (lv_at hl 0 rfl) ?_
    refine lv_aload_n hx hb dX6_wordOf_47 rfl (lv_at hl 1 rfl) ?_
    refine lv_iload_n hx hb dX6_wordOf_48 rfl (lv_at hl 3 rfl) ?_
    refine lv_iload hx hb dX6_wordOf_49 (lv_at hl 4 rfl) ?_
    obtain ⟨z5, ez5, h⟩ := z_bd h
    refine xj_i (xrV (As := [.ref (dI 101 v1), .int v3, .int v4]) (rest := []) ⟨hx, hb, hml, hown, hts⟩ (m_X6_isSame l dC dI _ h_me h_me_code q_me k_me o_me v1 v3 v4 z5 ez5) kw745 kw742 kw744 kw8 kw111 hd_X6_isSame ⟨rfl, rfl⟩ rfl rfl ⟨rfl, rfl⟩ hX hK hw [0] (by decide) rfl rfl rfl rfl rfl hl.1 rfl rfl dX6_wordOf_51) hw hA [0] (by decide) rfl rfl (fun H locs hw => ?_)
    have hw : Wd dC dI A s.heap [wX6 h_me h_me_code q_me k_me o_me] H locs := hw
    refine lv_if_eq (tgt := 59) hx hb dX6_wordOf_54 (by decide) (fun c => ?_) (fun c => ?_)
    · have h := z_t h c
      obtain ⟨x6, ex6, h⟩ := z_lt h
      refine lv_iinc (v := x6) (lv' := [(2, .int x6), (0, .ref h_me), (1, .ref (dI 101 v1)), (3, .int v3), (4, .int v4)]) hx hb dX6_wordOf_59 hl (k := 2) rfl ((congrArg (v2 + ·) (show Int32.ofInt 1 = (1 : Int32) from by decide)).trans ex6.symm) (by decide) rfl (fun ls hl => ?_)
      refine lv_iload hx hb dX6_wordOf_62 (lv_at hl 4 rfl) ?_
      refine lv_iconst (v := 1) hx hb dX6_wordOf_64 (by decide) ?_
      refine lv_iadd hx hb dX6_wordOf_65 ?_
      obtain ⟨x7, ex7, h⟩ := z_lt h
      refine lv_fi (v := x7) ex7.symm ?_
      refine lv_istore_n (lv' := [(3, .int x7), (2, .int x6), (0, .ref h_me), (1, .ref (dI 101 v1)), (4, .int v4)]) hx hb dX6_wordOf_66 rfl hl (by decide) rfl (fun ls hl => ?_)
      exact bk_67_2 rec_17_0 hrec_17_0 v1 x6 x7 v4 _ _ _ h hw (lv_sub hl [2, 3, 1, 0, 4] rfl)
    · have h := z_f h c
      refine lv_iload_n hx hb dX6_wordOf_57 rfl (lv_at hl 2 rfl) ?_
      have hy := Option.some.inj h
      rw [← hQz, ← hy]
      exact xr_i (v := v2) hx hb hr rfl hlk hK hw dX6_wordOf_58
  have lp_17_0 : ∀ (N : Nat), ∀ (v1 : Nat) (v2 : Int32) (v3 : Int32) (v4 : Int32) (H : Heap) (locs : List Loc) (ls : Array Slot), lp_X6_wordOf_17 o_me  N (v1, v2, v3, v4) = some y → Wd dC dI A s.heap [wX6 h_me h_me_code q_me k_me o_me] H locs → lv_has ls 5 [(0, .ref h_me), (1, .ref (dI 101 v1)), (2, .int v2), (3, .int v3), (4, .int v4)] → W p l e ({ frames := 5, cells := 0, slots := 0, locals := 110 } : Room) s m ([.ref h_me, .ref (dI 101 p0)] : List Value).toArray below meth c H locs 0 0 Qz (F0 m 17 ls []) := by
    intro N
    induction N with
    | zero =>
      intro v1 v2 v3 v4 H locs ls h hw hl
      exact absurd (show (none : Option (Int32)) = some y from h) (by simp)
    | succ N ih =>
      intro v1 v2 v3 v4 H locs ls h hw hl
      have h : lb_X6_wordOf_17 o_me  (lp_X6_wordOf_17 o_me  N) v1 v2 v3 v4 = some y := h
      unfold lb_X6_wordOf_17 at h
      refine lv_iload hx hb dX6_wordOf_17 (lv_at hl 4 rfl) ?_
      refine lv_aload_n hx hb dX6_wordOf_19 rfl (lv_at hl 1 rfl) ?_
      obtain ⟨g2, h⟩ := z_gd h
      obtain ⟨z1, ez1, h⟩ := z_bd h
      refine xj_i (xrT (As := []) (rest := [.int v4]) ⟨hx, hb, hml, hown, hts⟩ (m_J0_length_8abf5 l dC dI _  v1 z1 ez1) g2 rfl kw697 kw694 kw695 kw696 kw121 hd_J0_length_8abf5 ⟨rfl, rfl⟩ rfl rfl ⟨rfl, rfl⟩ hX hK hw hl.1 rfl rfl dX6_wordOf_20) hw hA [] (by decide) rfl rfl (fun H locs hw => ?_)
      refine lv_icmp_gt (tgt := 73) hx hb dX6_wordOf_23 (by decide) (fun c => ?_) (fun c => ?_)
      · have h := z_t h c
        refine lv_iconst (v := (-1)) hx hb dX6_wordOf_73 (by decide) ?_
        have hy := Option.some.inj h
        rw [← hQz, ← hy]
        exact xr_i (v := (-1 : Int32)) hx hb hr rfl hlk hK hw dX6_wordOf_74
      · have h := z_f h c
        refine lv_iload hx hb dX6_wordOf_26 (lv_at hl 4 rfl) ?_
        refine lv_aload_n hx hb dX6_wordOf_28 rfl (lv_at hl 1 rfl) ?_
        obtain ⟨g4, h⟩ := z_gd h
        obtain ⟨z3, ez3, h⟩ := z_bd h
        refine xj_i (xrT (As := []) (rest := [.int v4]) ⟨hx, hb, hml, hown, hts⟩ (m_J0_length_8abf5 l dC dI _  v1 z3 ez3) g4 rfl kw697 kw694 kw695 kw696 kw121 hd_J0_length_8abf5 ⟨rfl, rfl⟩ rfl rfl ⟨rfl, rfl⟩ hX hK hw hl.1 rfl rfl dX6_wordOf_29) hw hA [] (by decide) rfl rfl (fun H locs hw => ?_)
        refine lv_icmp_eq (tgt := 46) hx hb dX6_wordOf_32 (by decide) (fun c => ?_) (fun c => ?_)
        · have h := z_t h c
          exact bk_46_1 (lp_X6_wordOf_17 o_me  N) ih v1 v2 v3 v4 _ _ _ h hw (lv_sub hl [0, 1, 2, 3, 4] rfl)
        · have h := z_f h c
          refine lv_aload_n hx hb dX6_wordOf_35 rfl (lv_at hl 1 rfl) ?_
          refine lv_iload hx hb dX6_wordOf_36 (lv_at hl 4 rfl) ?_
          obtain ⟨g10, h⟩ := z_gd h
          obtain ⟨z9, ez9, h⟩ := z_bd h
          refine xj_i (xrT (As := [.int v4]) (rest := []) ⟨hx, hb, hml, hown, hts⟩ (m_J0_charAt_5068e l dC dI _  v1 v4 z9 ez9) g10 rfl kw707 kw704 kw705 kw706 kw121 hd_J0_charAt_5068e ⟨rfl, rfl⟩ rfl rfl ⟨rfl, rfl⟩ hX hK hw hl.1 rfl rfl dX6_wordOf_38) hw hA [] (by decide) rfl rfl (fun H locs hw => ?_)
          refine lv_bipush (v := 32) hx hb dX6_wordOf_41 (by decide) ?_
          refine lv_icmp_ne (tgt := 67) hx hb dX6_wordOf_43 (by decide) (fun c => ?_) (fun c => ?_)
          · have h := z_f h c
            exact bk_67_2 (lp_X6_wordOf_17 o_me  N) ih v1 v2 v3 v4 _ _ _ h hw (lv_sub hl [0, 1, 2, 3, 4] rfl)
          · have h := z_t h c
            exact bk_46_1 (lp_X6_wordOf_17 o_me  N) ih v1 v2 v3 v4 _ _ _ h hw (lv_sub hl [0, 1, 2, 3, 4] rfl)
  unfold f_X6_wordOf at h
  refine lv_aload_n hx hb dX6_wordOf_0 rfl (lv_at hl 0 rfl) ?_
  refine fgX6_6 hx hb hts hown hK hw 0 rfl kw210 dX6_wordOf_1 ?_
  refine lv_iconst (v := 1) hx hb dX6_wordOf_4 (by decide) ?_
  refine lv_icmp_eq (tgt := 10) hx hb dX6_wordOf_5 (by decide) (fun c => ?_) (fun c => ?_)
  · have h := z_t h c
    refine lv_iconst (v := 0) hx hb dX6_wordOf_10 (by decide) ?_
    refine lv_istore_n (lv' := [(2, .int (0 : Int32)), (0, .ref h_me), (1, .ref (dI 101 p0))]) hx hb dX6_wordOf_11 rfl hl (by decide) rfl (fun ls hl => ?_)
    refine lv_iconst (v := 0) hx hb dX6_wordOf_12 (by decide) ?_
    refine lv_istore_n (lv' := [(3, .int (0 : Int32)), (2, .int (0 : Int32)), (0, .ref h_me), (1, .ref (dI 101 p0))]) hx hb dX6_wordOf_13 rfl hl (by decide) rfl (fun ls hl => ?_)
    refine lv_iconst (v := 0) hx hb dX6_wordOf_14 (by decide) ?_
    refine lv_istore (lv' := [(4, .int (0 : Int32)), (3, .int (0 : Int32)), (2, .int (0 : Int32)), (0, .ref h_me), (1, .ref (dI 101 p0))]) hx hb dX6_wordOf_15 hl (by decide) rfl (fun ls hl => ?_)
    exact lp_17_0  zfu p0 (0 : Int32) (0 : Int32) (0 : Int32) _ _ _ h hw (lv_sub hl [3, 4, 2, 1, 0] rfl)
  · have h := z_f h c
    refine lv_iconst (v := (-1)) hx hb dX6_wordOf_8 (by decide) ?_
    have hy := Option.some.inj h
    rw [← hQz, ← hy]
    exact xr_i (v := (-1 : Int32)) hx hb hr rfl hlk hK hw dX6_wordOf_9

def f_X6_isWord (o_me : Ob) (p0 : Nat) : Option (Int32) :=
  (f_X6_wordOf o_me p0).bind fun z1 =>
  if z1 = (0 : Int32) then
  (some (1 : Int32))
  else
  (some (0 : Int32))
set_option maxHeartbeats 4000000 in
set_option maxRecDepth 100000 in
theorem m_X6_isWord (l : Launch) (dC : Nat → ClassId) (dI : Nat → Nat → Nat) (sz : Nat) (h_me : Nat) (h_me_code : Nat) (q_me : Nat → Nat) (k_me : Nat → ClassId) (o_me : Ob) (p0 : Nat) (y : Int32) (h : f_X6_isWord o_me p0 = some y) : CI l yX6_isWord cX6_isWord 2 (some .boolean) ({ frames := 6, cells := 0, slots := 0, locals := 134 } : Room) dC dI sz [.ref h_me, .ref (dI 101 p0)] [wX6 h_me h_me_code q_me k_me o_me] [tX6 k_me] y [wX6 h_me h_me_code q_me k_me o_me] := by
  refine CC_of (by decide) (Nat.le_of_ble_eq_true rfl) ?_
  intro p e s m below meth c A ls hx hb hml hr hlk hnm hown hts hX hK hP hD hA hl
  have hl : lv_has ls 2 [(0, .ref h_me), (1, .ref (dI 101 p0))] := hl
  have hown : s.vm.findClass RX6 = some m.cls := hown
  have hw : Wd dC dI A s.heap [wX6 h_me h_me_code q_me k_me o_me] s.heap [] := ⟨hP, hD, va_S.rf⟩
  generalize hQz : (MQ below (QI dC dI (fun r (_ : Unit) => r = y) (fun _ => Jn [wX6 h_me h_me_code q_me k_me o_me]) (fun _ => Jt [tX6 k_me]) A) ([.ref h_me, .ref (dI 101 p0)] : List Value).toArray s 0 0 A) = Qz
  clear hP hD hnm
  unfold f_X6_isWord at h
  refine lv_aload_n hx hb dX6_isWord_0 rfl (lv_at hl 0 rfl) ?_
  refine lv_aload_n hx hb dX6_isWord_1 rfl (lv_at hl 1 rfl) ?_
  obtain ⟨z1, ez1, h⟩ := z_bd h
  refine xj_i (xrV (As := [.ref (dI 101 p0)]) (rest := []) ⟨hx, hb, hml, hown, hts⟩ (m_X6_wordOf l dC dI _ h_me h_me_code q_me k_me o_me p0 z1 ez1) kw693 kw690 kw692 kw7 kw111 hd_X6_wordOf ⟨rfl, rfl⟩ rfl rfl ⟨rfl, rfl⟩ hX hK hw [0] (by decide) rfl rfl rfl rfl rfl hl.1 rfl rfl dX6_isWord_2) hw hA [0] (by decide) rfl rfl (fun H locs hw => ?_)
  have hw : Wd dC dI A s.heap [wX6 h_me h_me_code q_me k_me o_me] H locs := hw
  refine lv_if_ne (tgt := 12) hx hb dX6_isWord_5 (by decide) (fun c => ?_) (fun c => ?_)
  · have h := z_f h c
    refine lv_iconst (v := 0) hx hb dX6_isWord_12 (by decide) ?_
    have hy := Option.some.inj h
    rw [← hQz, ← hy]
    exact xr_i (v := (0 : Int32)) hx hb hr rfl hlk hK hw dX6_isWord_13
  · have h := z_t h c
    refine lv_iconst (v := 1) hx hb dX6_isWord_8 (by decide) ?_
    refine lv_goto (tgt := 13) hx hb dX6_isWord_9 (by decide) ?_
    have hy := Option.some.inj h
    rw [← hQz, ← hy]
    exact xr_i (v := (1 : Int32)) hx hb hr rfl hlk hK hw dX6_isWord_13

def f_X6_isSign (o_me : Ob) (p0 : Int32) : Option (Int32) :=
  if (gI o_me 6) = (3 : Int32) then
  ((f_X6_byteAt o_me (gI o_me 7)).bind fun z1 =>
  if z1 = p0 then
  (some (1 : Int32))
  else
  (some (0 : Int32)))
  else
  (some (0 : Int32))
set_option maxHeartbeats 4000000 in
set_option maxRecDepth 100000 in
theorem m_X6_isSign (l : Launch) (dC : Nat → ClassId) (dI : Nat → Nat → Nat) (sz : Nat) (h_me : Nat) (h_me_code : Nat) (q_me : Nat → Nat) (k_me : Nat → ClassId) (o_me : Ob) (p0 : Int32) (y : Int32) (h : f_X6_isSign o_me p0 = some y) : CI l yX6_isSign cX6_isSign 2 (some .boolean) ({ frames := 1, cells := 0, slots := 0, locals := 21 } : Room) dC dI sz [.ref h_me, .int p0] [wX6 h_me h_me_code q_me k_me o_me] [tX6 k_me] y [wX6 h_me h_me_code q_me k_me o_me] := by
  refine CC_of (by decide) (Nat.le_of_ble_eq_true rfl) ?_
  intro p e s m below meth c A ls hx hb hml hr hlk hnm hown hts hX hK hP hD hA hl
  have hl : lv_has ls 2 [(0, .ref h_me), (1, .int p0)] := hl
  have hown : s.vm.findClass RX6 = some m.cls := hown
  have hw : Wd dC dI A s.heap [wX6 h_me h_me_code q_me k_me o_me] s.heap [] := ⟨hP, hD, va_S.rf⟩
  generalize hQz : (MQ below (QI dC dI (fun r (_ : Unit) => r = y) (fun _ => Jn [wX6 h_me h_me_code q_me k_me o_me]) (fun _ => Jt [tX6 k_me]) A) ([.ref h_me, .int p0] : List Value).toArray s 0 0 A) = Qz
  clear hP hD hnm
  unfold f_X6_isSign at h
  refine lv_aload_n hx hb dX6_isSign_0 rfl (lv_at hl 0 rfl) ?_
  refine fgX6_6 hx hb hts hown hK hw 0 rfl kw210 dX6_isSign_1 ?_
  refine lv_iconst (v := 3) hx hb dX6_isSign_4 (by decide) ?_
  refine lv_icmp_ne (tgt := 24) hx hb dX6_isSign_5 (by decide) (fun c => ?_) (fun c => ?_)
  · have h := z_f h c
    refine lv_iconst (v := 0) hx hb dX6_isSign_24 (by decide) ?_
    have hy := Option.some.inj h
    rw [← hQz, ← hy]
    exact xr_i (v := (0 : Int32)) hx hb hr rfl hlk hK hw dX6_isSign_25
  · have h := z_t h c
    refine lv_aload_n hx hb dX6_isSign_8 rfl (lv_at hl 0 rfl) ?_
    refine lv_aload_n hx hb dX6_isSign_9 rfl (lv_at hl 0 rfl) ?_
    refine fgX6_7 hx hb hts hown hK hw 0 rfl kw211 dX6_isSign_10 ?_
    obtain ⟨z1, ez1, h⟩ := z_bd h
    refine xj_i (xrV (As := [.int (gI o_me 7)]) (rest := []) ⟨hx, hb, hml, hown, hts⟩ (m_X6_byteAt l dC dI _ h_me h_me_code q_me k_me o_me (gI o_me 7) z1 ez1) kw655 kw676 kw653 kw654 kw111 hd_X6_byteAt ⟨rfl, rfl⟩ rfl rfl ⟨rfl, rfl⟩ hX hK hw [0] (by decide) rfl rfl rfl rfl rfl hl.1 rfl rfl dX6_isSign_13) hw hA [0] (by decide) rfl rfl (fun H locs hw => ?_)
    have hw : Wd dC dI A s.heap [wX6 h_me h_me_code q_me k_me o_me] H locs := hw
    refine lv_iload_n hx hb dX6_isSign_16 rfl (lv_at hl 1 rfl) ?_
    refine lv_icmp_ne (tgt := 24) hx hb dX6_isSign_17 (by decide) (fun c => ?_) (fun c => ?_)
    · have h := z_f h c
      refine lv_iconst (v := 0) hx hb dX6_isSign_24 (by decide) ?_
      have hy := Option.some.inj h
      rw [← hQz, ← hy]
      exact xr_i (v := (0 : Int32)) hx hb hr rfl hlk hK hw dX6_isSign_25
    · have h := z_t h c
      refine lv_iconst (v := 1) hx hb dX6_isSign_20 (by decide) ?_
      refine lv_goto (tgt := 25) hx hb dX6_isSign_21 (by decide) ?_
      have hy := Option.some.inj h
      rw [← hQz, ← hy]
      exact xr_i (v := (1 : Int32)) hx hb hr rfl hlk hK hw dX6_isSign_25

def f_X0_add (nc_me : Nat) (ns_me : Nat) (o_me : Ob) (p0 : Int32) (p1 : Int32) : Option (Int32 × Ob) :=
  if (gI o_me 8) < (Int32.ofNat ns_me) then
  (zgd (zin (gI o_me 8) ns_me) <|
  zlt (tA o_me 5 (gI o_me 8).toNatClampNeg p0) fun o2 =>
  zgd (zin (gI o2 8) ns_me) <|
  zlt (tA o2 6 (gI o2 8).toNatClampNeg p1) fun o4 =>
  zlt (sI o4 8 ((gI o4 8) + (1 : Int32))) fun o5 =>
  some ((gI o5 8) - (1 : Int32), o5))
  else
  (some ((-1 : Int32), o_me))
set_option maxHeartbeats 4000000 in
set_option maxRecDepth 100000 in
theorem m_X0_add (l : Launch) (dC : Nat → ClassId) (dI : Nat → Nat → Nat) (sz : Nat) (h_me : Nat) (q_me : Nat → Nat) (k_me : Nat → ClassId) (nc_me : Nat) (ns_me : Nat) (o_me : Ob) (p0 : Int32) (p1 : Int32) (y : Int32 × Ob) (h : f_X0_add nc_me ns_me o_me p0 p1 = some y) : CI l yX0_add cX0_add 3 (some .int) ({ frames := 0, cells := 0, slots := 0, locals := 0 } : Room) dC dI sz [.ref h_me, .int p0, .int p1] [wX0 h_me nc_me ns_me q_me k_me o_me] [tX0 k_me] y.1 [wX0 h_me nc_me ns_me q_me k_me y.2] := by
  refine CC_of (by decide) (Nat.le_of_ble_eq_true rfl) ?_
  intro p e s m below meth c A ls hx hb hml hr hlk hnm hown hts hX hK hP hD hA hl
  have hl : lv_has ls 3 [(0, .ref h_me), (1, .int p0), (2, .int p1)] := hl
  have hown : s.vm.findClass RX0 = some m.cls := hown
  have hw : Wd dC dI A s.heap [wX0 h_me nc_me ns_me q_me k_me o_me] s.heap [] := ⟨hP, hD, va_S.rf⟩
  generalize hQz : (MQ below (QI dC dI (fun r (_ : Unit) => r = y.1) (fun _ => Jn [wX0 h_me nc_me ns_me q_me k_me y.2]) (fun _ => Jt [tX0 k_me]) A) ([.ref h_me, .int p0, .int p1] : List Value).toArray s 0 0 A) = Qz
  clear hP hD hnm
  unfold f_X0_add at h
  refine lv_aload_n hx hb dX0_add_0 rfl (lv_at hl 0 rfl) ?_
  refine fgX0_8 hx hb hts hown hK hw 0 rfl kw178 dX0_add_1 ?_
  refine lv_aload_n hx hb dX0_add_4 rfl (lv_at hl 0 rfl) ?_
  refine fgX0_5 hx hb hts hown hK hw 0 rfl kw170 dX0_add_5 ?_
  refine fnX0_5 hx hb hK hw 0 rfl rfl dX0_add_8 ?_
  refine lv_icmp_lt (tgt := 14) hx hb dX0_add_9 (by decide) (fun c => ?_) (fun c => ?_)
  · have h := z_t h c
    refine lv_aload_n hx hb dX0_add_14 rfl (lv_at hl 0 rfl) ?_
    refine fgX0_5 hx hb hts hown hK hw 0 rfl kw170 dX0_add_15 ?_
    refine lv_aload_n hx hb dX0_add_18 rfl (lv_at hl 0 rfl) ?_
    refine fgX0_8 hx hb hts hown hK hw 0 rfl kw178 dX0_add_19 ?_
    refine lv_iload_n hx hb dX0_add_22 rfl (lv_at hl 1 rfl) ?_
    obtain ⟨g1, h⟩ := z_gd h
    refine fbX0_5 hx hb hK hw 0 rfl rfl g1 dX0_add_23 (fun H locs hw => ?_)
    obtain ⟨o2, eo2, h⟩ := z_lt h
    have hw : Wd dC dI A s.heap [wX0 h_me nc_me ns_me q_me k_me o2] H locs := by rw [eo2]; exact hw
    refine lv_aload_n hx hb dX0_add_24 rfl (lv_at hl 0 rfl) ?_
    refine fgX0_6 hx hb hts hown hK hw 0 rfl kw172 dX0_add_25 ?_
    refine lv_aload_n hx hb dX0_add_28 rfl (lv_at hl 0 rfl) ?_
    refine fgX0_8 hx hb hts hown hK hw 0 rfl kw178 dX0_add_29 ?_
    refine lv_iload_n hx hb dX0_add_32 rfl (lv_at hl 2 rfl) ?_
    obtain ⟨g3, h⟩ := z_gd h
    refine fbX0_6 hx hb hK hw 0 rfl rfl g3 dX0_add_33 (fun H locs hw => ?_)
    obtain ⟨o4, eo4, h⟩ := z_lt h
    have hw : Wd dC dI A s.heap [wX0 h_me nc_me ns_me q_me k_me o4] H locs := by rw [eo4]; exact hw
    refine lv_aload_n hx hb dX0_add_34 rfl (lv_at hl 0 rfl) ?_
    refine lv_dup hx hb dX0_add_35 rfl ?_
    refine fgX0_8 hx hb hts hown hK hw 0 rfl kw178 dX0_add_36 ?_
    refine lv_iconst (v := 1) hx hb dX0_add_39 (by decide) ?_
    refine lv_iadd hx hb dX0_add_40 ?_
    refine fpX0_8 hx hb hts hown hK hw 0 rfl kw178 dX0_add_41 (fun H locs hw => ?_)
    obtain ⟨o5, eo5, h⟩ := z_lt h
    have hw : Wd dC dI A s.heap [wX0 h_me nc_me ns_me q_me k_me o5] H locs := by rw [eo5]; exact hw
    refine lv_aload_n hx hb dX0_add_44 rfl (lv_at hl 0 rfl) ?_
    refine fgX0_8 hx hb hts hown hK hw 0 rfl kw178 dX0_add_45 ?_
    refine lv_iconst (v := 1) hx hb dX0_add_48 (by decide) ?_
    refine lv_isub hx hb dX0_add_49 ?_
    have hy := Option.some.inj h
    rw [← hQz, ← hy]
    exact xr_i (v := (gI o5 8) - (1 : Int32)) hx hb hr rfl hlk hK hw dX0_add_50
  · have h := z_f h c
    refine lv_iconst (v := (-1)) hx hb dX0_add_12 (by decide) ?_
    have hy := Option.some.inj h
    rw [← hQz, ← hy]
    exact xr_i (v := (-1 : Int32)) hx hb hr rfl hlk hK hw dX0_add_13

def bk_X3_wordOfPerson_11   (v1 : Int32) (s0 : Int32) : Option (Int32) :=
  some (s0 + v1)
def f_X3_wordOfPerson (p0 : Int32) (p1 : Int32) : Option (Int32) :=
  if p0 = (5 : Int32) then
  (bk_X3_wordOfPerson_11   p1 (5 : Int32))
  else
  (bk_X3_wordOfPerson_11   p1 (12 : Int32))
set_option maxHeartbeats 4000000 in
set_option maxRecDepth 100000 in
theorem m_X3_wordOfPerson (l : Launch) (dC : Nat → ClassId) (dI : Nat → Nat → Nat) (sz : Nat)  (p0 : Int32) (p1 : Int32) (y : Int32) (h : f_X3_wordOfPerson p0 p1 = some y) : CI l yX3_wordOfPerson cX3_wordOfPerson 2 (some .int) ({ frames := 0, cells := 0, slots := 0, locals := 0 } : Room) dC dI sz [.int p0, .int p1] [] [] y [] := by
  refine CC_of (by decide) (Nat.le_of_ble_eq_true rfl) ?_
  intro p e s m below meth c A ls hx hb hml hr hlk hnm hown hts hX hK hP hD hA hl
  have hl : lv_has ls 2 [(0, .int p0), (1, .int p1)] := hl
  have hown : s.vm.findClass RX3 = some m.cls := hown
  have hw : Wd dC dI A s.heap [] s.heap [] := ⟨hP, hD, va_S.rf⟩
  generalize hQz : (MQ below (QI dC dI (fun r (_ : Unit) => r = y) (fun _ => Jn []) (fun _ => Jt []) A) ([.int p0, .int p1] : List Value).toArray s 0 0 A) = Qz
  clear hP hD hnm
  have bk_11_0 : ∀ (v1 : Int32) (s0 : Int32) (H : Heap) (locs : List Loc) (ls : Array Slot), bk_X3_wordOfPerson_11   v1 s0 = some y → Wd dC dI A s.heap [] H locs → lv_has ls 2 [(1, .int v1)] → W p l e ({ frames := 0, cells := 0, slots := 0, locals := 0 } : Room) s m ([.int p0, .int p1] : List Value).toArray below meth c H locs 0 0 Qz (F0 m 11 ls [.int s0]) := by
    intro v1 s0 H locs ls h hw hl
    unfold bk_X3_wordOfPerson_11 at h
    refine lv_iload_n hx hb dX3_wordOfPerson_11 rfl (lv_at hl 0 rfl) ?_
    refine lv_iadd hx hb dX3_wordOfPerson_12 ?_
    have hy := Option.some.inj h
    rw [← hQz, ← hy]
    exact xr_i (v := s0 + v1) hx hb hr rfl hlk hK hw dX3_wordOfPerson_13
  unfold f_X3_wordOfPerson at h
  refine lv_iload_n hx hb dX3_wordOfPerson_0 rfl (lv_at hl 0 rfl) ?_
  refine lv_iconst (v := 5) hx hb dX3_wordOfPerson_1 (by decide) ?_
  refine lv_icmp_ne (tgt := 9) hx hb dX3_wordOfPerson_2 (by decide) (fun c => ?_) (fun c => ?_)
  · have h := z_f h c
    refine lv_bipush (v := 12) hx hb dX3_wordOfPerson_9 (by decide) ?_
    exact bk_11_0  p1 (12 : Int32) _ _ _ h hw (lv_sub hl [1] rfl)
  · have h := z_t h c
    refine lv_iconst (v := 5) hx hb dX3_wordOfPerson_5 (by decide) ?_
    refine lv_goto (tgt := 11) hx hb dX3_wordOfPerson_6 (by decide) ?_
    exact bk_11_0  p1 (5 : Int32) _ _ _ h hw (lv_sub hl [1] rfl)

def bk_X6_readSinglePart_115 (nc_me_code : Nat) (ns_me_code : Nat)  (v2 : Int32) (o_me : Ob) (o_me_code : Ob) : Option (Int32 × Ob × Ob) :=
  (f_X0_add nc_me_code ns_me_code o_me_code (1 : Int32) v2).bind fun z4 =>
  some ((1 : Int32), o_me, z4.2)
def bk_X6_readSinglePart_144 (nc_me_code : Nat) (ns_me_code : Nat)  (o_me : Ob) (o_me_code : Ob) : Option (Int32 × Ob × Ob) :=
  (f_X6_stop o_me).bind fun z5 =>
  zgd (zbo z5.1) <|
  some (z5.1, z5.2, o_me_code)
def bk_X6_readSinglePart_61 (nc_me_code : Nat) (ns_me_code : Nat)  (o_me : Ob) (o_me_code : Ob) : Option (Int32 × Ob × Ob) :=
  (f_X6_stop o_me).bind fun z12 =>
  zgd (zbo z12.1) <|
  some (z12.1, z12.2, o_me_code)
def bk_X6_readSinglePart_52 (nc_me_code : Nat) (ns_me_code : Nat)  (v1 : Int32) (v2 : Int32) (o_me : Ob) (o_me_code : Ob) : Option (Int32 × Ob × Ob) :=
  if (gI o_me 5) < (50 : Int32) then
  (zlt (sI o_me 5 ((gI o_me 5) + (1 : Int32))) fun o2 =>
  if v1 = (0 : Int32) then
  ((f_X6_step o2).bind fun z3 =>
  if (gI z3 4) = (0 : Int32) then
  (if (5 : Int32) ≤ v2 then
  (if (gI z3 6) = (2 : Int32) then
  (if (gI z3 9) < (7 : Int32) then
  ((f_X3_wordOfPerson v2 (gI z3 9)).bind fun z7 =>
  (f_X0_add nc_me_code ns_me_code o_me_code (1 : Int32) z7).bind fun z8 =>
  (f_X6_step z3).bind fun z9 =>
  some ((1 : Int32), z9, z8.2))
  else
  (bk_X6_readSinglePart_144 nc_me_code ns_me_code  z3 o_me_code))
  else
  (bk_X6_readSinglePart_144 nc_me_code ns_me_code  z3 o_me_code))
  else
  (bk_X6_readSinglePart_115 nc_me_code ns_me_code  v2 z3 o_me_code))
  else
  (bk_X6_readSinglePart_115 nc_me_code ns_me_code  v2 z3 o_me_code))
  else
  ((f_X0_add nc_me_code ns_me_code o_me_code (0 : Int32) (gI o2 9)).bind fun z10 =>
  (f_X6_step o2).bind fun z11 =>
  some ((1 : Int32), z11, z10.2)))
  else
  (bk_X6_readSinglePart_61 nc_me_code ns_me_code  o_me o_me_code)
def bk_X6_readSinglePart_39 (nc_me_code : Nat) (ns_me_code : Nat)  (v1 : Int32) (s0 : Nat) (o_me : Ob) (o_me_code : Ob) : Option (Int32 × Ob × Ob) :=
  (f_X6_wordOf o_me s0).bind fun z1 =>
  if v1 = (0 : Int32) then
  (if z1 = (-1 : Int32) then
  (bk_X6_readSinglePart_61 nc_me_code ns_me_code  o_me o_me_code)
  else
  (bk_X6_readSinglePart_52 nc_me_code ns_me_code  v1 z1 o_me o_me_code))
  else
  (bk_X6_readSinglePart_52 nc_me_code ns_me_code  v1 z1 o_me o_me_code)
def bk_X6_readSinglePart_23 (nc_me_code : Nat) (ns_me_code : Nat)  (s0 : Int32) (o_me : Ob) (o_me_code : Ob) : Option (Int32 × Ob × Ob) :=
  if (gI o_me 4) = (0 : Int32) then
  (bk_X6_readSinglePart_39 nc_me_code ns_me_code  s0 8 o_me o_me_code)
  else
  (bk_X6_readSinglePart_39 nc_me_code ns_me_code  s0 7 o_me o_me_code)
def bk_X6_readSinglePart_22 (nc_me_code : Nat) (ns_me_code : Nat)  (o_me : Ob) (o_me_code : Ob) : Option (Int32 × Ob × Ob) :=
  bk_X6_readSinglePart_23 nc_me_code ns_me_code  (0 : Int32) o_me o_me_code
def f_X6_readSinglePart (nc_me_code : Nat) (ns_me_code : Nat) (o_me : Ob) (o_me_code : Ob) : Option (Int32 × Ob × Ob) :=
  if (gI o_me 6) = (2 : Int32) then
  (if (1000 : Int32) < (gI o_me 9) then
  (bk_X6_readSinglePart_22 nc_me_code ns_me_code  o_me o_me_code)
  else
  (bk_X6_readSinglePart_23 nc_me_code ns_me_code  (1 : Int32) o_me o_me_code))
  else
  (bk_X6_readSinglePart_22 nc_me_code ns_me_code  o_me o_me_code)
set_option maxHeartbeats 4000000 in
set_option maxRecDepth 100000 in
theorem m_X6_readSinglePart (l : Launch) (dC : Nat → ClassId) (dI : Nat → Nat → Nat) (sz : Nat) (h_me : Nat) (h_me_code : Nat) (q_me : Nat → Nat) (k_me : Nat → ClassId) (q_me_code : Nat → Nat) (k_me_code : Nat → ClassId) (nc_me_code : Nat) (ns_me_code : Nat) (o_me : Ob) (o_me_code : Ob) (y : Int32 × Ob × Ob) (h : f_X6_readSinglePart nc_me_code ns_me_code o_me o_me_code = some y) : CI l yX6_readSinglePart cX6_readSinglePart 3 (some .boolean) ({ frames := 6, cells := 0, slots := 0, locals := 134 } : Room) dC dI sz [.ref h_me] [wX6 h_me h_me_code q_me k_me o_me, wX0 h_me_code nc_me_code ns_me_code q_me_code k_me_code o_me_code] [tX6 k_me, tX0 k_me_code] y.1 [wX6 h_me h_me_code q_me k_me y.2.1, wX0 h_me_code nc_me_code ns_me_code q_me_code k_me_code y.2.2] := by
  refine CC_of (by decide) (Nat.le_of_ble_eq_true rfl) ?_
  intro p e s m below meth c A ls hx hb hml hr hlk hnm hown hts hX hK hP hD hA hl
  have hl : lv_has ls 3 [(0, .ref h_me)] := hl
  have hown : s.vm.findClass RX6 = some m.cls := hown
  have hw : Wd dC dI A s.heap [wX6 h_me h_me_code q_me k_me o_me, wX0 h_me_code nc_me_code ns_me_code q_me_code k_me_code o_me_code] s.heap [] := ⟨hP, hD, va_S.rf⟩
  generalize hQz : (MQ below (QI dC dI (fun r (_ : Unit) => r = y.1) (fun _ => Jn [wX6 h_me h_me_code q_me k_me y.2.1, wX0 h_me_code nc_me_code ns_me_code q_me_code k_me_code y.2.2]) (fun _ => Jt [tX6 k_me, tX0 k_me_code]) A) ([.ref h_me] : List Value).toArray s 0 0 A) = Qz
  clear hP hD hnm
  have bk_115_4 : ∀ (v2 : Int32) (o_me : Ob) (o_me_code : Ob) (H : Heap) (locs : List Loc) (ls : Array Slot), bk_X6_readSinglePart_115 nc_me_code ns_me_code  v2 o_me o_me_code = some y → Wd dC dI A s.heap [wX6 h_me h_me_code q_me k_me o_me, wX0 h_me_code nc_me_code ns_me_code q_me_code k_me_code o_me_code] H locs → lv_has ls 3 [(0, .ref h_me), (2, .int v2)] → W p l e ({ frames := 6, cells := 0, slots := 0, locals := 134 } : Room) s m ([.ref h_me] : List Value).toArray below meth c H locs 0 0 Qz (F0 m 115 ls []) := by
    intro v2 o_me o_me_code H locs ls h hw hl
    unfold bk_X6_readSinglePart_115 at h
    refine lv_aload_n hx hb dX6_readSinglePart_115 rfl (lv_at hl 0 rfl) ?_
    refine fgX6_1 hx hb hts hown hK hw 0 rfl kw202 dX6_readSinglePart_116 ?_
    refine lv_iconst (v := 1) hx hb dX6_readSinglePart_119 (by decide) ?_
    refine lv_iload_n hx hb dX6_readSinglePart_120 rfl (lv_at hl 1 rfl) ?_
    obtain ⟨z4, ez4, h⟩ := z_bd h
    refine xj_i (xrV (As := [.int (1 : Int32), .int v2]) (rest := []) ⟨hx, hb, hml, hown, hts⟩ (m_X0_add l dC dI _ h_me_code q_me_code k_me_code nc_me_code ns_me_code o_me_code (1 : Int32) v2 z4 ez4) kw775 kw772 kw773 kw774 kw112 hd_X0_add ⟨rfl, rfl⟩ rfl rfl ⟨rfl, rfl⟩ hX hK hw [1] (by decide) rfl rfl rfl rfl rfl hl.1 rfl rfl dX6_readSinglePart_121) hw hA [1] (by decide) rfl rfl (fun H locs hw => ?_)
    have hw : Wd dC dI A s.heap [wX6 h_me h_me_code q_me k_me o_me, wX0 h_me_code nc_me_code ns_me_code q_me_code k_me_code z4.2] H locs := hw
    refine lv_pop hx hb dX6_readSinglePart_124 rfl ?_
    refine lv_iconst (v := 1) hx hb dX6_readSinglePart_125 (by decide) ?_
    have hy := Option.some.inj h
    rw [← hQz, ← hy]
    exact xr_i (v := (1 : Int32)) hx hb hr rfl hlk hK hw dX6_readSinglePart_126
  have bk_144_5 : ∀ (o_me : Ob) (o_me_code : Ob) (H : Heap) (locs : List Loc) (ls : Array Slot), bk_X6_readSinglePart_144 nc_me_code ns_me_code  o_me o_me_code = some y → Wd dC dI A s.heap [wX6 h_me h_me_code q_me k_me o_me, wX0 h_me_code nc_me_code ns_me_code q_me_code k_me_code o_me_code] H locs → lv_has ls 3 [(0, .ref h_me)] → W p l e ({ frames := 6, cells := 0, slots := 0, locals := 134 } : Room) s m ([.ref h_me] : List Value).toArray below meth c H locs 0 0 Qz (F0 m 144 ls []) := by
    intro o_me o_me_code H locs ls h hw hl
    unfold bk_X6_readSinglePart_144 at h
    refine lv_aload_n hx hb dX6_readSinglePart_144 rfl (lv_at hl 0 rfl) ?_
    obtain ⟨z5, ez5, h⟩ := z_bd h
    refine xj_i (xrV (As := []) (rest := []) ⟨hx, hb, hml, hown, hts⟩ (m_X6_stop l dC dI _ h_me h_me_code q_me k_me o_me z5 ez5) kw749 kw746 kw748 kw9 kw111 hd_X6_stop ⟨rfl, rfl⟩ rfl rfl ⟨rfl, rfl⟩ hX hK hw [0] (by decide) rfl rfl rfl rfl rfl hl.1 rfl rfl dX6_readSinglePart_145) hw hA [0] (by decide) rfl rfl (fun H locs hw => ?_)
    have hw : Wd dC dI A s.heap [wX6 h_me h_me_code q_me k_me z5.2, wX0 h_me_code nc_me_code ns_me_code q_me_code k_me_code o_me_code] H locs := hw
    obtain ⟨g6, h⟩ := z_gd h
    have hy := Option.some.inj h
    rw [← hQz, ← hy]
    exact xr_i (v := z5.1) hx hb hr (z_nar g6) hlk hK hw dX6_readSinglePart_148
  have bk_61_6 : ∀ (o_me : Ob) (o_me_code : Ob) (H : Heap) (locs : List Loc) (ls : Array Slot), bk_X6_readSinglePart_61 nc_me_code ns_me_code  o_me o_me_code = some y → Wd dC dI A s.heap [wX6 h_me h_me_code q_me k_me o_me, wX0 h_me_code nc_me_code ns_me_code q_me_code k_me_code o_me_code] H locs → lv_has ls 3 [(0, .ref h_me)] → W p l e ({ frames := 6, cells := 0, slots := 0, locals := 134 } : Room) s m ([.ref h_me] : List Value).toArray below meth c H locs 0 0 Qz (F0 m 61 ls []) := by
    intro o_me o_me_code H locs ls h hw hl
    unfold bk_X6_readSinglePart_61 at h
    refine lv_aload_n hx hb dX6_readSinglePart_61 rfl (lv_at hl 0 rfl) ?_
    obtain ⟨z12, ez12, h⟩ := z_bd h
    refine xj_i (xrV (As := []) (rest := []) ⟨hx, hb, hml, hown, hts⟩ (m_X6_stop l dC dI _ h_me h_me_code q_me k_me o_me z12 ez12) kw749 kw746 kw748 kw9 kw111 hd_X6_stop ⟨rfl, rfl⟩ rfl rfl ⟨rfl, rfl⟩ hX hK hw [0] (by decide) rfl rfl rfl rfl rfl hl.1 rfl rfl dX6_readSinglePart_62) hw hA [0] (by decide) rfl rfl (fun H locs hw => ?_)
    have hw : Wd dC dI A s.heap [wX6 h_me h_me_code q_me k_me z12.2, wX0 h_me_code nc_me_code ns_me_code q_me_code k_me_code o_me_code] H locs := hw
    obtain ⟨g13, h⟩ := z_gd h
    have hy := Option.some.inj h
    rw [← hQz, ← hy]
    exact xr_i (v := z12.1) hx hb hr (z_nar g13) hlk hK hw dX6_readSinglePart_65
  have bk_52_3 : ∀ (v1 : Int32) (v2 : Int32) (o_me : Ob) (o_me_code : Ob) (H : Heap) (locs : List Loc) (ls : Array Slot), bk_X6_readSinglePart_52 nc_me_code ns_me_code  v1 v2 o_me o_me_code = some y → Wd dC dI A s.heap [wX6 h_me h_me_code q_me k_me o_me, wX0 h_me_code nc_me_code ns_me_code q_me_code k_me_code o_me_code] H locs → lv_has ls 3 [(0, .ref h_me), (1, .int v1), (2, .int v2)] → W p l e ({ frames := 6, cells := 0, slots := 0, locals := 134 } : Room) s m ([.ref h_me] : List Value).toArray below meth c H locs 0 0 Qz (F0 m 52 ls []) := by
    intro v1 v2 o_me o_me_code H locs ls h hw hl
    unfold bk_X6_readSinglePart_52 at h
    refine lv_aload_n hx hb dX6_readSinglePart_52 rfl (lv_at hl 0 rfl) ?_
    refine fgX6_5 hx hb hts hown hK hw 0 rfl kw209 dX6_readSinglePart_53 ?_
    refine lv_bipush (v := 50) hx hb dX6_readSinglePart_56 (by decide) ?_
    refine lv_icmp_lt (tgt := 66) hx hb dX6_readSinglePart_58 (by decide) (fun c => ?_) (fun c => ?_)
    · have h := z_t h c
      refine lv_aload_n hx hb dX6_readSinglePart_66 rfl (lv_at hl 0 rfl) ?_
      refine lv_dup hx hb dX6_readSinglePart_67 rfl ?_
      refine fgX6_5 hx hb hts hown hK hw 0 rfl kw209 dX6_readSinglePart_68 ?_
      refine lv_iconst (v := 1) hx hb dX6_readSinglePart_71 (by decide) ?_
      refine lv_iadd hx hb dX6_readSinglePart_72 ?_
      refine fpX6_5 hx hb hts hown hK hw 0 rfl kw209 dX6_readSinglePart_73 (fun H locs hw => ?_)
      obtain ⟨o2, eo2, h⟩ := z_lt h
      have hw : Wd dC dI A s.heap [wX6 h_me h_me_code q_me k_me o2, wX0 h_me_code nc_me_code ns_me_code q_me_code k_me_code o_me_code] H locs := by rw [eo2]; exact hw
      refine lv_iload_n hx hb dX6_readSinglePart_76 rfl (lv_at hl 1 rfl) ?_
      refine lv_if_eq (tgt := 99) hx hb dX6_readSinglePart_77 (by decide) (fun c => ?_) (fun c => ?_)
      · have h := z_t h c
        refine lv_aload_n hx hb dX6_readSinglePart_99 rfl (lv_at hl 0 rfl) ?_
        obtain ⟨z3, ez3, h⟩ := z_bd h
        refine xj_v (xrV (As := []) (rest := []) ⟨hx, hb, hml, hown, hts⟩ (m_X6_step l dC dI _ h_me h_me_code q_me k_me o2 z3 ez3) kw675 kw672 kw674 kw5 kw111 hd_X6_step ⟨rfl, rfl⟩ rfl rfl ⟨rfl, rfl⟩ hX hK hw [0] (by decide) rfl rfl rfl rfl rfl hl.1 rfl rfl dX6_readSinglePart_100) hw hA [0] (by decide) rfl rfl (fun H locs hw => ?_)
        have hw : Wd dC dI A s.heap [wX6 h_me h_me_code q_me k_me z3, wX0 h_me_code nc_me_code ns_me_code q_me_code k_me_code o_me_code] H locs := hw
        refine lv_aload_n hx hb dX6_readSinglePart_103 rfl (lv_at hl 0 rfl) ?_
        refine fgX6_4 hx hb hts hown hK hw 0 rfl kw208 dX6_readSinglePart_104 ?_
        refine lv_if_ne (tgt := 115) hx hb dX6_readSinglePart_107 (by decide) (fun c => ?_) (fun c => ?_)
        · have h := z_f h c
          exact bk_115_4  v2 z3 o_me_code _ _ _ h hw (lv_sub hl [0, 2] rfl)
        · have h := z_t h c
          refine lv_iload_n hx hb dX6_readSinglePart_110 rfl (lv_at hl 2 rfl) ?_
          refine lv_iconst (v := 5) hx hb dX6_readSinglePart_111 (by decide) ?_
          refine lv_icmp_ge (tgt := 127) hx hb dX6_readSinglePart_112 (by decide) (fun c => ?_) (fun c => ?_)
          · have h := z_t h c
            refine lv_aload_n hx hb dX6_readSinglePart_127 rfl (lv_at hl 0 rfl) ?_
            refine fgX6_6 hx hb hts hown hK hw 0 rfl kw210 dX6_readSinglePart_128 ?_
            refine lv_iconst (v := 2) hx hb dX6_readSinglePart_131 (by decide) ?_
            refine lv_icmp_ne (tgt := 144) hx hb dX6_readSinglePart_132 (by decide) (fun c => ?_) (fun c => ?_)
            · have h := z_f h c
              exact bk_144_5  z3 o_me_code _ _ _ h hw (lv_sub hl [0] rfl)
            · have h := z_t h c
              refine lv_aload_n hx hb dX6_readSinglePart_135 rfl (lv_at hl 0 rfl) ?_
              refine fgX6_9 hx hb hts hown hK hw 0 rfl kw213 dX6_readSinglePart_136 ?_
              refine lv_bipush (v := 7) hx hb dX6_readSinglePart_139 (by decide) ?_
              refine lv_icmp_lt (tgt := 149) hx hb dX6_readSinglePart_141 (by decide) (fun c => ?_) (fun c => ?_)
              · have h := z_t h c
                refine lv_aload_n hx hb dX6_readSinglePart_149 rfl (lv_at hl 0 rfl) ?_
                refine fgX6_1 hx hb hts hown hK hw 0 rfl kw202 dX6_readSinglePart_150 ?_
                refine lv_iconst (v := 1) hx hb dX6_readSinglePart_153 (by decide) ?_
                refine lv_iload_n hx hb dX6_readSinglePart_154 rfl (lv_at hl 2 rfl) ?_
                refine lv_aload_n hx hb dX6_readSinglePart_155 rfl (lv_at hl 0 rfl) ?_
                refine fgX6_9 hx hb hts hown hK hw 0 rfl kw213 dX6_readSinglePart_156 ?_
                obtain ⟨z7, ez7, h⟩ := z_bd h
                refine xj_i (xrS (As := [.int v2, .int (gI z3 9)]) (rest := [.int (1 : Int32), .ref h_me_code]) ⟨hx, hb, hml, hown, hts⟩ (m_X3_wordOfPerson l dC dI _  v2 (gI z3 9) z7 ez7) kw778 kw776 kw777 kw114 hd_X3_wordOfPerson ⟨rfl, rfl⟩ rfl rfl ⟨rfl, rfl⟩ hX hK hw [] (by decide) rfl rfl hl.1 rfl rfl dX6_readSinglePart_159) hw hA [] (by decide) rfl rfl (fun H locs hw => ?_)
                obtain ⟨z8, ez8, h⟩ := z_bd h
                refine xj_i (xrV (As := [.int (1 : Int32), .int z7]) (rest := []) ⟨hx, hb, hml, hown, hts⟩ (m_X0_add l dC dI _ h_me_code q_me_code k_me_code nc_me_code ns_me_code o_me_code (1 : Int32) z7 z8 ez8) kw775 kw772 kw773 kw774 kw112 hd_X0_add ⟨rfl, rfl⟩ rfl rfl ⟨rfl, rfl⟩ hX hK hw [1] (by decide) rfl rfl rfl rfl rfl hl.1 rfl rfl dX6_readSinglePart_162) hw hA [1] (by decide) rfl rfl (fun H locs hw => ?_)
                have hw : Wd dC dI A s.heap [wX6 h_me h_me_code q_me k_me z3, wX0 h_me_code nc_me_code ns_me_code q_me_code k_me_code z8.2] H locs := hw
                refine lv_pop hx hb dX6_readSinglePart_165 rfl ?_
                refine lv_aload_n hx hb dX6_readSinglePart_166 rfl (lv_at hl 0 rfl) ?_
                obtain ⟨z9, ez9, h⟩ := z_bd h
                refine xj_v (xrV (As := []) (rest := []) ⟨hx, hb, hml, hown, hts⟩ (m_X6_step l dC dI _ h_me h_me_code q_me k_me z3 z9 ez9) kw675 kw672 kw674 kw5 kw111 hd_X6_step ⟨rfl, rfl⟩ rfl rfl ⟨rfl, rfl⟩ hX hK hw [0] (by decide) rfl rfl rfl rfl rfl hl.1 rfl rfl dX6_readSinglePart_167) hw hA [0] (by decide) rfl rfl (fun H locs hw => ?_)
                have hw : Wd dC dI A s.heap [wX6 h_me h_me_code q_me k_me z9, wX0 h_me_code nc_me_code ns_me_code q_me_code k_me_code z8.2] H locs := hw
                refine lv_iconst (v := 1) hx hb dX6_readSinglePart_170 (by decide) ?_
                have hy := Option.some.inj h
                rw [← hQz, ← hy]
                exact xr_i (v := (1 : Int32)) hx hb hr rfl hlk hK hw dX6_readSinglePart_171
              · have h := z_f h c
                exact bk_144_5  z3 o_me_code _ _ _ h hw (lv_sub hl [0] rfl)
          · have h := z_f h c
            exact bk_115_4  v2 z3 o_me_code _ _ _ h hw (lv_sub hl [0, 2] rfl)
      · have h := z_f h c
        refine lv_aload_n hx hb dX6_readSinglePart_80 rfl (lv_at hl 0 rfl) ?_
        refine fgX6_1 hx hb hts hown hK hw 0 rfl kw202 dX6_readSinglePart_81 ?_
        refine lv_iconst (v := 0) hx hb dX6_readSinglePart_84 (by decide) ?_
        refine lv_aload_n hx hb dX6_readSinglePart_85 rfl (lv_at hl 0 rfl) ?_
        refine fgX6_9 hx hb hts hown hK hw 0 rfl kw213 dX6_readSinglePart_86 ?_
        obtain ⟨z10, ez10, h⟩ := z_bd h
        refine xj_i (xrV (As := [.int (0 : Int32), .int (gI o2 9)]) (rest := []) ⟨hx, hb, hml, hown, hts⟩ (m_X0_add l dC dI _ h_me_code q_me_code k_me_code nc_me_code ns_me_code o_me_code (0 : Int32) (gI o2 9) z10 ez10) kw775 kw772 kw773 kw774 kw112 hd_X0_add ⟨rfl, rfl⟩ rfl rfl ⟨rfl, rfl⟩ hX hK hw [1] (by decide) rfl rfl rfl rfl rfl hl.1 rfl rfl dX6_readSinglePart_89) hw hA [1] (by decide) rfl rfl (fun H locs hw => ?_)
        have hw : Wd dC dI A s.heap [wX6 h_me h_me_code q_me k_me o2, wX0 h_me_code nc_me_code ns_me_code q_me_code k_me_code z10.2] H locs := hw
        refine lv_pop hx hb dX6_readSinglePart_92 rfl ?_
        refine lv_aload_n hx hb dX6_readSinglePart_93 rfl (lv_at hl 0 rfl) ?_
        obtain ⟨z11, ez11, h⟩ := z_bd h
        refine xj_v (xrV (As := []) (rest := []) ⟨hx, hb, hml, hown, hts⟩ (m_X6_step l dC dI _ h_me h_me_code q_me k_me o2 z11 ez11) kw675 kw672 kw674 kw5 kw111 hd_X6_step ⟨rfl, rfl⟩ rfl rfl ⟨rfl, rfl⟩ hX hK hw [0] (by decide) rfl rfl rfl rfl rfl hl.1 rfl rfl dX6_readSinglePart_94) hw hA [0] (by decide) rfl rfl (fun H locs hw => ?_)
        have hw : Wd dC dI A s.heap [wX6 h_me h_me_code q_me k_me z11, wX0 h_me_code nc_me_code ns_me_code q_me_code k_me_code z10.2] H locs := hw
        refine lv_iconst (v := 1) hx hb dX6_readSinglePart_97 (by decide) ?_
        have hy := Option.some.inj h
        rw [← hQz, ← hy]
        exact xr_i (v := (1 : Int32)) hx hb hr rfl hlk hK hw dX6_readSinglePart_98
    · have h := z_f h c
      exact bk_61_6  o_me o_me_code _ _ _ h hw (lv_sub hl [0] rfl)
  have bk_39_2 : ∀ (v1 : Int32) (s0 : Nat) (o_me : Ob) (o_me_code : Ob) (H : Heap) (locs : List Loc) (ls : Array Slot), bk_X6_readSinglePart_39 nc_me_code ns_me_code  v1 s0 o_me o_me_code = some y → Wd dC dI A s.heap [wX6 h_me h_me_code q_me k_me o_me, wX0 h_me_code nc_me_code ns_me_code q_me_code k_me_code o_me_code] H locs → lv_has ls 3 [(0, .ref h_me), (1, .int v1)] → W p l e ({ frames := 6, cells := 0, slots := 0, locals := 134 } : Room) s m ([.ref h_me] : List Value).toArray below meth c H locs 0 0 Qz (F0 m 39 ls [.ref (dI 101 s0), .ref h_me]) := by
    intro v1 s0 o_me o_me_code H locs ls h hw hl
    unfold bk_X6_readSinglePart_39 at h
    obtain ⟨z1, ez1, h⟩ := z_bd h
    refine xj_i (xrV (As := [.ref (dI 101 s0)]) (rest := []) ⟨hx, hb, hml, hown, hts⟩ (m_X6_wordOf l dC dI _ h_me h_me_code q_me k_me o_me s0 z1 ez1) kw693 kw690 kw692 kw7 kw111 hd_X6_wordOf ⟨rfl, rfl⟩ rfl rfl ⟨rfl, rfl⟩ hX hK hw [0] (by decide) rfl rfl rfl rfl rfl hl.1 rfl rfl dX6_readSinglePart_39) hw hA [0] (by decide) rfl rfl (fun H locs hw => ?_)
    have hw : Wd dC dI A s.heap [wX6 h_me h_me_code q_me k_me o_me, wX0 h_me_code nc_me_code ns_me_code q_me_code k_me_code o_me_code] H locs := hw
    refine lv_istore_n (lv' := [(2, .int z1), (0, .ref h_me), (1, .int v1)]) hx hb dX6_readSinglePart_42 rfl hl (by decide) rfl (fun ls hl => ?_)
    refine lv_iload_n hx hb dX6_readSinglePart_43 rfl (lv_at hl 2 rfl) ?_
    refine lv_if_ne (tgt := 52) hx hb dX6_readSinglePart_44 (by decide) (fun c => ?_) (fun c => ?_)
    · have h := z_f h c
      exact bk_52_3  v1 z1 o_me o_me_code _ _ _ h hw (lv_sub hl [1, 2, 0] rfl)
    · have h := z_t h c
      refine lv_iload_n hx hb dX6_readSinglePart_47 rfl (lv_at hl 0 rfl) ?_
      refine lv_iconst (v := (-1)) hx hb dX6_readSinglePart_48 (by decide) ?_
      refine lv_icmp_eq (tgt := 61) hx hb dX6_readSinglePart_49 (by decide) (fun c => ?_) (fun c => ?_)
      · have h := z_t h c
        exact bk_61_6  o_me o_me_code _ _ _ h hw (lv_sub hl [1] rfl)
      · have h := z_f h c
        exact bk_52_3  v1 z1 o_me o_me_code _ _ _ h hw (lv_sub hl [1, 2, 0] rfl)
  have bk_23_1 : ∀ (s0 : Int32) (o_me : Ob) (o_me_code : Ob) (H : Heap) (locs : List Loc) (ls : Array Slot), bk_X6_readSinglePart_23 nc_me_code ns_me_code  s0 o_me o_me_code = some y → Wd dC dI A s.heap [wX6 h_me h_me_code q_me k_me o_me, wX0 h_me_code nc_me_code ns_me_code q_me_code k_me_code o_me_code] H locs → lv_has ls 3 [(0, .ref h_me)] → W p l e ({ frames := 6, cells := 0, slots := 0, locals := 134 } : Room) s m ([.ref h_me] : List Value).toArray below meth c H locs 0 0 Qz (F0 m 23 ls [.int s0]) := by
    intro s0 o_me o_me_code H locs ls h hw hl
    unfold bk_X6_readSinglePart_23 at h
    refine lv_istore_n (lv' := [(1, .int s0), (0, .ref h_me)]) hx hb dX6_readSinglePart_23 rfl hl (by decide) rfl (fun ls hl => ?_)
    refine lv_aload_n hx hb dX6_readSinglePart_24 rfl (lv_at hl 1 rfl) ?_
    refine lv_aload_n hx hb dX6_readSinglePart_25 rfl (lv_at hl 1 rfl) ?_
    refine fgX6_4 hx hb hts hown hK hw 0 rfl kw208 dX6_readSinglePart_26 ?_
    refine lv_if_eq (tgt := 37) hx hb dX6_readSinglePart_29 (by decide) (fun c => ?_) (fun c => ?_)
    · have h := z_t h c
      refine va_ldcS hx hb hown hX.2.2.2.2.2.2.2.2.2.2.2.2.2.2 dX6_readSinglePart_37 ?_
      exact bk_39_2  s0 8 o_me o_me_code _ _ _ h hw (lv_sub hl [1, 0] rfl)
    · have h := z_f h c
      refine va_ldcS hx hb hown hX.2.2.2.2.2.2.2.2.2.2.2.2.2.1 dX6_readSinglePart_32 ?_
      refine lv_goto (tgt := 39) hx hb dX6_readSinglePart_34 (by decide) ?_
      exact bk_39_2  s0 7 o_me o_me_code _ _ _ h hw (lv_sub hl [1, 0] rfl)
  have bk_22_0 : ∀ (o_me : Ob) (o_me_code : Ob) (H : Heap) (locs : List Loc) (ls : Array Slot), bk_X6_readSinglePart_22 nc_me_code ns_me_code  o_me o_me_code = some y → Wd dC dI A s.heap [wX6 h_me h_me_code q_me k_me o_me, wX0 h_me_code nc_me_code ns_me_code q_me_code k_me_code o_me_code] H locs → lv_has ls 3 [(0, .ref h_me)] → W p l e ({ frames := 6, cells := 0, slots := 0, locals := 134 } : Room) s m ([.ref h_me] : List Value).toArray below meth c H locs 0 0 Qz (F0 m 22 ls []) := by
    intro o_me o_me_code H locs ls h hw hl
    unfold bk_X6_readSinglePart_22 at h
    refine lv_iconst (v := 0) hx hb dX6_readSinglePart_22 (by decide) ?_
    exact bk_23_1  (0 : Int32) o_me o_me_code _ _ _ h hw (lv_sub hl [0] rfl)
  unfold f_X6_readSinglePart at h
  refine lv_aload_n hx hb dX6_readSinglePart_0 rfl (lv_at hl 0 rfl) ?_
  refine fgX6_6 hx hb hts hown hK hw 0 rfl kw210 dX6_readSinglePart_1 ?_
  refine lv_iconst (v := 2) hx hb dX6_readSinglePart_4 (by decide) ?_
  refine lv_icmp_ne (tgt := 22) hx hb dX6_readSinglePart_5 (by decide) (fun c => ?_) (fun c => ?_)
  · have h := z_f h c
    exact bk_22_0  o_me o_me_code _ _ _ h hw (lv_sub hl [0] rfl)
  · have h := z_t h c
    refine lv_aload_n hx hb dX6_readSinglePart_8 rfl (lv_at hl 0 rfl) ?_
    refine fgX6_9 hx hb hts hown hK hw 0 rfl kw213 dX6_readSinglePart_9 ?_
    refine lv_sipush (v := 1000) hx hb dX6_readSinglePart_12 (by decide) ?_
    refine lv_icmp_gt (tgt := 22) hx hb dX6_readSinglePart_15 (by decide) (fun c => ?_) (fun c => ?_)
    · have h := z_t h c
      exact bk_22_0  o_me o_me_code _ _ _ h hw (lv_sub hl [0] rfl)
    · have h := z_f h c
      refine lv_iconst (v := 1) hx hb dX6_readSinglePart_18 (by decide) ?_
      refine lv_goto (tgt := 23) hx hb dX6_readSinglePart_19 (by decide) ?_
      exact bk_23_1  (1 : Int32) o_me o_me_code _ _ _ h hw (lv_sub hl [0] rfl)

def f_X6_readPart (rS : Ob → Ob → Int32 → Option (Int32 × Ob × Ob)) (nc_me_code : Nat) (ns_me_code : Nat) (o_me : Ob) (o_me_code : Ob) (p0 : Int32) : Option (Int32 × Ob × Ob) :=
  (f_X6_isSign o_me (91 : Int32)).bind fun z1 =>
  if z1 = (0 : Int32) then
  ((f_X6_readSinglePart nc_me_code ns_me_code o_me o_me_code).bind fun z10 =>
  zgd (zbo z10.1) <|
  some (z10.1, z10.2.1, z10.2.2))
  else
  (if p0 < (8 : Int32) then
  ((f_X6_step o_me).bind fun z2 =>
  (rS z2 o_me_code (p0 + (1 : Int32))).bind fun z3 =>
  if z3.1 = (0 : Int32) then
  (some ((0 : Int32), z3.2.1, z3.2.2))
  else
  ((f_X6_isSign z3.2.1 (93 : Int32)).bind fun z4 =>
  if z4 = (0 : Int32) then
  ((f_X6_stop z3.2.1).bind fun z6 =>
  zgd (zbo z6.1) <|
  some (z6.1, z6.2, z3.2.2))
  else
  ((f_X6_step z3.2.1).bind fun z5 =>
  some ((1 : Int32), z5, z3.2.2))))
  else
  ((f_X6_stop o_me).bind fun z8 =>
  zgd (zbo z8.1) <|
  some (z8.1, z8.2, o_me_code)))
set_option maxHeartbeats 4000000 in
set_option maxRecDepth 100000 in
theorem m_X6_readPart (l : Launch) (dC : Nat → ClassId) (dI : Nat → Nat → Nat) (sz : Nat) (h_me : Nat) (h_me_code : Nat) (q_me : Nat → Nat) (k_me : Nat → ClassId) (q_me_code : Nat → Nat) (k_me_code : Nat → ClassId) (nc_me_code : Nat) (ns_me_code : Nat) (rS : Ob → Ob → Int32 → Option (Int32 × Ob × Ob)) (FR LC : Nat) (hrS : ∀ (sz : Nat) (o_me : Ob) (o_me_code : Ob) (p0 : Int32) (y : Int32 × Ob × Ob), rS o_me o_me_code p0 = some y → CI l yX6_readSum cX6_readSum 4 (some .boolean) ({ frames := FR, cells := 0, slots := 0, locals := LC } : Room) dC dI sz [.ref h_me, .int p0] [wX6 h_me h_me_code q_me k_me o_me, wX0 h_me_code nc_me_code ns_me_code q_me_code k_me_code o_me_code] [tX6 k_me, tX0 k_me_code] y.1 [wX6 h_me h_me_code q_me k_me y.2.1, wX0 h_me_code nc_me_code ns_me_code q_me_code k_me_code y.2.2]) (o_me : Ob) (o_me_code : Ob) (p0 : Int32) (y : Int32 × Ob × Ob) (h : f_X6_readPart rS nc_me_code ns_me_code o_me o_me_code p0 = some y) : CI l yX6_readPart cX6_readPart 2 (some .boolean) ({ frames := FR + 7, cells := 0, slots := 0, locals := LC + 156 } : Room) dC dI sz [.ref h_me, .int p0] [wX6 h_me h_me_code q_me k_me o_me, wX0 h_me_code nc_me_code ns_me_code q_me_code k_me_code o_me_code] [tX6 k_me, tX0 k_me_code] y.1 [wX6 h_me h_me_code q_me k_me y.2.1, wX0 h_me_code nc_me_code ns_me_code q_me_code k_me_code y.2.2] := by
  refine CC_of (by decide) (Nat.le_of_ble_eq_true rfl) ?_
  intro p e s m below meth c A ls hx hb hml hr hlk hnm hown hts hX hK hP hD hA hl
  have hl : lv_has ls 2 [(0, .ref h_me), (1, .int p0)] := hl
  have hown : s.vm.findClass RX6 = some m.cls := hown
  have hw : Wd dC dI A s.heap [wX6 h_me h_me_code q_me k_me o_me, wX0 h_me_code nc_me_code ns_me_code q_me_code k_me_code o_me_code] s.heap [] := ⟨hP, hD, va_S.rf⟩
  generalize hQz : (MQ below (QI dC dI (fun r (_ : Unit) => r = y.1) (fun _ => Jn [wX6 h_me h_me_code q_me k_me y.2.1, wX0 h_me_code nc_me_code ns_me_code q_me_code k_me_code y.2.2]) (fun _ => Jt [tX6 k_me, tX0 k_me_code]) A) ([.ref h_me, .int p0] : List Value).toArray s 0 0 A) = Qz
  clear hP hD hnm
  unfold f_X6_readPart at h
  refine lv_aload_n hx hb dX6_readPart_0 rfl (lv_at hl 0 rfl) ?_
  refine lv_bipush (v := 91) hx hb dX6_readPart_1 (by decide) ?_
  obtain ⟨z1, ez1, h⟩ := z_bd h
  refine xj_i (xrV (As := [.int (91 : Int32)]) (rest := []) ⟨hx, hb, hml, hown, hts⟩ (m_X6_isSign l dC dI _ h_me h_me_code q_me k_me o_me (91 : Int32) z1 ez1) kw765 kw762 kw764 kw13 kw111 hd_X6_isSign ⟨Nat.ble_eq_true_of_le (by show 1 + 1 ≤ FR + 7; omega), Nat.ble_eq_true_of_le (by show 8 + (2 + 11) + (21) ≤ LC + 156; omega)⟩ rfl rfl ⟨rfl, rfl⟩ hX hK hw [0] (by decide) rfl rfl rfl rfl rfl hl.1 rfl rfl dX6_readPart_3) hw hA [0] (by decide) rfl rfl (fun H locs hw => ?_)
  have hw : Wd dC dI A s.heap [wX6 h_me h_me_code q_me k_me o_me, wX0 h_me_code nc_me_code ns_me_code q_me_code k_me_code o_me_code] H locs := hw
  refine lv_if_ne (tgt := 14) hx hb dX6_readPart_6 (by decide) (fun c => ?_) (fun c => ?_)
  · have h := z_f h c
    refine lv_iload_n hx hb dX6_readPart_14 rfl (lv_at hl 1 rfl) ?_
    refine lv_bipush (v := 8) hx hb dX6_readPart_15 (by decide) ?_
    refine lv_icmp_lt (tgt := 25) hx hb dX6_readPart_17 (by decide) (fun c => ?_) (fun c => ?_)
    · have h := z_t h c
      refine lv_aload_n hx hb dX6_readPart_25 rfl (lv_at hl 0 rfl) ?_
      obtain ⟨z2, ez2, h⟩ := z_bd h
      refine xj_v (xrV (As := []) (rest := []) ⟨hx, hb, hml, hown, hts⟩ (m_X6_step l dC dI _ h_me h_me_code q_me k_me o_me z2 ez2) kw675 kw672 kw674 kw5 kw111 hd_X6_step ⟨Nat.ble_eq_true_of_le (by show 1 + 1 ≤ FR + 7; omega), Nat.ble_eq_true_of_le (by show 8 + (2 + 11) + (21) ≤ LC + 156; omega)⟩ rfl rfl ⟨rfl, rfl⟩ hX hK hw [0] (by decide) rfl rfl rfl rfl rfl hl.1 rfl rfl dX6_readPart_26) hw hA [0] (by decide) rfl rfl (fun H locs hw => ?_)
      have hw : Wd dC dI A s.heap [wX6 h_me h_me_code q_me k_me z2, wX0 h_me_code nc_me_code ns_me_code q_me_code k_me_code o_me_code] H locs := hw
      refine lv_aload_n hx hb dX6_readPart_29 rfl (lv_at hl 0 rfl) ?_
      refine lv_iload_n hx hb dX6_readPart_30 rfl (lv_at hl 1 rfl) ?_
      refine lv_iconst (v := 1) hx hb dX6_readPart_31 (by decide) ?_
      refine lv_iadd hx hb dX6_readPart_32 ?_
      obtain ⟨z3, ez3, h⟩ := z_bd h
      refine xj_i (xrV (As := [.int (p0 + (1 : Int32))]) (rest := []) ⟨hx, hb, hml, hown, hts⟩ (hrS _ z2 o_me_code (p0 + (1 : Int32)) z3 ez3) kw753 kw750 kw752 kw10 kw111 hd_X6_readSum ⟨Nat.ble_eq_true_of_le (by show FR + 1 ≤ FR + 7; omega), Nat.ble_eq_true_of_le (by show 8 + (4 + 11) + (LC) ≤ LC + 156; omega)⟩ rfl rfl ⟨rfl, rfl⟩ hX hK hw [0, 1] (by decide) rfl rfl rfl rfl rfl hl.1 rfl rfl dX6_readPart_33) hw hA [0, 1] (by decide) rfl rfl (fun H locs hw => ?_)
      have hw : Wd dC dI A s.heap [wX6 h_me h_me_code q_me k_me z3.2.1, wX0 h_me_code nc_me_code ns_me_code q_me_code k_me_code z3.2.2] H locs := hw
      refine lv_if_ne (tgt := 41) hx hb dX6_readPart_36 (by decide) (fun c => ?_) (fun c => ?_)
      · have h := z_f h c
        refine lv_aload_n hx hb dX6_readPart_41 rfl (lv_at hl 0 rfl) ?_
        refine lv_bipush (v := 93) hx hb dX6_readPart_42 (by decide) ?_
        obtain ⟨z4, ez4, h⟩ := z_bd h
        refine xj_i (xrV (As := [.int (93 : Int32)]) (rest := []) ⟨hx, hb, hml, hown, hts⟩ (m_X6_isSign l dC dI _ h_me h_me_code q_me k_me z3.2.1 (93 : Int32) z4 ez4) kw765 kw762 kw764 kw13 kw111 hd_X6_isSign ⟨Nat.ble_eq_true_of_le (by show 1 + 1 ≤ FR + 7; omega), Nat.ble_eq_true_of_le (by show 8 + (2 + 11) + (21) ≤ LC + 156; omega)⟩ rfl rfl ⟨rfl, rfl⟩ hX hK hw [0] (by decide) rfl rfl rfl rfl rfl hl.1 rfl rfl dX6_readPart_44) hw hA [0] (by decide) rfl rfl (fun H locs hw => ?_)
        have hw : Wd dC dI A s.heap [wX6 h_me h_me_code q_me k_me z3.2.1, wX0 h_me_code nc_me_code ns_me_code q_me_code k_me_code z3.2.2] H locs := hw
        refine lv_if_ne (tgt := 55) hx hb dX6_readPart_47 (by decide) (fun c => ?_) (fun c => ?_)
        · have h := z_f h c
          refine lv_aload_n hx hb dX6_readPart_55 rfl (lv_at hl 0 rfl) ?_
          obtain ⟨z5, ez5, h⟩ := z_bd h
          refine xj_v (xrV (As := []) (rest := []) ⟨hx, hb, hml, hown, hts⟩ (m_X6_step l dC dI _ h_me h_me_code q_me k_me z3.2.1 z5 ez5) kw675 kw672 kw674 kw5 kw111 hd_X6_step ⟨Nat.ble_eq_true_of_le (by show 1 + 1 ≤ FR + 7; omega), Nat.ble_eq_true_of_le (by show 8 + (2 + 11) + (21) ≤ LC + 156; omega)⟩ rfl rfl ⟨rfl, rfl⟩ hX hK hw [0] (by decide) rfl rfl rfl rfl rfl hl.1 rfl rfl dX6_readPart_56) hw hA [0] (by decide) rfl rfl (fun H locs hw => ?_)
          have hw : Wd dC dI A s.heap [wX6 h_me h_me_code q_me k_me z5, wX0 h_me_code nc_me_code ns_me_code q_me_code k_me_code z3.2.2] H locs := hw
          refine lv_iconst (v := 1) hx hb dX6_readPart_59 (by decide) ?_
          have hy := Option.some.inj h
          rw [← hQz, ← hy]
          exact xr_i (v := (1 : Int32)) hx hb hr rfl hlk hK hw dX6_readPart_60
        · have h := z_t h c
          refine lv_aload_n hx hb dX6_readPart_50 rfl (lv_at hl 0 rfl) ?_
          obtain ⟨z6, ez6, h⟩ := z_bd h
          refine xj_i (xrV (As := []) (rest := []) ⟨hx, hb, hml, hown, hts⟩ (m_X6_stop l dC dI _ h_me h_me_code q_me k_me z3.2.1 z6 ez6) kw749 kw746 kw748 kw9 kw111 hd_X6_stop ⟨Nat.ble_eq_true_of_le (by show 0 + 1 ≤ FR + 7; omega), Nat.ble_eq_true_of_le (by show 8 + (1 + 11) + (0) ≤ LC + 156; omega)⟩ rfl rfl ⟨rfl, rfl⟩ hX hK hw [0] (by decide) rfl rfl rfl rfl rfl hl.1 rfl rfl dX6_readPart_51) hw hA [0] (by decide) rfl rfl (fun H locs hw => ?_)
          have hw : Wd dC dI A s.heap [wX6 h_me h_me_code q_me k_me z6.2, wX0 h_me_code nc_me_code ns_me_code q_me_code k_me_code z3.2.2] H locs := hw
          obtain ⟨g7, h⟩ := z_gd h
          have hy := Option.some.inj h
          rw [← hQz, ← hy]
          exact xr_i (v := z6.1) hx hb hr (z_nar g7) hlk hK hw dX6_readPart_54
      · have h := z_t h c
        refine lv_iconst (v := 0) hx hb dX6_readPart_39 (by decide) ?_
        have hy := Option.some.inj h
        rw [← hQz, ← hy]
        exact xr_i (v := (0 : Int32)) hx hb hr rfl hlk hK hw dX6_readPart_40
    · have h := z_f h c
      refine lv_aload_n hx hb dX6_readPart_20 rfl (lv_at hl 0 rfl) ?_
      obtain ⟨z8, ez8, h⟩ := z_bd h
      refine xj_i (xrV (As := []) (rest := []) ⟨hx, hb, hml, hown, hts⟩ (m_X6_stop l dC dI _ h_me h_me_code q_me k_me o_me z8 ez8) kw749 kw746 kw748 kw9 kw111 hd_X6_stop ⟨Nat.ble_eq_true_of_le (by show 0 + 1 ≤ FR + 7; omega), Nat.ble_eq_true_of_le (by show 8 + (1 + 11) + (0) ≤ LC + 156; omega)⟩ rfl rfl ⟨rfl, rfl⟩ hX hK hw [0] (by decide) rfl rfl rfl rfl rfl hl.1 rfl rfl dX6_readPart_21) hw hA [0] (by decide) rfl rfl (fun H locs hw => ?_)
      have hw : Wd dC dI A s.heap [wX6 h_me h_me_code q_me k_me z8.2, wX0 h_me_code nc_me_code ns_me_code q_me_code k_me_code o_me_code] H locs := hw
      obtain ⟨g9, h⟩ := z_gd h
      have hy := Option.some.inj h
      rw [← hQz, ← hy]
      exact xr_i (v := z8.1) hx hb hr (z_nar g9) hlk hK hw dX6_readPart_24
  · have h := z_t h c
    refine lv_aload_n hx hb dX6_readPart_9 rfl (lv_at hl 0 rfl) ?_
    obtain ⟨z10, ez10, h⟩ := z_bd h
    refine xj_i (xrV (As := []) (rest := []) ⟨hx, hb, hml, hown, hts⟩ (m_X6_readSinglePart l dC dI _ h_me h_me_code q_me k_me q_me_code k_me_code nc_me_code ns_me_code o_me o_me_code z10 ez10) kw769 kw766 kw768 kw14 kw111 hd_X6_readSinglePart ⟨Nat.ble_eq_true_of_le (by show 6 + 1 ≤ FR + 7; omega), Nat.ble_eq_true_of_le (by show 8 + (3 + 11) + (134) ≤ LC + 156; omega)⟩ rfl rfl ⟨rfl, rfl⟩ hX hK hw [0, 1] (by decide) rfl rfl rfl rfl rfl hl.1 rfl rfl dX6_readPart_10) hw hA [0, 1] (by decide) rfl rfl (fun H locs hw => ?_)
    have hw : Wd dC dI A s.heap [wX6 h_me h_me_code q_me k_me z10.2.1, wX0 h_me_code nc_me_code ns_me_code q_me_code k_me_code z10.2.2] H locs := hw
    obtain ⟨g11, h⟩ := z_gd h
    have hy := Option.some.inj h
    rw [← hQz, ← hy]
    exact xr_i (v := z10.1) hx hb hr (z_nar g11) hlk hK hw dX6_readPart_13

def bk_X6_readTerm_76 (rS : Ob → Ob → Int32 → Option (Int32 × Ob × Ob)) (nc_me_code : Nat) (ns_me_code : Nat) (rec_12_0 : Int32 × Int32 × Ob × Ob → Option (Int32 × Ob × Ob)) (v1 : Int32) (v2 : Int32) (s0 : Int32) (o_me : Ob) (o_me_code : Ob) : Option (Int32 × Ob × Ob) :=
  (f_X6_step o_me).bind fun z5 =>
  (f_X6_readPart rS nc_me_code ns_me_code z5 o_me_code v1).bind fun z6 =>
  if z6.1 = (0 : Int32) then
  (some ((0 : Int32), z6.2.1, z6.2.2))
  else
  ((f_X0_add nc_me_code ns_me_code z6.2.2 s0 (0 : Int32)).bind fun z7 =>
  zlt (v2 + (1 : Int32)) fun x8 =>
  rec_12_0 (v1, x8, z6.2.1, z7.2))
def bk_X6_readTerm_46 (rS : Ob → Ob → Int32 → Option (Int32 × Ob × Ob)) (nc_me_code : Nat) (ns_me_code : Nat) (rec_12_0 : Int32 × Int32 × Ob × Ob → Option (Int32 × Ob × Ob)) (v1 : Int32) (v2 : Int32) (o_me : Ob) (o_me_code : Ob) : Option (Int32 × Ob × Ob) :=
  (f_X6_isSign o_me (42 : Int32)).bind fun z3 =>
  if z3 = (0 : Int32) then
  ((f_X6_isSign o_me (47 : Int32)).bind fun z4 =>
  if z4 = (0 : Int32) then
  (bk_X6_readTerm_76 rS nc_me_code ns_me_code rec_12_0 v1 v2 (9 : Int32) o_me o_me_code)
  else
  (bk_X6_readTerm_76 rS nc_me_code ns_me_code rec_12_0 v1 v2 (8 : Int32) o_me o_me_code))
  else
  (bk_X6_readTerm_76 rS nc_me_code ns_me_code rec_12_0 v1 v2 (7 : Int32) o_me o_me_code)
def lb_X6_readTerm_12 (rS : Ob → Ob → Int32 → Option (Int32 × Ob × Ob)) (nc_me_code : Nat) (ns_me_code : Nat)  (rec_12_0 : Int32 × Int32 × Ob × Ob → Option (Int32 × Ob × Ob)) (v1 : Int32) (v2 : Int32) (o_me : Ob) (o_me_code : Ob) : Option (Int32 × Ob × Ob) :=
  if (400 : Int32) ≤ v2 then
  (some ((1 : Int32), o_me, o_me_code))
  else
  ((f_X6_isSign o_me (42 : Int32)).bind fun z2 =>
  if z2 = (0 : Int32) then
  ((f_X6_isSign o_me (47 : Int32)).bind fun z9 =>
  if z9 = (0 : Int32) then
  ((f_X6_isSign o_me (37 : Int32)).bind fun z10 =>
  if z10 = (0 : Int32) then
  (some ((1 : Int32), o_me, o_me_code))
  else
  (bk_X6_readTerm_46 rS nc_me_code ns_me_code rec_12_0 v1 v2 o_me o_me_code))
  else
  (bk_X6_readTerm_46 rS nc_me_code ns_me_code rec_12_0 v1 v2 o_me o_me_code))
  else
  (bk_X6_readTerm_46 rS nc_me_code ns_me_code rec_12_0 v1 v2 o_me o_me_code))
def lp_X6_readTerm_12 (rS : Ob → Ob → Int32 → Option (Int32 × Ob × Ob)) (nc_me_code : Nat) (ns_me_code : Nat)  : Nat → (Int32 × Int32 × Ob × Ob) → Option (Int32 × Ob × Ob) := zit (fun rec a => lb_X6_readTerm_12 rS nc_me_code ns_me_code  rec a.1 a.2.1 a.2.2.1 a.2.2.2)
def f_X6_readTerm (rS : Ob → Ob → Int32 → Option (Int32 × Ob × Ob)) (nc_me_code : Nat) (ns_me_code : Nat) (o_me : Ob) (o_me_code : Ob) (p0 : Int32) : Option (Int32 × Ob × Ob) :=
  (f_X6_readPart rS nc_me_code ns_me_code o_me o_me_code p0).bind fun z1 =>
  if z1.1 = (0 : Int32) then
  (some ((0 : Int32), z1.2.1, z1.2.2))
  else
  (lp_X6_readTerm_12 rS nc_me_code ns_me_code  zfu (p0, (0 : Int32), z1.2.1, z1.2.2))
set_option maxHeartbeats 4000000 in
set_option maxRecDepth 100000 in
theorem m_X6_readTerm (l : Launch) (dC : Nat → ClassId) (dI : Nat → Nat → Nat) (sz : Nat) (h_me : Nat) (h_me_code : Nat) (q_me : Nat → Nat) (k_me : Nat → ClassId) (q_me_code : Nat → Nat) (k_me_code : Nat → ClassId) (nc_me_code : Nat) (ns_me_code : Nat) (rS : Ob → Ob → Int32 → Option (Int32 × Ob × Ob)) (FR LC : Nat) (hrS : ∀ (sz : Nat) (o_me : Ob) (o_me_code : Ob) (p0 : Int32) (y : Int32 × Ob × Ob), rS o_me o_me_code p0 = some y → CI l yX6_readSum cX6_readSum 4 (some .boolean) ({ frames := FR, cells := 0, slots := 0, locals := LC } : Room) dC dI sz [.ref h_me, .int p0] [wX6 h_me h_me_code q_me k_me o_me, wX0 h_me_code nc_me_code ns_me_code q_me_code k_me_code o_me_code] [tX6 k_me, tX0 k_me_code] y.1 [wX6 h_me h_me_code q_me k_me y.2.1, wX0 h_me_code nc_me_code ns_me_code q_me_code k_me_code y.2.2]) (o_me : Ob) (o_me_code : Ob) (p0 : Int32) (y : Int32 × Ob × Ob) (h : f_X6_readTerm rS nc_me_code ns_me_code o_me o_me_code p0 = some y) : CI l yX6_readTerm cX6_readTerm 4 (some .boolean) ({ frames := FR + 8, cells := 0, slots := 0, locals := LC + 177 } : Room) dC dI sz [.ref h_me, .int p0] [wX6 h_me h_me_code q_me k_me o_me, wX0 h_me_code nc_me_code ns_me_code q_me_code k_me_code o_me_code] [tX6 k_me, tX0 k_me_code] y.1 [wX6 h_me h_me_code q_me k_me y.2.1, wX0 h_me_code nc_me_code ns_me_code q_me_code k_me_code y.2.2] := by
  refine CC_of (by decide) (Nat.le_of_ble_eq_true rfl) ?_
  intro p e s m below meth c A ls hx hb hml hr hlk hnm hown hts hX hK hP hD hA hl
  have hl : lv_has ls 4 [(0, .ref h_me), (1, .int p0)] := hl
  have hown : s.vm.findClass RX6 = some m.cls := hown
  have hw : Wd dC dI A s.heap [wX6 h_me h_me_code q_me k_me o_me, wX0 h_me_code nc_me_code ns_me_code q_me_code k_me_code o_me_code] s.heap [] := ⟨hP, hD, va_S.rf⟩
  generalize hQz : (MQ below (QI dC dI (fun r (_ : Unit) => r = y.1) (fun _ => Jn [wX6 h_me h_me_code q_me k_me y.2.1, wX0 h_me_code nc_me_code ns_me_code q_me_code k_me_code y.2.2]) (fun _ => Jt [tX6 k_me, tX0 k_me_code]) A) ([.ref h_me, .int p0] : List Value).toArray s 0 0 A) = Qz
  clear hP hD hnm
  have bk_76_2 : ∀ (rec_12_0 : Int32 × Int32 × Ob × Ob → Option (Int32 × Ob × Ob)) (hrec_12_0 : ∀ (v1 : Int32) (v2 : Int32) (o_me : Ob) (o_me_code : Ob) (H : Heap) (locs : List Loc) (ls : Array Slot), rec_12_0 (v1, v2, o_me, o_me_code) = some y → Wd dC dI A s.heap [wX6 h_me h_me_code q_me k_me o_me, wX0 h_me_code nc_me_code ns_me_code q_me_code k_me_code o_me_code] H locs → lv_has ls 4 [(0, .ref h_me), (1, .int v1), (2, .int v2)] → W p l e ({ frames := FR + 8, cells := 0, slots := 0, locals := LC + 177 } : Room) s m ([.ref h_me, .int p0] : List Value).toArray below meth c H locs 0 0 Qz (F0 m 12 ls [])), ∀ (v1 : Int32) (v2 : Int32) (s0 : Int32) (o_me : Ob) (o_me_code : Ob) (H : Heap) (locs : List Loc) (ls : Array Slot), bk_X6_readTerm_76 rS nc_me_code ns_me_code rec_12_0 v1 v2 s0 o_me o_me_code = some y → Wd dC dI A s.heap [wX6 h_me h_me_code q_me k_me o_me, wX0 h_me_code nc_me_code ns_me_code q_me_code k_me_code o_me_code] H locs → lv_has ls 4 [(0, .ref h_me), (1, .int v1), (2, .int v2)] → W p l e ({ frames := FR + 8, cells := 0, slots := 0, locals := LC + 177 } : Room) s m ([.ref h_me, .int p0] : List Value).toArray below meth c H locs 0 0 Qz (F0 m 76 ls [.int s0]) := by
    intro rec_12_0 hrec_12_0
    intro v1 v2 s0 o_me o_me_code H locs ls h hw hl
    unfold bk_X6_readTerm_76 at h
    refine lv_istore_n (lv' := [(3, .int s0), (0, .ref h_me), (1, .int v1), (2, .int v2)]) hx hb dX6_readTerm_76 rfl hl (by decide) rfl (fun ls hl => ?_)
    refine lv_aload_n hx hb dX6_readTerm_77 rfl (lv_at hl 1 rfl) ?_
    obtain ⟨z5, ez5, h⟩ := z_bd h
    refine xj_v (xrV (As := []) (rest := []) ⟨hx, hb, hml, hown, hts⟩ (m_X6_step l dC dI _ h_me h_me_code q_me k_me o_me z5 ez5) kw675 kw672 kw674 kw5 kw111 hd_X6_step ⟨Nat.ble_eq_true_of_le (by show 1 + 1 ≤ FR + 8; omega), Nat.ble_eq_true_of_le (by show 8 + (2 + 11) + (21) ≤ LC + 177; omega)⟩ rfl rfl ⟨rfl, rfl⟩ hX hK hw [0] (by decide) rfl rfl rfl rfl rfl hl.1 rfl rfl dX6_readTerm_78) hw hA [0] (by decide) rfl rfl (fun H locs hw => ?_)
    have hw : Wd dC dI A s.heap [wX6 h_me h_me_code q_me k_me z5, wX0 h_me_code nc_me_code ns_me_code q_me_code k_me_code o_me_code] H locs := hw
    refine lv_aload_n hx hb dX6_readTerm_81 rfl (lv_at hl 1 rfl) ?_
    refine lv_iload_n hx hb dX6_readTerm_82 rfl (lv_at hl 2 rfl) ?_
    obtain ⟨z6, ez6, h⟩ := z_bd h
    refine xj_i (xrV (As := [.int v1]) (rest := []) ⟨hx, hb, hml, hown, hts⟩ (m_X6_readPart l dC dI _ h_me h_me_code q_me k_me q_me_code k_me_code nc_me_code ns_me_code rS FR LC hrS z5 o_me_code v1 z6 ez6) kw761 kw758 kw760 kw12 kw111 hd_X6_readPart ⟨Nat.ble_eq_true_of_le (by show FR + 7 + 1 ≤ FR + 8; omega), Nat.ble_eq_true_of_le (by show 8 + (2 + 11) + (LC + 156) ≤ LC + 177; omega)⟩ rfl rfl ⟨rfl, rfl⟩ hX hK hw [0, 1] (by decide) rfl rfl rfl rfl rfl hl.1 rfl rfl dX6_readTerm_83) hw hA [0, 1] (by decide) rfl rfl (fun H locs hw => ?_)
    have hw : Wd dC dI A s.heap [wX6 h_me h_me_code q_me k_me z6.2.1, wX0 h_me_code nc_me_code ns_me_code q_me_code k_me_code z6.2.2] H locs := hw
    refine lv_if_ne (tgt := 91) hx hb dX6_readTerm_86 (by decide) (fun c => ?_) (fun c => ?_)
    · have h := z_f h c
      refine lv_aload_n hx hb dX6_readTerm_91 rfl (lv_at hl 1 rfl) ?_
      refine fgX6_1 hx hb hts hown hK hw 0 rfl kw202 dX6_readTerm_92 ?_
      refine lv_iload_n hx hb dX6_readTerm_95 rfl (lv_at hl 0 rfl) ?_
      refine lv_iconst (v := 0) hx hb dX6_readTerm_96 (by decide) ?_
      obtain ⟨z7, ez7, h⟩ := z_bd h
      refine xj_i (xrV (As := [.int s0, .int (0 : Int32)]) (rest := []) ⟨hx, hb, hml, hown, hts⟩ (m_X0_add l dC dI _ h_me_code q_me_code k_me_code nc_me_code ns_me_code z6.2.2 s0 (0 : Int32) z7 ez7) kw775 kw772 kw773 kw774 kw112 hd_X0_add ⟨Nat.ble_eq_true_of_le (by show 0 + 1 ≤ FR + 8; omega), Nat.ble_eq_true_of_le (by show 8 + (3 + 11) + (0) ≤ LC + 177; omega)⟩ rfl rfl ⟨rfl, rfl⟩ hX hK hw [1] (by decide) rfl rfl rfl rfl rfl hl.1 rfl rfl dX6_readTerm_97) hw hA [1] (by decide) rfl rfl (fun H locs hw => ?_)
      have hw : Wd dC dI A s.heap [wX6 h_me h_me_code q_me k_me z6.2.1, wX0 h_me_code nc_me_code ns_me_code q_me_code k_me_code z7.2] H locs := hw
      refine lv_pop hx hb dX6_readTerm_100 rfl ?_
      obtain ⟨x8, ex8, h⟩ := z_lt h
      refine lv_iinc (v := x8) (lv' := [(2, .int x8), (3, .int s0), (0, .ref h_me), (1, .int v1)]) hx hb dX6_readTerm_101 hl (k := 3) rfl ((congrArg (v2 + ·) (show Int32.ofInt 1 = (1 : Int32) from by decide)).trans ex8.symm) (by decide) rfl (fun ls hl => ?_)
      refine lv_goto (tgt := 12) hx hb dX6_readTerm_104 (by decide) ?_
      exact hrec_12_0 v1 x8 z6.2.1 z7.2 _ _ _ h hw (lv_sub hl [2, 3, 0] rfl)
    · have h := z_t h c
      refine lv_iconst (v := 0) hx hb dX6_readTerm_89 (by decide) ?_
      have hy := Option.some.inj h
      rw [← hQz, ← hy]
      exact xr_i (v := (0 : Int32)) hx hb hr rfl hlk hK hw dX6_readTerm_90
  have bk_46_1 : ∀ (rec_12_0 : Int32 × Int32 × Ob × Ob → Option (Int32 × Ob × Ob)) (hrec_12_0 : ∀ (v1 : Int32) (v2 : Int32) (o_me : Ob) (o_me_code : Ob) (H : Heap) (locs : List Loc) (ls : Array Slot), rec_12_0 (v1, v2, o_me, o_me_code) = some y → Wd dC dI A s.heap [wX6 h_me h_me_code q_me k_me o_me, wX0 h_me_code nc_me_code ns_me_code q_me_code k_me_code o_me_code] H locs → lv_has ls 4 [(0, .ref h_me), (1, .int v1), (2, .int v2)] → W p l e ({ frames := FR + 8, cells := 0, slots := 0, locals := LC + 177 } : Room) s m ([.ref h_me, .int p0] : List Value).toArray below meth c H locs 0 0 Qz (F0 m 12 ls [])), ∀ (v1 : Int32) (v2 : Int32) (o_me : Ob) (o_me_code : Ob) (H : Heap) (locs : List Loc) (ls : Array Slot), bk_X6_readTerm_46 rS nc_me_code ns_me_code rec_12_0 v1 v2 o_me o_me_code = some y → Wd dC dI A s.heap [wX6 h_me h_me_code q_me k_me o_me, wX0 h_me_code nc_me_code ns_me_code q_me_code k_me_code o_me_code] H locs → lv_has ls 4 [(0, .ref h_me), (1, .int v1), (2, .int v2)] → W p l e ({ frames := FR + 8, cells := 0, slots := 0, locals := LC + 177 } : Room) s m ([.ref h_me, .int p0] : List Value).toArray below meth c H locs 0 0 Qz (F0 m 46 ls []) := by
    intro rec_12_0 hrec_12_0
    intro v1 v2 o_me o_me_code H locs ls h hw hl
    unfold bk_X6_readTerm_46 at h
    refine lv_aload_n hx hb dX6_readTerm_46 rfl (lv_at hl 0 rfl) ?_
    refine lv_bipush (v := 42) hx hb dX6_readTerm_47 (by decide) ?_
    obtain ⟨z3, ez3, h⟩ := z_bd h
    refine xj_i (xrV (As := [.int (42 : Int32)]) (rest := []) ⟨hx, hb, hml, hown, hts⟩ (m_X6_isSign l dC dI _ h_me h_me_code q_me k_me o_me (42 : Int32) z3 ez3) kw765 kw762 kw764 kw13 kw111 hd_X6_isSign ⟨Nat.ble_eq_true_of_le (by show 1 + 1 ≤ FR + 8; omega), Nat.ble_eq_true_of_le (by show 8 + (2 + 11) + (21) ≤ LC + 177; omega)⟩ rfl rfl ⟨rfl, rfl⟩ hX hK hw [0] (by decide) rfl rfl rfl rfl rfl hl.1 rfl rfl dX6_readTerm_49) hw hA [0] (by decide) rfl rfl (fun H locs hw => ?_)
    have hw : Wd dC dI A s.heap [wX6 h_me h_me_code q_me k_me o_me, wX0 h_me_code nc_me_code ns_me_code q_me_code k_me_code o_me_code] H locs := hw
    refine lv_if_eq (tgt := 60) hx hb dX6_readTerm_52 (by decide) (fun c => ?_) (fun c => ?_)
    · have h := z_t h c
      refine lv_aload_n hx hb dX6_readTerm_60 rfl (lv_at hl 0 rfl) ?_
      refine lv_bipush (v := 47) hx hb dX6_readTerm_61 (by decide) ?_
      obtain ⟨z4, ez4, h⟩ := z_bd h
      refine xj_i (xrV (As := [.int (47 : Int32)]) (rest := []) ⟨hx, hb, hml, hown, hts⟩ (m_X6_isSign l dC dI _ h_me h_me_code q_me k_me o_me (47 : Int32) z4 ez4) kw765 kw762 kw764 kw13 kw111 hd_X6_isSign ⟨Nat.ble_eq_true_of_le (by show 1 + 1 ≤ FR + 8; omega), Nat.ble_eq_true_of_le (by show 8 + (2 + 11) + (21) ≤ LC + 177; omega)⟩ rfl rfl ⟨rfl, rfl⟩ hX hK hw [0] (by decide) rfl rfl rfl rfl rfl hl.1 rfl rfl dX6_readTerm_63) hw hA [0] (by decide) rfl rfl (fun H locs hw => ?_)
      have hw : Wd dC dI A s.heap [wX6 h_me h_me_code q_me k_me o_me, wX0 h_me_code nc_me_code ns_me_code q_me_code k_me_code o_me_code] H locs := hw
      refine lv_if_eq (tgt := 74) hx hb dX6_readTerm_66 (by decide) (fun c => ?_) (fun c => ?_)
      · have h := z_t h c
        refine lv_bipush (v := 9) hx hb dX6_readTerm_74 (by decide) ?_
        exact bk_76_2 rec_12_0 hrec_12_0 v1 v2 (9 : Int32) o_me o_me_code _ _ _ h hw (lv_sub hl [0, 1, 2] rfl)
      · have h := z_f h c
        refine lv_bipush (v := 8) hx hb dX6_readTerm_69 (by decide) ?_
        refine lv_goto (tgt := 76) hx hb dX6_readTerm_71 (by decide) ?_
        exact bk_76_2 rec_12_0 hrec_12_0 v1 v2 (8 : Int32) o_me o_me_code _ _ _ h hw (lv_sub hl [0, 1, 2] rfl)
    · have h := z_f h c
      refine lv_bipush (v := 7) hx hb dX6_readTerm_55 (by decide) ?_
      refine lv_goto (tgt := 76) hx hb dX6_readTerm_57 (by decide) ?_
      exact bk_76_2 rec_12_0 hrec_12_0 v1 v2 (7 : Int32) o_me o_me_code _ _ _ h hw (lv_sub hl [0, 1, 2] rfl)
  have lp_12_0 : ∀ (N : Nat), ∀ (v1 : Int32) (v2 : Int32) (o_me : Ob) (o_me_code : Ob) (H : Heap) (locs : List Loc) (ls : Array Slot), lp_X6_readTerm_12 rS nc_me_code ns_me_code  N (v1, v2, o_me, o_me_code) = some y → Wd dC dI A s.heap [wX6 h_me h_me_code q_me k_me o_me, wX0 h_me_code nc_me_code ns_me_code q_me_code k_me_code o_me_code] H locs → lv_has ls 4 [(0, .ref h_me), (1, .int v1), (2, .int v2)] → W p l e ({ frames := FR + 8, cells := 0, slots := 0, locals := LC + 177 } : Room) s m ([.ref h_me, .int p0] : List Value).toArray below meth c H locs 0 0 Qz (F0 m 12 ls []) := by
    intro N
    induction N with
    | zero =>
      intro v1 v2 o_me o_me_code H locs ls h hw hl
      exact absurd (show (none : Option (Int32 × Ob × Ob)) = some y from h) (by simp)
    | succ N ih =>
      intro v1 v2 o_me o_me_code H locs ls h hw hl
      have h : lb_X6_readTerm_12 rS nc_me_code ns_me_code  (lp_X6_readTerm_12 rS nc_me_code ns_me_code  N) v1 v2 o_me o_me_code = some y := h
      unfold lb_X6_readTerm_12 at h
      refine lv_iload_n hx hb dX6_readTerm_12 rfl (lv_at hl 2 rfl) ?_
      refine lv_sipush (v := 400) hx hb dX6_readTerm_13 (by decide) ?_
      refine lv_icmp_ge (tgt := 107) hx hb dX6_readTerm_16 (by decide) (fun c => ?_) (fun c => ?_)
      · have h := z_t h c
        refine lv_iconst (v := 1) hx hb dX6_readTerm_107 (by decide) ?_
        have hy := Option.some.inj h
        rw [← hQz, ← hy]
        exact xr_i (v := (1 : Int32)) hx hb hr rfl hlk hK hw dX6_readTerm_108
      · have h := z_f h c
        refine lv_aload_n hx hb dX6_readTerm_19 rfl (lv_at hl 0 rfl) ?_
        refine lv_bipush (v := 42) hx hb dX6_readTerm_20 (by decide) ?_
        obtain ⟨z2, ez2, h⟩ := z_bd h
        refine xj_i (xrV (As := [.int (42 : Int32)]) (rest := []) ⟨hx, hb, hml, hown, hts⟩ (m_X6_isSign l dC dI _ h_me h_me_code q_me k_me o_me (42 : Int32) z2 ez2) kw765 kw762 kw764 kw13 kw111 hd_X6_isSign ⟨Nat.ble_eq_true_of_le (by show 1 + 1 ≤ FR + 8; omega), Nat.ble_eq_true_of_le (by show 8 + (2 + 11) + (21) ≤ LC + 177; omega)⟩ rfl rfl ⟨rfl, rfl⟩ hX hK hw [0] (by decide) rfl rfl rfl rfl rfl hl.1 rfl rfl dX6_readTerm_22) hw hA [0] (by decide) rfl rfl (fun H locs hw => ?_)
        have hw : Wd dC dI A s.heap [wX6 h_me h_me_code q_me k_me o_me, wX0 h_me_code nc_me_code ns_me_code q_me_code k_me_code o_me_code] H locs := hw
        refine lv_if_ne (tgt := 46) hx hb dX6_readTerm_25 (by decide) (fun c => ?_) (fun c => ?_)
        · have h := z_f h c
          exact bk_46_1 (lp_X6_readTerm_12 rS nc_me_code ns_me_code  N) ih v1 v2 o_me o_me_code _ _ _ h hw (lv_sub hl [0, 1, 2] rfl)
        · have h := z_t h c
          refine lv_aload_n hx hb dX6_readTerm_28 rfl (lv_at hl 0 rfl) ?_
          refine lv_bipush (v := 47) hx hb dX6_readTerm_29 (by decide) ?_
          obtain ⟨z9, ez9, h⟩ := z_bd h
          refine xj_i (xrV (As := [.int (47 : Int32)]) (rest := []) ⟨hx, hb, hml, hown, hts⟩ (m_X6_isSign l dC dI _ h_me h_me_code q_me k_me o_me (47 : Int32) z9 ez9) kw765 kw762 kw764 kw13 kw111 hd_X6_isSign ⟨Nat.ble_eq_true_of_le (by show 1 + 1 ≤ FR + 8; omega), Nat.ble_eq_true_of_le (by show 8 + (2 + 11) + (21) ≤ LC + 177; omega)⟩ rfl rfl ⟨rfl, rfl⟩ hX hK hw [0] (by decide) rfl rfl rfl rfl rfl hl.1 rfl rfl dX6_readTerm_31) hw hA [0] (by decide) rfl rfl (fun H locs hw => ?_)
          have hw : Wd dC dI A s.heap [wX6 h_me h_me_code q_me k_me o_me, wX0 h_me_code nc_me_code ns_me_code q_me_code k_me_code o_me_code] H locs := hw
          refine lv_if_ne (tgt := 46) hx hb dX6_readTerm_34 (by decide) (fun c => ?_) (fun c => ?_)
          · have h := z_f h c
            exact bk_46_1 (lp_X6_readTerm_12 rS nc_me_code ns_me_code  N) ih v1 v2 o_me o_me_code _ _ _ h hw (lv_sub hl [0, 1, 2] rfl)
          · have h := z_t h c
            refine lv_aload_n hx hb dX6_readTerm_37 rfl (lv_at hl 0 rfl) ?_
            refine lv_bipush (v := 37) hx hb dX6_readTerm_38 (by decide) ?_
            obtain ⟨z10, ez10, h⟩ := z_bd h
            refine xj_i (xrV (As := [.int (37 : Int32)]) (rest := []) ⟨hx, hb, hml, hown, hts⟩ (m_X6_isSign l dC dI _ h_me h_me_code q_me k_me o_me (37 : Int32) z10 ez10) kw765 kw762 kw764 kw13 kw111 hd_X6_isSign ⟨Nat.ble_eq_true_of_le (by show 1 + 1 ≤ FR + 8; omega), Nat.ble_eq_true_of_le (by show 8 + (2 + 11) + (21) ≤ LC + 177; omega)⟩ rfl rfl ⟨rfl, rfl⟩ hX hK hw [0] (by decide) rfl rfl rfl rfl rfl hl.1 rfl rfl dX6_readTerm_40) hw hA [0] (by decide) rfl rfl (fun H locs hw => ?_)
            have hw : Wd dC dI A s.heap [wX6 h_me h_me_code q_me k_me o_me, wX0 h_me_code nc_me_code ns_me_code q_me_code k_me_code o_me_code] H locs := hw
            refine lv_if_eq (tgt := 107) hx hb dX6_readTerm_43 (by decide) (fun c => ?_) (fun c => ?_)
            · have h := z_t h c
              refine lv_iconst (v := 1) hx hb dX6_readTerm_107 (by decide) ?_
              have hy := Option.some.inj h
              rw [← hQz, ← hy]
              exact xr_i (v := (1 : Int32)) hx hb hr rfl hlk hK hw dX6_readTerm_108
            · have h := z_f h c
              exact bk_46_1 (lp_X6_readTerm_12 rS nc_me_code ns_me_code  N) ih v1 v2 o_me o_me_code _ _ _ h hw (lv_sub hl [0, 1, 2] rfl)
  unfold f_X6_readTerm at h
  refine lv_aload_n hx hb dX6_readTerm_0 rfl (lv_at hl 0 rfl) ?_
  refine lv_iload_n hx hb dX6_readTerm_1 rfl (lv_at hl 1 rfl) ?_
  obtain ⟨z1, ez1, h⟩ := z_bd h
  refine xj_i (xrV (As := [.int p0]) (rest := []) ⟨hx, hb, hml, hown, hts⟩ (m_X6_readPart l dC dI _ h_me h_me_code q_me k_me q_me_code k_me_code nc_me_code ns_me_code rS FR LC hrS o_me o_me_code p0 z1 ez1) kw761 kw758 kw760 kw12 kw111 hd_X6_readPart ⟨Nat.ble_eq_true_of_le (by show FR + 7 + 1 ≤ FR + 8; omega), Nat.ble_eq_true_of_le (by show 8 + (2 + 11) + (LC + 156) ≤ LC + 177; omega)⟩ rfl rfl ⟨rfl, rfl⟩ hX hK hw [0, 1] (by decide) rfl rfl rfl rfl rfl hl.1 rfl rfl dX6_readTerm_2) hw hA [0, 1] (by decide) rfl rfl (fun H locs hw => ?_)
  have hw : Wd dC dI A s.heap [wX6 h_me h_me_code q_me k_me z1.2.1, wX0 h_me_code nc_me_code ns_me_code q_me_code k_me_code z1.2.2] H locs := hw
  refine lv_if_ne (tgt := 10) hx hb dX6_readTerm_5 (by decide) (fun c => ?_) (fun c => ?_)
  · have h := z_f h c
    refine lv_iconst (v := 0) hx hb dX6_readTerm_10 (by decide) ?_
    refine lv_istore_n (lv' := [(2, .int (0 : Int32)), (0, .ref h_me), (1, .int p0)]) hx hb dX6_readTerm_11 rfl hl (by decide) rfl (fun ls hl => ?_)
    exact lp_12_0  zfu p0 (0 : Int32) z1.2.1 z1.2.2 _ _ _ h hw (lv_sub hl [1, 2, 0] rfl)
  · have h := z_t h c
    refine lv_iconst (v := 0) hx hb dX6_readTerm_8 (by decide) ?_
    have hy := Option.some.inj h
    rw [← hQz, ← hy]
    exact xr_i (v := (0 : Int32)) hx hb hr rfl hlk hK hw dX6_readTerm_9

