def f_X1_nearest (p0 : Int64) (p1 : Int32) : Option (Int32) :=
  some ((if (if p1.toInt64 < p0 then p1.toInt64 else p0) < (0 : Int64) then (0 : Int64) else (if p1.toInt64 < p0 then p1.toInt64 else p0)).toInt32)
set_option maxHeartbeats 4000000 in
set_option maxRecDepth 100000 in
theorem m_X1_nearest (l : Launch) (dC : Nat → ClassId) (dI : Nat → Nat → Nat) (sz : Nat)  (p0 : Int64) (p1 : Int32) (y : Int32) (h : f_X1_nearest p0 p1 = some y) : CI l yX1_nearest cX1_nearest 3 (some .int) ({ frames := 1, cells := 0, slots := 0, locals := 17 } : Room) dC dI sz [.long p0, .int p1] [] [] y [] := by
  refine CC_of (by decide) (Nat.le_of_ble_eq_true rfl) ?_
  intro p e s m below meth c A ls hx hb hml hr hlk hnm hown hts hX hK hP hD hA hl
  have hl : lv_has ls 3 [(0, .long p0), (2, .int p1)] := hl
  have hown : s.vm.findClass RX1 = some m.cls := hown
  have hw : Wd dC dI A s.heap [] s.heap [] := ⟨hP, hD, va_S.rf⟩
  generalize hQz : (MQ below (QI dC dI (fun r (_ : Unit) => r = y) (fun _ => Jn []) (fun _ => Jt []) A) ([.long p0, .int p1] : List Value).toArray s 0 0 A) = Qz
  clear hP hD hnm
  unfold f_X1_nearest at h
  refine lv_lconst (v := 0) hx hb dX1_nearest_0 (by decide) ?_
  refine lv_lload_n hx hb dX1_nearest_1 rfl (lv_at hl 0 rfl) ?_
  refine lv_iload_n hx hb dX1_nearest_2 rfl (lv_at hl 1 rfl) ?_
  refine lv_i2l hx hb dX1_nearest_3 rfl ?_
  refine va_mmin_long hx hb (hml.trans hl.1.symm) hown (hts _ kw576) (hts _ kw577) (hts _ kw113) (hts _ kw578) (Nat.le_of_ble_eq_true rfl) (Nat.le_of_ble_eq_true rfl) (Nat.le_of_ble_eq_true rfl) (Nat.le_of_ble_eq_true rfl) dX1_nearest_4 ?_
  refine va_mmax_long hx hb (hml.trans hl.1.symm) hown (hts _ kw579) (hts _ kw580) (hts _ kw113) (hts _ kw581) (Nat.le_of_ble_eq_true rfl) (Nat.le_of_ble_eq_true rfl) (Nat.le_of_ble_eq_true rfl) (Nat.le_of_ble_eq_true rfl) dX1_nearest_7 ?_
  refine lv_l2i hx hb dX1_nearest_10 rfl ?_
  have hy := Option.some.inj h
  rw [← hQz, ← hy]
  exact xr_i (v := (if (if p1.toInt64 < p0 then p1.toInt64 else p0) < (0 : Int64) then (0 : Int64) else (if p1.toInt64 < p0 then p1.toInt64 else p0)).toInt32) hx hb hr rfl hlk hK hw dX1_nearest_11

def f_X1_runsBy_Q (o_me : Ob) (o_me_isles : Ob) (o_me_isles_now : Ob) (o_me_machine : Ob) (o_pool : List CR) (p0 : Option Nat) (p1 : Int32) (p2 : Int32) : Option (Int32 × Ob) :=
  (zop p0 o_pool ((f_X1_told_N o_me (0 : Int32) p1 p2 (-1 : Int32)).map (fun v => (v, o_me_machine))) (fun cr => f_X1_told_O cr.2.2.2.1 cr.2.2.2.2.1 o_me o_me_isles o_me_isles_now o_me_machine cr.2.2.2.2.2 (0 : Int32) p1 p2 (-1 : Int32))).bind fun z1 =>
  if (lg_cmp z1.1 (-9000000000000000000 : Int64)) = (0 : Int32) then
  (zgd (zin ((p1 * (4 : Int32)) + p2) 28) <|
  some (gA o_me_isles 2 ((p1 * (4 : Int32)) + p2).toNatClampNeg, z1.2))
  else
  ((f_X1_nearest z1.1 (99 : Int32)).bind fun z2 =>
  some (z2, z1.2))
set_option maxHeartbeats 4000000 in
set_option maxRecDepth 100000 in
theorem m_X1_runsBy_Q (l : Launch) (dC : Nat → ClassId) (dI : Nat → Nat → Nat) (sz : Nat) (h_me : Nat) (h_me_isles : Nat) (h_me_machine : Nat) (h_me_isles_now : Nat) (q_me : Nat → Nat) (k_me : Nat → ClassId) (q_me_isles : Nat → Nat) (k_me_isles : Nat → ClassId) (q_me_isles_now : Nat → Nat) (k_me_isles_now : Nat → ClassId) (q_me_machine : Nat → Nat) (k_me_machine : Nat → ClassId) (o_me : Ob) (o_me_isles : Ob) (o_me_isles_now : Ob) (o_me_machine : Ob) (o_pool : List CR) (p0 : Option Nat) (p1 : Int32) (p2 : Int32) (y : Int32 × Ob) (h : f_X1_runsBy_Q o_me o_me_isles o_me_isles_now o_me_machine o_pool p0 p1 p2 = some y) : CI l yX1_runsBy cX1_runsBy 6 (some .int) ({ frames := 3, cells := 0, slots := 0, locals := 84 } : Room) dC dI sz [.ref h_me, va_rf p0, .int p1, .int p2] [wX1 h_me h_me_isles h_me_machine q_me k_me o_me, wX2 h_me_isles h_me_isles_now q_me_isles k_me_isles o_me_isles, wX4 h_me_isles_now q_me_isles_now k_me_isles_now o_me_isles_now, wX3 h_me_machine q_me_machine k_me_machine o_me_machine, wPL o_pool] [tX1 k_me, tX2 k_me_isles, tX4 k_me_isles_now, tX3 k_me_machine, tPL o_pool] y.1 [wX1 h_me h_me_isles h_me_machine q_me k_me o_me, wX2 h_me_isles h_me_isles_now q_me_isles k_me_isles o_me_isles, wX4 h_me_isles_now q_me_isles_now k_me_isles_now o_me_isles_now, wX3 h_me_machine q_me_machine k_me_machine y.2, wPL o_pool] := by
  refine CC_of (by decide) (by cases p0 <;> exact Nat.le_of_ble_eq_true rfl) ?_
  intro p e s m below meth c A ls hx hb hml hr hlk hnm hown hts hX hK hP hD hA hl
  have hl : lv_has ls 6 [(0, .ref h_me), (1, va_rf p0), (2, .int p1), (3, .int p2)] := by
    have e9 : lv_args 0 [.ref h_me, va_rf p0, .int p1, .int p2] = [(0, .ref h_me), (1, va_rf p0), (2, .int p1), (3, .int p2)] := by cases p0 <;> rfl
    rw [← e9]; exact hl
  have hown : s.vm.findClass RX1 = some m.cls := hown
  have hw : Wd dC dI A s.heap [wX1 h_me h_me_isles h_me_machine q_me k_me o_me, wX2 h_me_isles h_me_isles_now q_me_isles k_me_isles o_me_isles, wX4 h_me_isles_now q_me_isles_now k_me_isles_now o_me_isles_now, wX3 h_me_machine q_me_machine k_me_machine o_me_machine, wPL o_pool] s.heap [] := ⟨hP, hD, va_S.rf⟩
  generalize hQz : (MQ below (QI dC dI (fun r (_ : Unit) => r = y.1) (fun _ => Jn [wX1 h_me h_me_isles h_me_machine q_me k_me o_me, wX2 h_me_isles h_me_isles_now q_me_isles k_me_isles o_me_isles, wX4 h_me_isles_now q_me_isles_now k_me_isles_now o_me_isles_now, wX3 h_me_machine q_me_machine k_me_machine y.2, wPL o_pool]) (fun _ => Jt [tX1 k_me, tX2 k_me_isles, tX4 k_me_isles_now, tX3 k_me_machine, tPL o_pool]) A) ([.ref h_me, va_rf p0, .int p1, .int p2] : List Value).toArray s 0 0 A) = Qz
  clear hP hD hnm
  unfold f_X1_runsBy_Q at h
  refine lv_aload_n hx hb dX1_runsBy_0 rfl (lv_at hl 0 rfl) ?_
  refine xaload_n hx hb dX1_runsBy_1 rfl (lv_at hl 1 rfl) ?_
  refine lv_iconst (v := 0) hx hb dX1_runsBy_2 (by decide) ?_
  refine lv_iload_n hx hb dX1_runsBy_3 rfl (lv_at hl 2 rfl) ?_
  refine lv_iload_n hx hb dX1_runsBy_4 rfl (lv_at hl 3 rfl) ?_
  refine lv_iconst (v := (-1)) hx hb dX1_runsBy_5 (by decide) ?_
  obtain ⟨z1, ez1, h⟩ := z_bd h
  have kk9 : ∀ (H : Heap) (locs : List Loc), Wd dC dI A s.heap [wX1 h_me h_me_isles h_me_machine q_me k_me o_me, wX2 h_me_isles h_me_isles_now q_me_isles k_me_isles o_me_isles, wX4 h_me_isles_now q_me_isles_now k_me_isles_now o_me_isles_now, wX3 h_me_machine q_me_machine k_me_machine z1.2, wPL o_pool] H locs → W p l e ({ frames := 3, cells := 0, slots := 0, locals := 84 } : Room) s m ([.ref h_me, va_rf p0, .int p1, .int p2] : List Value).toArray below meth c H locs 0 0 Qz (F0 m 9 ls [.long z1.1]) := by
    intro H locs hw
    refine lv_lstore (lv' := [(4, .long z1.1), (0, .ref h_me), (1, va_rf p0), (2, .int p1), (3, .int p2)]) hx hb dX1_runsBy_9 hl (by decide) rfl (fun ls hl => ?_)
    refine lv_lload hx hb dX1_runsBy_11 (lv_at hl 0 rfl) ?_
    refine lv_ldc2 (v := (-9000000000000000000)) hx hb hown (hts _ kw550) dX1_runsBy_13 ?_
    refine W.lcmp hx hb dX1_runsBy_16 ?_
    refine lv_if_ne (tgt := 36) hx hb dX1_runsBy_17 (by decide) (fun c => ?_) (fun c => ?_)
    · have h := z_f h c
      refine lv_lload hx hb dX1_runsBy_36 (lv_at hl 0 rfl) ?_
      refine lv_bipush (v := 99) hx hb dX1_runsBy_38 (by decide) ?_
      obtain ⟨z2, ez2, h⟩ := z_bd h
      refine xj_i (xrS (As := [.long z1.1, .int (99 : Int32)]) (rest := []) ⟨hx, hb, hml, hown, hts⟩ (m_X1_nearest l dC dI _  z1.1 (99 : Int32) z2 ez2) kw575 kw573 kw574 kw117 hd_X1_nearest ⟨rfl, rfl⟩ rfl rfl ⟨rfl, rfl⟩ hX hK hw [] (by decide) rfl rfl hl.1 rfl rfl dX1_runsBy_40) hw hA [] (by decide) rfl rfl (fun H locs hw => ?_)
      have hy := Option.some.inj h
      rw [← hQz, ← hy]
      exact xr_i (v := z2) hx hb hr rfl hlk hK hw dX1_runsBy_43
    · have h := z_t h c
      refine lv_aload_n hx hb dX1_runsBy_20 rfl (lv_at hl 1 rfl) ?_
      refine fgX1_0 hx hb hts hown hK hw 0 rfl kw363 dX1_runsBy_21 ?_
      refine fgX2_2 hx hb hts hown hK hw 1 rfl kw306 dX1_runsBy_24 ?_
      refine lv_iload_n hx hb dX1_runsBy_27 rfl (lv_at hl 3 rfl) ?_
      refine lv_iconst (v := 4) hx hb dX1_runsBy_28 (by decide) ?_
      refine lv_imul hx hb dX1_runsBy_29 ?_
      refine lv_iload_n hx hb dX1_runsBy_30 rfl (lv_at hl 4 rfl) ?_
      refine lv_iadd hx hb dX1_runsBy_31 ?_
      obtain ⟨g3, h⟩ := z_gd h
      refine faX2_2 hx hb hK hw 1 rfl rfl g3 dX1_runsBy_32 ?_
      refine lv_goto (tgt := 43) hx hb dX1_runsBy_33 (by decide) ?_
      have hy := Option.some.inj h
      rw [← hQz, ← hy]
      exact xr_i (v := gA o_me_isles 2 ((p1 * (4 : Int32)) + p2).toNatClampNeg) hx hb hr rfl hlk hK hw dX1_runsBy_43
  rcases z_op ez1 with ⟨er, ek⟩ | ⟨⟨h_law, q_law, k_law, nc_law, ns_law, o_law⟩, l1, l2, er, el, ek⟩
  · refine W.eq (g2 := F0 m 6 ls [.int (-1 : Int32), .int p2, .int p1, .int (0 : Int32), .null, .ref h_me]) (by rw [er]; rfl) ?_
    obtain ⟨v9, ev9, ek⟩ := Option.map_eq_some_iff.mp ek
    refine xj_l (xrV (As := [.null, .int (0 : Int32), .int p1, .int p2, .int (-1 : Int32)]) (rest := []) ⟨hx, hb, hml, hown, hts⟩ (m_X1_told_N l dC dI _ h_me h_me_isles h_me_machine q_me k_me o_me (0 : Int32) p1 p2 (-1 : Int32) v9 ev9) kw547 kw544 kw546 kw2 kw117 hd_X1_told ⟨rfl, rfl⟩ rfl rfl ⟨rfl, rfl⟩ hX hK hw [0] (by decide) rfl rfl rfl rfl rfl hl.1 rfl rfl dX1_runsBy_6) hw hA [0] (by decide) rfl rfl (fun H locs hw => ?_)
    refine lv_fl (v := z1.1) (by rw [← ek]) ?_
    refine kk9 H locs ?_
    rw [← ek]
    exact hw
  · refine W.eq (g2 := F0 m 6 ls [.int (-1 : Int32), .int p2, .int p1, .int (0 : Int32), .ref h_law, .ref h_me]) (by rw [er]; rfl) ?_
    have hw := wd_split 4 (l1 := l1) (l2 := l2) (c := (h_law, q_law, k_law, nc_law, ns_law, o_law)) (by rw [← el]; rfl) hw
    have hK9 := wk_split (Ts := [tX1 k_me, tX2 k_me_isles, tX4 k_me_isles_now, tX3 k_me_machine, tPL o_pool]) 4 (l1 := l1) (l2 := l2) (c := (h_law, q_law, k_law, nc_law, ns_law, o_law)) (by rw [← el]; rfl) hK
    have hw : Wd dC dI A s.heap [wX1 h_me h_me_isles h_me_machine q_me k_me o_me, wX2 h_me_isles h_me_isles_now q_me_isles k_me_isles o_me_isles, wX4 h_me_isles_now q_me_isles_now k_me_isles_now o_me_isles_now, wX3 h_me_machine q_me_machine k_me_machine o_me_machine, wPL (l1 ++ l2), wX0 h_law nc_law ns_law q_law k_law o_law] _ _ := hw
    have hK9 : va_K (dC, dI) vwCl (Jt [tX1 k_me, tX2 k_me_isles, tX4 k_me_isles_now, tX3 k_me_machine, tPL (l1 ++ l2), tX0 k_law]) s := hK9
    refine xj_l (xrV (As := [.ref h_law, .int (0 : Int32), .int p1, .int p2, .int (-1 : Int32)]) (rest := []) ⟨hx, hb, hml, hown, hts⟩ (m_X1_told_O l dC dI _ h_me h_me_isles h_me_machine h_me_isles_now h_law q_me k_me q_me_isles k_me_isles q_me_isles_now k_me_isles_now q_me_machine k_me_machine q_law k_law nc_law ns_law o_me o_me_isles o_me_isles_now o_me_machine o_law (0 : Int32) p1 p2 (-1 : Int32) z1 ek) kw547 kw544 kw546 kw2 kw117 hd_X1_told ⟨rfl, rfl⟩ rfl rfl ⟨rfl, rfl⟩ hX hK9 hw [0, 1, 2, 3, 5] (by decide) rfl rfl rfl rfl rfl hl.1 rfl rfl dX1_runsBy_6) hw hA [0, 1, 2, 3, 5] (by decide) rfl rfl (fun H locs hw => ?_)
    have hw := wd_join 4 (l1 := l1) (l2 := l2) (c := (h_law, q_law, k_law, nc_law, ns_law, o_law)) (Ls := [wX1 h_me h_me_isles h_me_machine q_me k_me o_me, wX2 h_me_isles h_me_isles_now q_me_isles k_me_isles o_me_isles, wX4 h_me_isles_now q_me_isles_now k_me_isles_now o_me_isles_now, wX3 h_me_machine q_me_machine k_me_machine z1.2, wPL o_pool]) rfl hw
    rw [← el] at hw
    exact kk9 H locs hw

def bk_X7_setScores_58 (o_me_court : Ob) (o_me_court_isles : Ob) (o_me_court_isles_now : Ob) (o_pool : List CR) (rec_10_0 : Int32 × Option Nat × Int32 × Ob × Ob → Option (Ob × Ob)) (v1 : Int32) (v2 : Option Nat) (v3 : Int32) (s0 : Int32) (s1 : Int32) (o_me : Ob) (o_me_court_machine : Ob) : Option (Ob × Ob) :=
  zgd (zin s1 28) <|
  zlt (tA o_me 5 s1.toNatClampNeg s0) fun o5 =>
  zlt (v3 + (1 : Int32)) fun x6 =>
  rec_10_0 (v1, v2, x6, o5, o_me_court_machine)
def lb_X7_setScores_10 (o_me_court : Ob) (o_me_court_isles : Ob) (o_me_court_isles_now : Ob) (o_pool : List CR)  (rec_10_0 : Int32 × Option Nat × Int32 × Ob × Ob → Option (Ob × Ob)) (v1 : Int32) (v2 : Option Nat) (v3 : Int32) (o_me : Ob) (o_me_court_machine : Ob) : Option (Ob × Ob) :=
  if (gI o_me_court_isles 7) ≤ v3 then
  (some (o_me, o_me_court_machine))
  else
  ((f_X1_isBarred_Q o_me_court o_me_court_isles o_me_court_isles_now o_me_court_machine o_pool v2 v3 v1).bind fun z2 =>
  if z2.1 = (0 : Int32) then
  ((f_X1_runsBy_Q o_me_court o_me_court_isles o_me_court_isles_now z2.2 o_pool v2 v3 v1).bind fun z3 =>
  bk_X7_setScores_58 o_me_court o_me_court_isles o_me_court_isles_now o_pool rec_10_0 v1 v2 v3 z3.1 ((v1 * (7 : Int32)) + v3) o_me z3.2)
  else
  (bk_X7_setScores_58 o_me_court o_me_court_isles o_me_court_isles_now o_pool rec_10_0 v1 v2 v3 (-1 : Int32) ((v1 * (7 : Int32)) + v3) o_me z2.2))
def lp_X7_setScores_10 (o_me_court : Ob) (o_me_court_isles : Ob) (o_me_court_isles_now : Ob) (o_pool : List CR)  : Nat → (Int32 × Option Nat × Int32 × Ob × Ob) → Option (Ob × Ob) := zit (fun rec a => lb_X7_setScores_10 o_me_court o_me_court_isles o_me_court_isles_now o_pool  rec a.1 a.2.1 a.2.2.1 a.2.2.2.1 a.2.2.2.2)
def f_X7_setScores (o_me : Ob) (o_me_court : Ob) (o_me_court_isles : Ob) (o_me_court_isles_now : Ob) (o_me_court_machine : Ob) (o_pool : List CR) (p0 : Int32) : Option (Ob × Ob) :=
  (f_X2_lawInForce o_me_court_isles).bind fun z1 =>
  lp_X7_setScores_10 o_me_court o_me_court_isles o_me_court_isles_now o_pool  zfu (p0, z1, (0 : Int32), o_me, o_me_court_machine)
set_option maxHeartbeats 4000000 in
set_option maxRecDepth 100000 in
theorem m_X7_setScores (l : Launch) (dC : Nat → ClassId) (dI : Nat → Nat → Nat) (sz : Nat) (h_me : Nat) (h_me_court : Nat) (h_me_court_isles : Nat) (h_me_court_machine : Nat) (h_me_court_isles_now : Nat) (q_me : Nat → Nat) (k_me : Nat → ClassId) (q_me_court : Nat → Nat) (k_me_court : Nat → ClassId) (q_me_court_isles : Nat → Nat) (k_me_court_isles : Nat → ClassId) (q_me_court_isles_now : Nat → Nat) (k_me_court_isles_now : Nat → ClassId) (q_me_court_machine : Nat → Nat) (k_me_court_machine : Nat → ClassId) (o_me : Ob) (o_me_court : Ob) (o_me_court_isles : Ob) (o_me_court_isles_now : Ob) (o_me_court_machine : Ob) (o_pool : List CR) (p0 : Int32) (y : Ob × Ob) (h : f_X7_setScores o_me o_me_court o_me_court_isles o_me_court_isles_now o_me_court_machine o_pool p0 = some y) : CV l yX7_setScores cX7_setScores 4 none ({ frames := 4, cells := 0, slots := 0, locals := 109 } : Room) dC dI sz [.ref h_me, .int p0] [wX7 h_me h_me_court h_me_court_isles q_me k_me o_me, wX1 h_me_court h_me_court_isles h_me_court_machine q_me_court k_me_court o_me_court, wX2 h_me_court_isles h_me_court_isles_now q_me_court_isles k_me_court_isles o_me_court_isles, wX4 h_me_court_isles_now q_me_court_isles_now k_me_court_isles_now o_me_court_isles_now, wX3 h_me_court_machine q_me_court_machine k_me_court_machine o_me_court_machine, wPL o_pool] [tX7 k_me, tX1 k_me_court, tX2 k_me_court_isles, tX4 k_me_court_isles_now, tX3 k_me_court_machine, tPL o_pool] [wX7 h_me h_me_court h_me_court_isles q_me k_me y.1, wX1 h_me_court h_me_court_isles h_me_court_machine q_me_court k_me_court o_me_court, wX2 h_me_court_isles h_me_court_isles_now q_me_court_isles k_me_court_isles o_me_court_isles, wX4 h_me_court_isles_now q_me_court_isles_now k_me_court_isles_now o_me_court_isles_now, wX3 h_me_court_machine q_me_court_machine k_me_court_machine y.2, wPL o_pool] := by
  refine CC_of (by decide) (Nat.le_of_ble_eq_true rfl) ?_
  intro p e s m below meth c A ls hx hb hml hr hlk hnm hown hts hX hK hP hD hA hl
  have hl : lv_has ls 4 [(0, .ref h_me), (1, .int p0)] := hl
  have hown : s.vm.findClass RX7 = some m.cls := hown
  have hw : Wd dC dI A s.heap [wX7 h_me h_me_court h_me_court_isles q_me k_me o_me, wX1 h_me_court h_me_court_isles h_me_court_machine q_me_court k_me_court o_me_court, wX2 h_me_court_isles h_me_court_isles_now q_me_court_isles k_me_court_isles o_me_court_isles, wX4 h_me_court_isles_now q_me_court_isles_now k_me_court_isles_now o_me_court_isles_now, wX3 h_me_court_machine q_me_court_machine k_me_court_machine o_me_court_machine, wPL o_pool] s.heap [] := ⟨hP, hD, va_S.rf⟩
  generalize hQz : (MQ below (QV dC dI (fun (_ : Unit) => True) (fun _ => Jn [wX7 h_me h_me_court h_me_court_isles q_me k_me y.1, wX1 h_me_court h_me_court_isles h_me_court_machine q_me_court k_me_court o_me_court, wX2 h_me_court_isles h_me_court_isles_now q_me_court_isles k_me_court_isles o_me_court_isles, wX4 h_me_court_isles_now q_me_court_isles_now k_me_court_isles_now o_me_court_isles_now, wX3 h_me_court_machine q_me_court_machine k_me_court_machine y.2, wPL o_pool]) (fun _ => Jt [tX7 k_me, tX1 k_me_court, tX2 k_me_court_isles, tX4 k_me_court_isles_now, tX3 k_me_court_machine, tPL o_pool]) A) ([.ref h_me, .int p0] : List Value).toArray s 0 0 A) = Qz
  clear hP hD hnm
  have bk_58_1 : ∀ (rec_10_0 : Int32 × Option Nat × Int32 × Ob × Ob → Option (Ob × Ob)) (hrec_10_0 : ∀ (v1 : Int32) (v2 : Option Nat) (v3 : Int32) (o_me : Ob) (o_me_court_machine : Ob) (H : Heap) (locs : List Loc) (ls : Array Slot), rec_10_0 (v1, v2, v3, o_me, o_me_court_machine) = some y → Wd dC dI A s.heap [wX7 h_me h_me_court h_me_court_isles q_me k_me o_me, wX1 h_me_court h_me_court_isles h_me_court_machine q_me_court k_me_court o_me_court, wX2 h_me_court_isles h_me_court_isles_now q_me_court_isles k_me_court_isles o_me_court_isles, wX4 h_me_court_isles_now q_me_court_isles_now k_me_court_isles_now o_me_court_isles_now, wX3 h_me_court_machine q_me_court_machine k_me_court_machine o_me_court_machine, wPL o_pool] H locs → lv_has ls 4 [(0, .ref h_me), (1, .int v1), (2, va_rf v2), (3, .int v3)] → W p l e ({ frames := 4, cells := 0, slots := 0, locals := 109 } : Room) s m ([.ref h_me, .int p0] : List Value).toArray below meth c H locs 0 0 Qz (F0 m 10 ls [])), ∀ (v1 : Int32) (v2 : Option Nat) (v3 : Int32) (s0 : Int32) (s1 : Int32) (o_me : Ob) (o_me_court_machine : Ob) (H : Heap) (locs : List Loc) (ls : Array Slot), bk_X7_setScores_58 o_me_court o_me_court_isles o_me_court_isles_now o_pool rec_10_0 v1 v2 v3 s0 s1 o_me o_me_court_machine = some y → Wd dC dI A s.heap [wX7 h_me h_me_court h_me_court_isles q_me k_me o_me, wX1 h_me_court h_me_court_isles h_me_court_machine q_me_court k_me_court o_me_court, wX2 h_me_court_isles h_me_court_isles_now q_me_court_isles k_me_court_isles o_me_court_isles, wX4 h_me_court_isles_now q_me_court_isles_now k_me_court_isles_now o_me_court_isles_now, wX3 h_me_court_machine q_me_court_machine k_me_court_machine o_me_court_machine, wPL o_pool] H locs → lv_has ls 4 [(0, .ref h_me), (1, .int v1), (2, va_rf v2), (3, .int v3)] → W p l e ({ frames := 4, cells := 0, slots := 0, locals := 109 } : Room) s m ([.ref h_me, .int p0] : List Value).toArray below meth c H locs 0 0 Qz (F0 m 58 ls [.int s0, .int s1, .ref (q_me 5)]) := by
    intro rec_10_0 hrec_10_0
    intro v1 v2 v3 s0 s1 o_me o_me_court_machine H locs ls h hw hl
    unfold bk_X7_setScores_58 at h
    obtain ⟨g4, h⟩ := z_gd h
    refine fbX7_5 hx hb hK hw 0 rfl rfl g4 dX7_setScores_58 (fun H locs hw => ?_)
    obtain ⟨o5, eo5, h⟩ := z_lt h
    have hw : Wd dC dI A s.heap [wX7 h_me h_me_court h_me_court_isles q_me k_me o5, wX1 h_me_court h_me_court_isles h_me_court_machine q_me_court k_me_court o_me_court, wX2 h_me_court_isles h_me_court_isles_now q_me_court_isles k_me_court_isles o_me_court_isles, wX4 h_me_court_isles_now q_me_court_isles_now k_me_court_isles_now o_me_court_isles_now, wX3 h_me_court_machine q_me_court_machine k_me_court_machine o_me_court_machine, wPL o_pool] H locs := by rw [eo5]; exact hw
    obtain ⟨x6, ex6, h⟩ := z_lt h
    refine lv_iinc (v := x6) (lv' := [(3, .int x6), (0, .ref h_me), (1, .int v1), (2, va_rf v2)]) hx hb dX7_setScores_59 hl (k := 3) rfl ((congrArg (v3 + ·) (show Int32.ofInt 1 = (1 : Int32) from by decide)).trans ex6.symm) (by decide) (by generalize v2 = r9; cases r9 <;> rfl) (fun ls hl => ?_)
    refine lv_goto (tgt := 10) hx hb dX7_setScores_62 (by decide) ?_
    exact hrec_10_0 v1 v2 x6 o5 o_me_court_machine _ _ _ h hw (lv_sub hl [1, 2, 3, 0] rfl)
  have lp_10_0 : ∀ (N : Nat), ∀ (v1 : Int32) (v2 : Option Nat) (v3 : Int32) (o_me : Ob) (o_me_court_machine : Ob) (H : Heap) (locs : List Loc) (ls : Array Slot), lp_X7_setScores_10 o_me_court o_me_court_isles o_me_court_isles_now o_pool  N (v1, v2, v3, o_me, o_me_court_machine) = some y → Wd dC dI A s.heap [wX7 h_me h_me_court h_me_court_isles q_me k_me o_me, wX1 h_me_court h_me_court_isles h_me_court_machine q_me_court k_me_court o_me_court, wX2 h_me_court_isles h_me_court_isles_now q_me_court_isles k_me_court_isles o_me_court_isles, wX4 h_me_court_isles_now q_me_court_isles_now k_me_court_isles_now o_me_court_isles_now, wX3 h_me_court_machine q_me_court_machine k_me_court_machine o_me_court_machine, wPL o_pool] H locs → lv_has ls 4 [(0, .ref h_me), (1, .int v1), (2, va_rf v2), (3, .int v3)] → W p l e ({ frames := 4, cells := 0, slots := 0, locals := 109 } : Room) s m ([.ref h_me, .int p0] : List Value).toArray below meth c H locs 0 0 Qz (F0 m 10 ls []) := by
    intro N
    induction N with
    | zero =>
      intro v1 v2 v3 o_me o_me_court_machine H locs ls h hw hl
      exact absurd (show (none : Option (Ob × Ob)) = some y from h) (by simp)
    | succ N ih =>
      intro v1 v2 v3 o_me o_me_court_machine H locs ls h hw hl
      have h : lb_X7_setScores_10 o_me_court o_me_court_isles o_me_court_isles_now o_pool  (lp_X7_setScores_10 o_me_court o_me_court_isles o_me_court_isles_now o_pool  N) v1 v2 v3 o_me o_me_court_machine = some y := h
      unfold lb_X7_setScores_10 at h
      refine lv_iload_n hx hb dX7_setScores_10 rfl (lv_at hl 3 rfl) ?_
      refine lv_aload_n hx hb dX7_setScores_11 rfl (lv_at hl 0 rfl) ?_
      refine fgX7_1 hx hb hts hown hK hw 0 rfl kw387 dX7_setScores_12 ?_
      refine fgX2_7 hx hb hts hown hK hw 2 rfl kw316 dX7_setScores_15 ?_
      refine lv_icmp_ge (tgt := 65) hx hb dX7_setScores_18 (by decide) (fun c => ?_) (fun c => ?_)
      · have h := z_t h c
        have hy := Option.some.inj h
        rw [← hQz, ← hy]
        exact xr_v hx hb hr hlk hK hw dX7_setScores_65
      · have h := z_f h c
        refine lv_aload_n hx hb dX7_setScores_21 rfl (lv_at hl 0 rfl) ?_
        refine fgX7_5 hx hb hts hown hK hw 0 rfl kw392 dX7_setScores_22 ?_
        refine lv_iload_n hx hb dX7_setScores_25 rfl (lv_at hl 1 rfl) ?_
        refine lv_bipush (v := 7) hx hb dX7_setScores_26 (by decide) ?_
        refine lv_imul hx hb dX7_setScores_28 ?_
        refine lv_iload_n hx hb dX7_setScores_29 rfl (lv_at hl 3 rfl) ?_
        refine lv_iadd hx hb dX7_setScores_30 ?_
        refine lv_aload_n hx hb dX7_setScores_31 rfl (lv_at hl 0 rfl) ?_
        refine fgX7_0 hx hb hts hown hK hw 0 rfl kw386 dX7_setScores_32 ?_
        refine xaload_n hx hb dX7_setScores_35 rfl (lv_at hl 2 rfl) ?_
        refine lv_iload_n hx hb dX7_setScores_36 rfl (lv_at hl 3 rfl) ?_
        refine lv_iload_n hx hb dX7_setScores_37 rfl (lv_at hl 1 rfl) ?_
        obtain ⟨z2, ez2, h⟩ := z_bd h
        refine xj_i (xrV (As := [va_rf v2, .int v3, .int v1]) (rest := [.int ((v1 * (7 : Int32)) + v3), .ref (q_me 5)]) ⟨hx, hb, hml, hown, hts⟩ (m_X1_isBarred_Q l dC dI _ h_me_court h_me_court_isles h_me_court_machine h_me_court_isles_now q_me_court k_me_court q_me_court_isles k_me_court_isles q_me_court_isles_now k_me_court_isles_now q_me_court_machine k_me_court_machine o_me_court o_me_court_isles o_me_court_isles_now o_me_court_machine o_pool v2 v3 v1 z2 ez2) kw585 kw956 kw583 kw584 kw117 hd_X1_isBarred ⟨rfl, rfl⟩ rfl rfl ⟨rfl, rfl⟩ hX hK hw [1, 2, 3, 4, 5] (by decide) rfl rfl rfl rfl rfl hl.1 rfl rfl dX7_setScores_38) hw hA [1, 2, 3, 4, 5] (by decide) rfl rfl (fun H locs hw => ?_)
        have hw : Wd dC dI A s.heap [wX7 h_me h_me_court h_me_court_isles q_me k_me o_me, wX1 h_me_court h_me_court_isles h_me_court_machine q_me_court k_me_court o_me_court, wX2 h_me_court_isles h_me_court_isles_now q_me_court_isles k_me_court_isles o_me_court_isles, wX4 h_me_court_isles_now q_me_court_isles_now k_me_court_isles_now o_me_court_isles_now, wX3 h_me_court_machine q_me_court_machine k_me_court_machine z2.2, wPL o_pool] H locs := hw
        refine lv_if_eq (tgt := 48) hx hb dX7_setScores_41 (by decide) (fun c => ?_) (fun c => ?_)
        · have h := z_t h c
          refine lv_aload_n hx hb dX7_setScores_48 rfl (lv_at hl 0 rfl) ?_
          refine fgX7_0 hx hb hts hown hK hw 0 rfl kw386 dX7_setScores_49 ?_
          refine xaload_n hx hb dX7_setScores_52 rfl (lv_at hl 2 rfl) ?_
          refine lv_iload_n hx hb dX7_setScores_53 rfl (lv_at hl 3 rfl) ?_
          refine lv_iload_n hx hb dX7_setScores_54 rfl (lv_at hl 1 rfl) ?_
          obtain ⟨z3, ez3, h⟩ := z_bd h
          refine xj_i (xrV (As := [va_rf v2, .int v3, .int v1]) (rest := [.int ((v1 * (7 : Int32)) + v3), .ref (q_me 5)]) ⟨hx, hb, hml, hown, hts⟩ (m_X1_runsBy_Q l dC dI _ h_me_court h_me_court_isles h_me_court_machine h_me_court_isles_now q_me_court k_me_court q_me_court_isles k_me_court_isles q_me_court_isles_now k_me_court_isles_now q_me_court_machine k_me_court_machine o_me_court o_me_court_isles o_me_court_isles_now z2.2 o_pool v2 v3 v1 z3 ez3) kw543 kw957 kw541 kw542 kw117 hd_X1_runsBy ⟨rfl, rfl⟩ rfl rfl ⟨rfl, rfl⟩ hX hK hw [1, 2, 3, 4, 5] (by decide) rfl rfl rfl rfl rfl hl.1 rfl rfl dX7_setScores_55) hw hA [1, 2, 3, 4, 5] (by decide) rfl rfl (fun H locs hw => ?_)
          have hw : Wd dC dI A s.heap [wX7 h_me h_me_court h_me_court_isles q_me k_me o_me, wX1 h_me_court h_me_court_isles h_me_court_machine q_me_court k_me_court o_me_court, wX2 h_me_court_isles h_me_court_isles_now q_me_court_isles k_me_court_isles o_me_court_isles, wX4 h_me_court_isles_now q_me_court_isles_now k_me_court_isles_now o_me_court_isles_now, wX3 h_me_court_machine q_me_court_machine k_me_court_machine z3.2, wPL o_pool] H locs := hw
          exact bk_58_1 (lp_X7_setScores_10 o_me_court o_me_court_isles o_me_court_isles_now o_pool  N) ih v1 v2 v3 z3.1 ((v1 * (7 : Int32)) + v3) o_me z3.2 _ _ _ h hw (lv_sub hl [0, 1, 2, 3] rfl)
        · have h := z_f h c
          refine lv_iconst (v := (-1)) hx hb dX7_setScores_44 (by decide) ?_
          refine lv_goto (tgt := 58) hx hb dX7_setScores_45 (by decide) ?_
          exact bk_58_1 (lp_X7_setScores_10 o_me_court o_me_court_isles o_me_court_isles_now o_pool  N) ih v1 v2 v3 (-1 : Int32) ((v1 * (7 : Int32)) + v3) o_me z2.2 _ _ _ h hw (lv_sub hl [0, 1, 2, 3] rfl)
  unfold f_X7_setScores at h
  refine lv_aload_n hx hb dX7_setScores_0 rfl (lv_at hl 0 rfl) ?_
  refine fgX7_1 hx hb hts hown hK hw 0 rfl kw387 dX7_setScores_1 ?_
  obtain ⟨z1, ez1, h⟩ := z_bd h
  refine xj_q (xrV (As := []) (rest := []) ⟨hx, hb, hml, hown, hts⟩ (m_X2_lawInForce l dC dI _ h_me_court_isles h_me_court_isles_now q_me_court_isles k_me_court_isles o_me_court_isles z1 ez1) kw531 kw955 kw529 kw530 kw115 hd_X2_lawInForce ⟨rfl, rfl⟩ rfl rfl ⟨rfl, rfl⟩ hX hK hw [2] (by decide) rfl rfl rfl rfl rfl hl.1 rfl rfl dX7_setScores_4) hw hA [2] (by decide) rfl rfl (fun H locs hw => ?_)
  have hw : Wd dC dI A s.heap [wX7 h_me h_me_court h_me_court_isles q_me k_me o_me, wX1 h_me_court h_me_court_isles h_me_court_machine q_me_court k_me_court o_me_court, wX2 h_me_court_isles h_me_court_isles_now q_me_court_isles k_me_court_isles o_me_court_isles, wX4 h_me_court_isles_now q_me_court_isles_now k_me_court_isles_now o_me_court_isles_now, wX3 h_me_court_machine q_me_court_machine k_me_court_machine o_me_court_machine, wPL o_pool] H locs := hw
  refine xastore_n (lv' := [(2, va_rf z1), (0, .ref h_me), (1, .int p0)]) hx hb dX7_setScores_7 rfl hl (by decide) rfl (fun ls hl => ?_)
  refine lv_iconst (v := 0) hx hb dX7_setScores_8 (by decide) ?_
  refine lv_istore_n (lv' := [(3, .int (0 : Int32)), (2, va_rf z1), (0, .ref h_me), (1, .int p0)]) hx hb dX7_setScores_9 rfl hl (by decide) (by generalize z1 = r9; cases r9 <;> rfl) (fun ls hl => ?_)
  exact lp_10_0  zfu p0 z1 (0 : Int32) o_me o_me_court_machine _ _ _ h hw (lv_sub hl [2, 3, 1, 0] rfl)

def bk_X7_aheadOf_77 (o_me : Ob) (o_me_court_isles : Ob) (rec_18_0 : Int32 × Int32 × Int32 × Int32 × Int32 → Option (Int32)) (v1 : Int32) (v2 : Int32) (v3 : Int32) (v4 : Int32) (v5 : Int32) : Option (Int32) :=
  zlt (v5 + (1 : Int32)) fun x5 =>
  rec_18_0 (v1, v2, v3, v4, x5)
def bk_X7_aheadOf_68 (o_me : Ob) (o_me_court_isles : Ob) (rec_18_0 : Int32 × Int32 × Int32 × Int32 × Int32 → Option (Int32)) (v1 : Int32) (v2 : Int32) (v3 : Int32) (v4 : Int32) (v5 : Int32) : Option (Int32) :=
  zlt (v4 ||| ((1 : Int32) <<< (v5 &&& 31))) fun x6 =>
  bk_X7_aheadOf_77 o_me o_me_court_isles rec_18_0 v1 v2 v3 x6 v5
def lb_X7_aheadOf_18 (o_me : Ob) (o_me_court_isles : Ob)  (rec_18_0 : Int32 × Int32 × Int32 × Int32 × Int32 → Option (Int32)) (v1 : Int32) (v2 : Int32) (v3 : Int32) (v4 : Int32) (v5 : Int32) : Option (Int32) :=
  if (gI o_me_court_isles 7) ≤ v5 then
  (some v4)
  else
  (zgd (zin ((v2 * (7 : Int32)) + v5) 28) <|
  zlt (gA o_me 5 ((v2 * (7 : Int32)) + v5).toNatClampNeg) fun x4 =>
  if x4 = (-1 : Int32) then
  (bk_X7_aheadOf_77 o_me o_me_court_isles rec_18_0 v1 v2 v3 v4 v5)
  else
  (if v3 < x4 then
  (bk_X7_aheadOf_68 o_me o_me_court_isles rec_18_0 v1 v2 v3 v4 v5)
  else
  (if x4 = v3 then
  (if v1 ≤ v5 then
  (bk_X7_aheadOf_77 o_me o_me_court_isles rec_18_0 v1 v2 v3 v4 v5)
  else
  (bk_X7_aheadOf_68 o_me o_me_court_isles rec_18_0 v1 v2 v3 v4 v5))
  else
  (bk_X7_aheadOf_77 o_me o_me_court_isles rec_18_0 v1 v2 v3 v4 v5))))
def lp_X7_aheadOf_18 (o_me : Ob) (o_me_court_isles : Ob)  : Nat → (Int32 × Int32 × Int32 × Int32 × Int32) → Option (Int32) := zit (fun rec a => lb_X7_aheadOf_18 o_me o_me_court_isles  rec a.1 a.2.1 a.2.2.1 a.2.2.2.1 a.2.2.2.2)
def f_X7_aheadOf (o_me : Ob) (o_me_court_isles : Ob) (p0 : Int32) (p1 : Int32) : Option (Int32) :=
  zgd (zin ((p1 * (7 : Int32)) + p0) 28) <|
  zlt (gA o_me 5 ((p1 * (7 : Int32)) + p0).toNatClampNeg) fun x2 =>
  lp_X7_aheadOf_18 o_me o_me_court_isles  zfu (p0, p1, x2, (0 : Int32), (0 : Int32))
set_option maxHeartbeats 4000000 in
set_option maxRecDepth 100000 in
theorem m_X7_aheadOf (l : Launch) (dC : Nat → ClassId) (dI : Nat → Nat → Nat) (sz : Nat) (h_me : Nat) (h_me_court : Nat) (h_me_court_isles : Nat) (h_me_court_isles_now : Nat) (q_me : Nat → Nat) (k_me : Nat → ClassId) (q_me_court_isles : Nat → Nat) (k_me_court_isles : Nat → ClassId) (o_me : Ob) (o_me_court_isles : Ob) (p0 : Int32) (p1 : Int32) (y : Int32) (h : f_X7_aheadOf o_me o_me_court_isles p0 p1 = some y) : CI l yX7_aheadOf cX7_aheadOf 7 (some .int) ({ frames := 0, cells := 0, slots := 0, locals := 0 } : Room) dC dI sz [.ref h_me, .int p0, .int p1] [wX7 h_me h_me_court h_me_court_isles q_me k_me o_me, wX2 h_me_court_isles h_me_court_isles_now q_me_court_isles k_me_court_isles o_me_court_isles] [tX7 k_me, tX2 k_me_court_isles] y [wX7 h_me h_me_court h_me_court_isles q_me k_me o_me, wX2 h_me_court_isles h_me_court_isles_now q_me_court_isles k_me_court_isles o_me_court_isles] := by
  refine CC_of (by decide) (Nat.le_of_ble_eq_true rfl) ?_
  intro p e s m below meth c A ls hx hb hml hr hlk hnm hown hts hX hK hP hD hA hl
  have hl : lv_has ls 7 [(0, .ref h_me), (1, .int p0), (2, .int p1)] := hl
  have hown : s.vm.findClass RX7 = some m.cls := hown
  have hw : Wd dC dI A s.heap [wX7 h_me h_me_court h_me_court_isles q_me k_me o_me, wX2 h_me_court_isles h_me_court_isles_now q_me_court_isles k_me_court_isles o_me_court_isles] s.heap [] := ⟨hP, hD, va_S.rf⟩
  generalize hQz : (MQ below (QI dC dI (fun r (_ : Unit) => r = y) (fun _ => Jn [wX7 h_me h_me_court h_me_court_isles q_me k_me o_me, wX2 h_me_court_isles h_me_court_isles_now q_me_court_isles k_me_court_isles o_me_court_isles]) (fun _ => Jt [tX7 k_me, tX2 k_me_court_isles]) A) ([.ref h_me, .int p0, .int p1] : List Value).toArray s 0 0 A) = Qz
  clear hP hD hnm
  have bk_77_1 : ∀ (rec_18_0 : Int32 × Int32 × Int32 × Int32 × Int32 → Option (Int32)) (hrec_18_0 : ∀ (v1 : Int32) (v2 : Int32) (v3 : Int32) (v4 : Int32) (v5 : Int32) (H : Heap) (locs : List Loc) (ls : Array Slot), rec_18_0 (v1, v2, v3, v4, v5) = some y → Wd dC dI A s.heap [wX7 h_me h_me_court h_me_court_isles q_me k_me o_me, wX2 h_me_court_isles h_me_court_isles_now q_me_court_isles k_me_court_isles o_me_court_isles] H locs → lv_has ls 7 [(0, .ref h_me), (1, .int v1), (2, .int v2), (3, .int v3), (4, .int v4), (5, .int v5)] → W p l e ({ frames := 0, cells := 0, slots := 0, locals := 0 } : Room) s m ([.ref h_me, .int p0, .int p1] : List Value).toArray below meth c H locs 0 0 Qz (F0 m 18 ls [])), ∀ (v1 : Int32) (v2 : Int32) (v3 : Int32) (v4 : Int32) (v5 : Int32) (H : Heap) (locs : List Loc) (ls : Array Slot), bk_X7_aheadOf_77 o_me o_me_court_isles rec_18_0 v1 v2 v3 v4 v5 = some y → Wd dC dI A s.heap [wX7 h_me h_me_court h_me_court_isles q_me k_me o_me, wX2 h_me_court_isles h_me_court_isles_now q_me_court_isles k_me_court_isles o_me_court_isles] H locs → lv_has ls 7 [(0, .ref h_me), (1, .int v1), (2, .int v2), (3, .int v3), (4, .int v4), (5, .int v5)] → W p l e ({ frames := 0, cells := 0, slots := 0, locals := 0 } : Room) s m ([.ref h_me, .int p0, .int p1] : List Value).toArray below meth c H locs 0 0 Qz (F0 m 77 ls []) := by
    intro rec_18_0 hrec_18_0
    intro v1 v2 v3 v4 v5 H locs ls h hw hl
    unfold bk_X7_aheadOf_77 at h
    obtain ⟨x5, ex5, h⟩ := z_lt h
    refine lv_iinc (v := x5) (lv' := [(5, .int x5), (0, .ref h_me), (1, .int v1), (2, .int v2), (3, .int v3), (4, .int v4)]) hx hb dX7_aheadOf_77 hl (k := 5) rfl ((congrArg (v5 + ·) (show Int32.ofInt 1 = (1 : Int32) from by decide)).trans ex5.symm) (by decide) rfl (fun ls hl => ?_)
    refine lv_goto (tgt := 18) hx hb dX7_aheadOf_80 (by decide) ?_
    exact hrec_18_0 v1 v2 v3 v4 x5 _ _ _ h hw (lv_sub hl [1, 2, 3, 4, 5, 0] rfl)
  have bk_68_2 : ∀ (rec_18_0 : Int32 × Int32 × Int32 × Int32 × Int32 → Option (Int32)) (hrec_18_0 : ∀ (v1 : Int32) (v2 : Int32) (v3 : Int32) (v4 : Int32) (v5 : Int32) (H : Heap) (locs : List Loc) (ls : Array Slot), rec_18_0 (v1, v2, v3, v4, v5) = some y → Wd dC dI A s.heap [wX7 h_me h_me_court h_me_court_isles q_me k_me o_me, wX2 h_me_court_isles h_me_court_isles_now q_me_court_isles k_me_court_isles o_me_court_isles] H locs → lv_has ls 7 [(0, .ref h_me), (1, .int v1), (2, .int v2), (3, .int v3), (4, .int v4), (5, .int v5)] → W p l e ({ frames := 0, cells := 0, slots := 0, locals := 0 } : Room) s m ([.ref h_me, .int p0, .int p1] : List Value).toArray below meth c H locs 0 0 Qz (F0 m 18 ls [])), ∀ (v1 : Int32) (v2 : Int32) (v3 : Int32) (v4 : Int32) (v5 : Int32) (H : Heap) (locs : List Loc) (ls : Array Slot), bk_X7_aheadOf_68 o_me o_me_court_isles rec_18_0 v1 v2 v3 v4 v5 = some y → Wd dC dI A s.heap [wX7 h_me h_me_court h_me_court_isles q_me k_me o_me, wX2 h_me_court_isles h_me_court_isles_now q_me_court_isles k_me_court_isles o_me_court_isles] H locs → lv_has ls 7 [(0, .ref h_me), (1, .int v1), (2, .int v2), (3, .int v3), (4, .int v4), (5, .int v5)] → W p l e ({ frames := 0, cells := 0, slots := 0, locals := 0 } : Room) s m ([.ref h_me, .int p0, .int p1] : List Value).toArray below meth c H locs 0 0 Qz (F0 m 68 ls []) := by
    intro rec_18_0 hrec_18_0
    intro v1 v2 v3 v4 v5 H locs ls h hw hl
    unfold bk_X7_aheadOf_68 at h
    refine lv_iload hx hb dX7_aheadOf_68 (lv_at hl 4 rfl) ?_
    refine lv_iconst (v := 1) hx hb dX7_aheadOf_70 (by decide) ?_
    refine lv_iload hx hb dX7_aheadOf_71 (lv_at hl 5 rfl) ?_
    refine lv_ishl hx hb dX7_aheadOf_73 ?_
    refine lv_ior hx hb dX7_aheadOf_74 ?_
    obtain ⟨x6, ex6, h⟩ := z_lt h
    refine lv_fi (v := x6) ex6.symm ?_
    refine lv_istore (lv' := [(4, .int x6), (0, .ref h_me), (1, .int v1), (2, .int v2), (3, .int v3), (5, .int v5)]) hx hb dX7_aheadOf_75 hl (by decide) rfl (fun ls hl => ?_)
    exact bk_77_1 rec_18_0 hrec_18_0 v1 v2 v3 x6 v5 _ _ _ h hw (lv_sub hl [1, 2, 3, 4, 0, 5] rfl)
  have lp_18_0 : ∀ (N : Nat), ∀ (v1 : Int32) (v2 : Int32) (v3 : Int32) (v4 : Int32) (v5 : Int32) (H : Heap) (locs : List Loc) (ls : Array Slot), lp_X7_aheadOf_18 o_me o_me_court_isles  N (v1, v2, v3, v4, v5) = some y → Wd dC dI A s.heap [wX7 h_me h_me_court h_me_court_isles q_me k_me o_me, wX2 h_me_court_isles h_me_court_isles_now q_me_court_isles k_me_court_isles o_me_court_isles] H locs → lv_has ls 7 [(0, .ref h_me), (1, .int v1), (2, .int v2), (3, .int v3), (4, .int v4), (5, .int v5)] → W p l e ({ frames := 0, cells := 0, slots := 0, locals := 0 } : Room) s m ([.ref h_me, .int p0, .int p1] : List Value).toArray below meth c H locs 0 0 Qz (F0 m 18 ls []) := by
    intro N
    induction N with
    | zero =>
      intro v1 v2 v3 v4 v5 H locs ls h hw hl
      exact absurd (show (none : Option (Int32)) = some y from h) (by simp)
    | succ N ih =>
      intro v1 v2 v3 v4 v5 H locs ls h hw hl
      have h : lb_X7_aheadOf_18 o_me o_me_court_isles  (lp_X7_aheadOf_18 o_me o_me_court_isles  N) v1 v2 v3 v4 v5 = some y := h
      unfold lb_X7_aheadOf_18 at h
      refine lv_iload hx hb dX7_aheadOf_18 (lv_at hl 5 rfl) ?_
      refine lv_aload_n hx hb dX7_aheadOf_20 rfl (lv_at hl 0 rfl) ?_
      refine fgX7_1 hx hb hts hown hK hw 0 rfl kw387 dX7_aheadOf_21 ?_
      refine fgX2_7 hx hb hts hown hK hw 1 rfl kw316 dX7_aheadOf_24 ?_
      refine lv_icmp_ge (tgt := 83) hx hb dX7_aheadOf_27 (by decide) (fun c => ?_) (fun c => ?_)
      · have h := z_t h c
        refine lv_iload hx hb dX7_aheadOf_83 (lv_at hl 4 rfl) ?_
        have hy := Option.some.inj h
        rw [← hQz, ← hy]
        exact xr_i (v := v4) hx hb hr rfl hlk hK hw dX7_aheadOf_85
      · have h := z_f h c
        refine lv_aload_n hx hb dX7_aheadOf_30 rfl (lv_at hl 0 rfl) ?_
        refine fgX7_5 hx hb hts hown hK hw 0 rfl kw392 dX7_aheadOf_31 ?_
        refine lv_iload_n hx hb dX7_aheadOf_34 rfl (lv_at hl 2 rfl) ?_
        refine lv_bipush (v := 7) hx hb dX7_aheadOf_35 (by decide) ?_
        refine lv_imul hx hb dX7_aheadOf_37 ?_
        refine lv_iload hx hb dX7_aheadOf_38 (lv_at hl 5 rfl) ?_
        refine lv_iadd hx hb dX7_aheadOf_40 ?_
        obtain ⟨g3, h⟩ := z_gd h
        refine faX7_5 hx hb hK hw 0 rfl rfl g3 dX7_aheadOf_41 ?_
        obtain ⟨x4, ex4, h⟩ := z_lt h
        refine lv_fi (v := x4) ex4.symm ?_
        refine lv_istore (lv' := [(6, .int x4), (0, .ref h_me), (1, .int v1), (2, .int v2), (3, .int v3), (4, .int v4), (5, .int v5)]) hx hb dX7_aheadOf_42 hl (by decide) rfl (fun ls hl => ?_)
        refine lv_iload hx hb dX7_aheadOf_44 (lv_at hl 0 rfl) ?_
        refine lv_iconst (v := (-1)) hx hb dX7_aheadOf_46 (by decide) ?_
        refine lv_icmp_eq (tgt := 77) hx hb dX7_aheadOf_47 (by decide) (fun c => ?_) (fun c => ?_)
        · have h := z_t h c
          exact bk_77_1 (lp_X7_aheadOf_18 o_me o_me_court_isles  N) ih v1 v2 v3 v4 v5 _ _ _ h hw (lv_sub hl [1, 2, 3, 4, 5, 6] rfl)
        · have h := z_f h c
          refine lv_iload hx hb dX7_aheadOf_50 (lv_at hl 0 rfl) ?_
          refine lv_iload_n hx hb dX7_aheadOf_52 rfl (lv_at hl 4 rfl) ?_
          refine lv_icmp_gt (tgt := 68) hx hb dX7_aheadOf_53 (by decide) (fun c => ?_) (fun c => ?_)
          · have h := z_t h c
            exact bk_68_2 (lp_X7_aheadOf_18 o_me o_me_court_isles  N) ih v1 v2 v3 v4 v5 _ _ _ h hw (lv_sub hl [1, 2, 3, 4, 5, 6] rfl)
          · have h := z_f h c
            refine lv_iload hx hb dX7_aheadOf_56 (lv_at hl 0 rfl) ?_
            refine lv_iload_n hx hb dX7_aheadOf_58 rfl (lv_at hl 4 rfl) ?_
            refine lv_icmp_ne (tgt := 77) hx hb dX7_aheadOf_59 (by decide) (fun c => ?_) (fun c => ?_)
            · have h := z_f h c
              exact bk_77_1 (lp_X7_aheadOf_18 o_me o_me_court_isles  N) ih v1 v2 v3 v4 v5 _ _ _ h hw (lv_sub hl [1, 2, 3, 4, 5, 6] rfl)
            · have h := z_t h c
              refine lv_iload hx hb dX7_aheadOf_62 (lv_at hl 6 rfl) ?_
              refine lv_iload_n hx hb dX7_aheadOf_64 rfl (lv_at hl 2 rfl) ?_
              refine lv_icmp_ge (tgt := 77) hx hb dX7_aheadOf_65 (by decide) (fun c => ?_) (fun c => ?_)
              · have h := z_t h c
                exact bk_77_1 (lp_X7_aheadOf_18 o_me o_me_court_isles  N) ih v1 v2 v3 v4 v5 _ _ _ h hw (lv_sub hl [1, 2, 3, 4, 5, 6] rfl)
              · have h := z_f h c
                exact bk_68_2 (lp_X7_aheadOf_18 o_me o_me_court_isles  N) ih v1 v2 v3 v4 v5 _ _ _ h hw (lv_sub hl [1, 2, 3, 4, 5, 6] rfl)
  unfold f_X7_aheadOf at h
  refine lv_aload_n hx hb dX7_aheadOf_0 rfl (lv_at hl 0 rfl) ?_
  refine fgX7_5 hx hb hts hown hK hw 0 rfl kw392 dX7_aheadOf_1 ?_
  refine lv_iload_n hx hb dX7_aheadOf_4 rfl (lv_at hl 2 rfl) ?_
  refine lv_bipush (v := 7) hx hb dX7_aheadOf_5 (by decide) ?_
  refine lv_imul hx hb dX7_aheadOf_7 ?_
  refine lv_iload_n hx hb dX7_aheadOf_8 rfl (lv_at hl 1 rfl) ?_
  refine lv_iadd hx hb dX7_aheadOf_9 ?_
  obtain ⟨g1, h⟩ := z_gd h
  refine faX7_5 hx hb hK hw 0 rfl rfl g1 dX7_aheadOf_10 ?_
  obtain ⟨x2, ex2, h⟩ := z_lt h
  refine lv_fi (v := x2) ex2.symm ?_
  refine lv_istore_n (lv' := [(3, .int x2), (0, .ref h_me), (1, .int p0), (2, .int p1)]) hx hb dX7_aheadOf_11 rfl hl (by decide) rfl (fun ls hl => ?_)
  refine lv_iconst (v := 0) hx hb dX7_aheadOf_12 (by decide) ?_
  refine lv_istore (lv' := [(4, .int (0 : Int32)), (3, .int x2), (0, .ref h_me), (1, .int p0), (2, .int p1)]) hx hb dX7_aheadOf_13 hl (by decide) rfl (fun ls hl => ?_)
  refine lv_iconst (v := 0) hx hb dX7_aheadOf_15 (by decide) ?_
  refine lv_istore (lv' := [(5, .int (0 : Int32)), (4, .int (0 : Int32)), (3, .int x2), (0, .ref h_me), (1, .int p0), (2, .int p1)]) hx hb dX7_aheadOf_16 hl (by decide) rfl (fun ls hl => ?_)
  exact lp_18_0  zfu p0 p1 x2 (0 : Int32) (0 : Int32) _ _ _ h hw (lv_sub hl [3, 4, 5, 2, 1, 0] rfl)

def f_J6_bitCount_0f7a4 (p0 : Int32) : Option (Int32) :=
  zlt (p0 - (((p0.toUInt32 >>> ((1 : Int32).toUInt32 &&& Int32.toUInt32 31)).toInt32) &&& (1431655765 : Int32))) fun x1 =>
  zlt ((x1 &&& (858993459 : Int32)) + (((x1.toUInt32 >>> ((2 : Int32).toUInt32 &&& Int32.toUInt32 31)).toInt32) &&& (858993459 : Int32))) fun x2 =>
  zlt ((x2 + ((x2.toUInt32 >>> ((4 : Int32).toUInt32 &&& Int32.toUInt32 31)).toInt32)) &&& (252645135 : Int32)) fun x3 =>
  zlt (x3 + ((x3.toUInt32 >>> ((8 : Int32).toUInt32 &&& Int32.toUInt32 31)).toInt32)) fun x4 =>
  zlt (x4 + ((x4.toUInt32 >>> ((16 : Int32).toUInt32 &&& Int32.toUInt32 31)).toInt32)) fun x5 =>
  some (x5 &&& (63 : Int32))
set_option maxHeartbeats 4000000 in
set_option maxRecDepth 100000 in
theorem m_J6_bitCount_0f7a4 (l : Launch) (dC : Nat → ClassId) (dI : Nat → Nat → Nat) (sz : Nat)  (p0 : Int32) (y : Int32) (h : f_J6_bitCount_0f7a4 p0 = some y) : CI l yJ6_bitCount_0f7a4 cJ6_bitCount_0f7a4 1 (some .int) ({ frames := 0, cells := 0, slots := 0, locals := 0 } : Room) dC dI sz [.int p0] [] [] y [] := by
  refine CC_of (by decide) (Nat.le_of_ble_eq_true rfl) ?_
  intro p e s m below meth c A ls hx hb hml hr hlk hnm hown hts hX hK hP hD hA hl
  have hl : lv_has ls 1 [(0, .int p0)] := hl
  have hown : s.vm.findClass RJ6 = some m.cls := hown
  have hw : Wd dC dI A s.heap [] s.heap [] := ⟨hP, hD, va_S.rf⟩
  generalize hQz : (MQ below (QI dC dI (fun r (_ : Unit) => r = y) (fun _ => Jn []) (fun _ => Jt []) A) ([.int p0] : List Value).toArray s 0 0 A) = Qz
  clear hP hD hnm
  unfold f_J6_bitCount_0f7a4 at h
  refine lv_iload_n hx hb dJ6_bitCount_0f7a4_0 rfl (lv_at hl 0 rfl) ?_
  refine lv_iload_n hx hb dJ6_bitCount_0f7a4_1 rfl (lv_at hl 0 rfl) ?_
  refine lv_iconst (v := 1) hx hb dJ6_bitCount_0f7a4_2 (by decide) ?_
  refine lv_iushr (v := _) hx hb dJ6_bitCount_0f7a4_3 rfl ?_
  refine lv_ldcw (v := 1431655765) hx hb hown (hts _ kw843) dJ6_bitCount_0f7a4_4 ?_
  refine lv_iand hx hb dJ6_bitCount_0f7a4_7 ?_
  refine lv_isub hx hb dJ6_bitCount_0f7a4_8 ?_
  obtain ⟨x1, ex1, h⟩ := z_lt h
  refine lv_fi (v := x1) ex1.symm ?_
  refine lv_istore_n (lv' := [(0, .int x1)]) hx hb dJ6_bitCount_0f7a4_9 rfl hl (by decide) rfl (fun ls hl => ?_)
  refine lv_iload_n hx hb dJ6_bitCount_0f7a4_10 rfl (lv_at hl 0 rfl) ?_
  refine lv_ldcw (v := 858993459) hx hb hown (hts _ kw844) dJ6_bitCount_0f7a4_11 ?_
  refine lv_iand hx hb dJ6_bitCount_0f7a4_14 ?_
  refine lv_iload_n hx hb dJ6_bitCount_0f7a4_15 rfl (lv_at hl 0 rfl) ?_
  refine lv_iconst (v := 2) hx hb dJ6_bitCount_0f7a4_16 (by decide) ?_
  refine lv_iushr (v := _) hx hb dJ6_bitCount_0f7a4_17 rfl ?_
  refine lv_ldcw (v := 858993459) hx hb hown (hts _ kw844) dJ6_bitCount_0f7a4_18 ?_
  refine lv_iand hx hb dJ6_bitCount_0f7a4_21 ?_
  refine lv_iadd hx hb dJ6_bitCount_0f7a4_22 ?_
  obtain ⟨x2, ex2, h⟩ := z_lt h
  refine lv_fi (v := x2) ex2.symm ?_
  refine lv_istore_n (lv' := [(0, .int x2)]) hx hb dJ6_bitCount_0f7a4_23 rfl hl (by decide) rfl (fun ls hl => ?_)
  refine lv_iload_n hx hb dJ6_bitCount_0f7a4_24 rfl (lv_at hl 0 rfl) ?_
  refine lv_iload_n hx hb dJ6_bitCount_0f7a4_25 rfl (lv_at hl 0 rfl) ?_
  refine lv_iconst (v := 4) hx hb dJ6_bitCount_0f7a4_26 (by decide) ?_
  refine lv_iushr (v := _) hx hb dJ6_bitCount_0f7a4_27 rfl ?_
  refine lv_iadd hx hb dJ6_bitCount_0f7a4_28 ?_
  refine lv_ldcw (v := 252645135) hx hb hown (hts _ kw845) dJ6_bitCount_0f7a4_29 ?_
  refine lv_iand hx hb dJ6_bitCount_0f7a4_32 ?_
  obtain ⟨x3, ex3, h⟩ := z_lt h
  refine lv_fi (v := x3) ex3.symm ?_
  refine lv_istore_n (lv' := [(0, .int x3)]) hx hb dJ6_bitCount_0f7a4_33 rfl hl (by decide) rfl (fun ls hl => ?_)
  refine lv_iload_n hx hb dJ6_bitCount_0f7a4_34 rfl (lv_at hl 0 rfl) ?_
  refine lv_iload_n hx hb dJ6_bitCount_0f7a4_35 rfl (lv_at hl 0 rfl) ?_
  refine lv_bipush (v := 8) hx hb dJ6_bitCount_0f7a4_36 (by decide) ?_
  refine lv_iushr (v := _) hx hb dJ6_bitCount_0f7a4_38 rfl ?_
  refine lv_iadd hx hb dJ6_bitCount_0f7a4_39 ?_
  obtain ⟨x4, ex4, h⟩ := z_lt h
  refine lv_fi (v := x4) ex4.symm ?_
  refine lv_istore_n (lv' := [(0, .int x4)]) hx hb dJ6_bitCount_0f7a4_40 rfl hl (by decide) rfl (fun ls hl => ?_)
  refine lv_iload_n hx hb dJ6_bitCount_0f7a4_41 rfl (lv_at hl 0 rfl) ?_
  refine lv_iload_n hx hb dJ6_bitCount_0f7a4_42 rfl (lv_at hl 0 rfl) ?_
  refine lv_bipush (v := 16) hx hb dJ6_bitCount_0f7a4_43 (by decide) ?_
  refine lv_iushr (v := _) hx hb dJ6_bitCount_0f7a4_45 rfl ?_
  refine lv_iadd hx hb dJ6_bitCount_0f7a4_46 ?_
  obtain ⟨x5, ex5, h⟩ := z_lt h
  refine lv_fi (v := x5) ex5.symm ?_
  refine lv_istore_n (lv' := [(0, .int x5)]) hx hb dJ6_bitCount_0f7a4_47 rfl hl (by decide) rfl (fun ls hl => ?_)
  refine lv_iload_n hx hb dJ6_bitCount_0f7a4_48 rfl (lv_at hl 0 rfl) ?_
  refine lv_bipush (v := 63) hx hb dJ6_bitCount_0f7a4_49 (by decide) ?_
  refine lv_iand hx hb dJ6_bitCount_0f7a4_51 ?_
  have hy := Option.some.inj h
  rw [← hQz, ← hy]
  exact xr_i (v := x5 &&& (63 : Int32)) hx hb hr rfl hlk hK hw dJ6_bitCount_0f7a4_52

def lb_X7_lowestBits_7   (rec_7_0 : Int32 × Int32 × Int32 × Int32 → Option (Int32)) (v1 : Int32) (v2 : Int32) (v3 : Int32) (v4 : Int32) : Option (Int32) :=
  if v1 ≤ v4 then
  (some v2)
  else
  (if v3 = (0 : Int32) then
  (some (-1 : Int32))
  else
  (zlt (v2 ||| (v3 &&& (-v3))) fun x1 =>
  zlt (v3 &&& (v3 - (1 : Int32))) fun x2 =>
  zlt (v4 + (1 : Int32)) fun x3 =>
  rec_7_0 (v1, x1, x2, x3)))
def lp_X7_lowestBits_7   : Nat → (Int32 × Int32 × Int32 × Int32) → Option (Int32) := zit (fun rec a => lb_X7_lowestBits_7   rec a.1 a.2.1 a.2.2.1 a.2.2.2)
def f_X7_lowestBits (p0 : Int32) (p1 : Int32) : Option (Int32) :=
  lp_X7_lowestBits_7   zfu (p1, (0 : Int32), p0, (0 : Int32))
set_option maxHeartbeats 4000000 in
set_option maxRecDepth 100000 in
theorem m_X7_lowestBits (l : Launch) (dC : Nat → ClassId) (dI : Nat → Nat → Nat) (sz : Nat)  (p0 : Int32) (p1 : Int32) (y : Int32) (h : f_X7_lowestBits p0 p1 = some y) : CI l yX7_lowestBits cX7_lowestBits 5 (some .int) ({ frames := 0, cells := 0, slots := 0, locals := 0 } : Room) dC dI sz [.int p0, .int p1] [] [] y [] := by
  refine CC_of (by decide) (Nat.le_of_ble_eq_true rfl) ?_
  intro p e s m below meth c A ls hx hb hml hr hlk hnm hown hts hX hK hP hD hA hl
  have hl : lv_has ls 5 [(0, .int p0), (1, .int p1)] := hl
  have hown : s.vm.findClass RX7 = some m.cls := hown
  have hw : Wd dC dI A s.heap [] s.heap [] := ⟨hP, hD, va_S.rf⟩
  generalize hQz : (MQ below (QI dC dI (fun r (_ : Unit) => r = y) (fun _ => Jn []) (fun _ => Jt []) A) ([.int p0, .int p1] : List Value).toArray s 0 0 A) = Qz
  clear hP hD hnm
  have lp_7_0 : ∀ (N : Nat), ∀ (v1 : Int32) (v2 : Int32) (v3 : Int32) (v4 : Int32) (H : Heap) (locs : List Loc) (ls : Array Slot), lp_X7_lowestBits_7   N (v1, v2, v3, v4) = some y → Wd dC dI A s.heap [] H locs → lv_has ls 5 [(1, .int v1), (2, .int v2), (3, .int v3), (4, .int v4)] → W p l e ({ frames := 0, cells := 0, slots := 0, locals := 0 } : Room) s m ([.int p0, .int p1] : List Value).toArray below meth c H locs 0 0 Qz (F0 m 7 ls []) := by
    intro N
    induction N with
    | zero =>
      intro v1 v2 v3 v4 H locs ls h hw hl
      exact absurd (show (none : Option (Int32)) = some y from h) (by simp)
    | succ N ih =>
      intro v1 v2 v3 v4 H locs ls h hw hl
      have h : lb_X7_lowestBits_7   (lp_X7_lowestBits_7   N) v1 v2 v3 v4 = some y := h
      unfold lb_X7_lowestBits_7 at h
      refine lv_iload hx hb dX7_lowestBits_7 (lv_at hl 3 rfl) ?_
      refine lv_iload_n hx hb dX7_lowestBits_9 rfl (lv_at hl 0 rfl) ?_
      refine lv_icmp_ge (tgt := 38) hx hb dX7_lowestBits_10 (by decide) (fun c => ?_) (fun c => ?_)
      · have h := z_t h c
        refine lv_iload_n hx hb dX7_lowestBits_38 rfl (lv_at hl 1 rfl) ?_
        have hy := Option.some.inj h
        rw [← hQz, ← hy]
        exact xr_i (v := v2) hx hb hr rfl hlk hK hw dX7_lowestBits_39
      · have h := z_f h c
        refine lv_iload_n hx hb dX7_lowestBits_13 rfl (lv_at hl 2 rfl) ?_
        refine lv_if_ne (tgt := 19) hx hb dX7_lowestBits_14 (by decide) (fun c => ?_) (fun c => ?_)
        · have h := z_f h c
          refine lv_iload_n hx hb dX7_lowestBits_19 rfl (lv_at hl 1 rfl) ?_
          refine lv_iload_n hx hb dX7_lowestBits_20 rfl (lv_at hl 2 rfl) ?_
          refine lv_iload_n hx hb dX7_lowestBits_21 rfl (lv_at hl 2 rfl) ?_
          refine lv_ineg hx hb dX7_lowestBits_22 ?_
          refine lv_iand hx hb dX7_lowestBits_23 ?_
          refine lv_ior hx hb dX7_lowestBits_24 ?_
          obtain ⟨x1, ex1, h⟩ := z_lt h
          refine lv_fi (v := x1) ex1.symm ?_
          refine lv_istore_n (lv' := [(2, .int x1), (1, .int v1), (3, .int v3), (4, .int v4)]) hx hb dX7_lowestBits_25 rfl hl (by decide) rfl (fun ls hl => ?_)
          refine lv_iload_n hx hb dX7_lowestBits_26 rfl (lv_at hl 2 rfl) ?_
          refine lv_iload_n hx hb dX7_lowestBits_27 rfl (lv_at hl 2 rfl) ?_
          refine lv_iconst (v := 1) hx hb dX7_lowestBits_28 (by decide) ?_
          refine lv_isub hx hb dX7_lowestBits_29 ?_
          refine lv_iand hx hb dX7_lowestBits_30 ?_
          obtain ⟨x2, ex2, h⟩ := z_lt h
          refine lv_fi (v := x2) ex2.symm ?_
          refine lv_istore_n (lv' := [(3, .int x2), (2, .int x1), (1, .int v1), (4, .int v4)]) hx hb dX7_lowestBits_31 rfl hl (by decide) rfl (fun ls hl => ?_)
          obtain ⟨x3, ex3, h⟩ := z_lt h
          refine lv_iinc (v := x3) (lv' := [(4, .int x3), (3, .int x2), (2, .int x1), (1, .int v1)]) hx hb dX7_lowestBits_32 hl (k := 3) rfl ((congrArg (v4 + ·) (show Int32.ofInt 1 = (1 : Int32) from by decide)).trans ex3.symm) (by decide) rfl (fun ls hl => ?_)
          refine lv_goto (tgt := 7) hx hb dX7_lowestBits_35 (by decide) ?_
          exact ih v1 x1 x2 x3 _ _ _ h hw (lv_sub hl [3, 2, 1, 0] rfl)
        · have h := z_t h c
          refine lv_iconst (v := (-1)) hx hb dX7_lowestBits_17 (by decide) ?_
          have hy := Option.some.inj h
          rw [← hQz, ← hy]
          exact xr_i (v := (-1 : Int32)) hx hb hr rfl hlk hK hw dX7_lowestBits_18
  unfold f_X7_lowestBits at h
  refine lv_iconst (v := 0) hx hb dX7_lowestBits_0 (by decide) ?_
  refine lv_istore_n (lv' := [(2, .int (0 : Int32)), (0, .int p0), (1, .int p1)]) hx hb dX7_lowestBits_1 rfl hl (by decide) rfl (fun ls hl => ?_)
  refine lv_iload_n hx hb dX7_lowestBits_2 rfl (lv_at hl 1 rfl) ?_
  refine lv_istore_n (lv' := [(3, .int p0), (2, .int (0 : Int32)), (0, .int p0), (1, .int p1)]) hx hb dX7_lowestBits_3 rfl hl (by decide) rfl (fun ls hl => ?_)
  refine lv_iconst (v := 0) hx hb dX7_lowestBits_4 (by decide) ?_
  refine lv_istore (lv' := [(4, .int (0 : Int32)), (3, .int p0), (2, .int (0 : Int32)), (0, .int p0), (1, .int p1)]) hx hb dX7_lowestBits_5 hl (by decide) rfl (fun ls hl => ?_)
  exact lp_7_0  zfu p1 (0 : Int32) p0 (0 : Int32) _ _ _ h hw (lv_sub hl [4, 2, 1, 0] rfl)

def f_X7_changedEntries (o_me : Ob) (o_me_court : Ob) (o_me_court_isles : Ob) (o_me_court_isles_now : Ob) (o_me_court_machine : Ob) (o_pool : List CR) (p0 : Int32) (p1 : Int32) (p2 : Int32) : Option (Int32 × Ob × Ob) :=
  (f_X7_setScores o_me o_me_court o_me_court_isles o_me_court_isles_now o_me_court_machine o_pool p1).bind fun z1 =>
  zgd (zin ((p1 * (7 : Int32)) + p0) 28) <|
  if (gA z1.1 5 ((p1 * (7 : Int32)) + p0).toNatClampNeg) = (-1 : Int32) then
  (some ((-1 : Int32), z1.1, z1.2))
  else
  ((f_X7_aheadOf z1.1 o_me_court_isles p0 p1).bind fun z3 =>
  zlt (z3 &&& (gI o_me_court_isles_now 2)) fun x4 =>
  (f_J6_bitCount_0f7a4 x4).bind fun z5 =>
  zlt (z5 - (p2 - (1 : Int32))) fun x6 =>
  if x6 < (0 : Int32) then
  ((f_X7_lowestBits (z3 &&& ((gI o_me_court_isles_now 2) ^^^ (-1 : Int32))) (-x6)).bind fun z7 =>
  some (z7, z1.1, z1.2))
  else
  ((f_X7_lowestBits x4 x6).bind fun z8 =>
  some (z8, z1.1, z1.2)))
set_option maxHeartbeats 4000000 in
set_option maxRecDepth 100000 in
theorem m_X7_changedEntries (l : Launch) (dC : Nat → ClassId) (dI : Nat → Nat → Nat) (sz : Nat) (h_me : Nat) (h_me_court : Nat) (h_me_court_isles : Nat) (h_me_court_machine : Nat) (h_me_court_isles_now : Nat) (q_me : Nat → Nat) (k_me : Nat → ClassId) (q_me_court : Nat → Nat) (k_me_court : Nat → ClassId) (q_me_court_isles : Nat → Nat) (k_me_court_isles : Nat → ClassId) (q_me_court_isles_now : Nat → Nat) (k_me_court_isles_now : Nat → ClassId) (q_me_court_machine : Nat → Nat) (k_me_court_machine : Nat → ClassId) (o_me : Ob) (o_me_court : Ob) (o_me_court_isles : Ob) (o_me_court_isles_now : Ob) (o_me_court_machine : Ob) (o_pool : List CR) (p0 : Int32) (p1 : Int32) (p2 : Int32) (y : Int32 × Ob × Ob) (h : f_X7_changedEntries o_me o_me_court o_me_court_isles o_me_court_isles_now o_me_court_machine o_pool p0 p1 p2 = some y) : CI l yX7_changedEntries cX7_changedEntries 7 (some .int) ({ frames := 5, cells := 0, slots := 0, locals := 132 } : Room) dC dI sz [.ref h_me, .int p0, .int p1, .int p2] [wX7 h_me h_me_court h_me_court_isles q_me k_me o_me, wX1 h_me_court h_me_court_isles h_me_court_machine q_me_court k_me_court o_me_court, wX2 h_me_court_isles h_me_court_isles_now q_me_court_isles k_me_court_isles o_me_court_isles, wX4 h_me_court_isles_now q_me_court_isles_now k_me_court_isles_now o_me_court_isles_now, wX3 h_me_court_machine q_me_court_machine k_me_court_machine o_me_court_machine, wPL o_pool] [tX7 k_me, tX1 k_me_court, tX2 k_me_court_isles, tX4 k_me_court_isles_now, tX3 k_me_court_machine, tPL o_pool] y.1 [wX7 h_me h_me_court h_me_court_isles q_me k_me y.2.1, wX1 h_me_court h_me_court_isles h_me_court_machine q_me_court k_me_court o_me_court, wX2 h_me_court_isles h_me_court_isles_now q_me_court_isles k_me_court_isles o_me_court_isles, wX4 h_me_court_isles_now q_me_court_isles_now k_me_court_isles_now o_me_court_isles_now, wX3 h_me_court_machine q_me_court_machine k_me_court_machine y.2.2, wPL o_pool] := by
  refine CC_of (by decide) (Nat.le_of_ble_eq_true rfl) ?_
  intro p e s m below meth c A ls hx hb hml hr hlk hnm hown hts hX hK hP hD hA hl
  have hl : lv_has ls 7 [(0, .ref h_me), (1, .int p0), (2, .int p1), (3, .int p2)] := hl
  have hown : s.vm.findClass RX7 = some m.cls := hown
  have hw : Wd dC dI A s.heap [wX7 h_me h_me_court h_me_court_isles q_me k_me o_me, wX1 h_me_court h_me_court_isles h_me_court_machine q_me_court k_me_court o_me_court, wX2 h_me_court_isles h_me_court_isles_now q_me_court_isles k_me_court_isles o_me_court_isles, wX4 h_me_court_isles_now q_me_court_isles_now k_me_court_isles_now o_me_court_isles_now, wX3 h_me_court_machine q_me_court_machine k_me_court_machine o_me_court_machine, wPL o_pool] s.heap [] := ⟨hP, hD, va_S.rf⟩
  generalize hQz : (MQ below (QI dC dI (fun r (_ : Unit) => r = y.1) (fun _ => Jn [wX7 h_me h_me_court h_me_court_isles q_me k_me y.2.1, wX1 h_me_court h_me_court_isles h_me_court_machine q_me_court k_me_court o_me_court, wX2 h_me_court_isles h_me_court_isles_now q_me_court_isles k_me_court_isles o_me_court_isles, wX4 h_me_court_isles_now q_me_court_isles_now k_me_court_isles_now o_me_court_isles_now, wX3 h_me_court_machine q_me_court_machine k_me_court_machine y.2.2, wPL o_pool]) (fun _ => Jt [tX7 k_me, tX1 k_me_court, tX2 k_me_court_isles, tX4 k_me_court_isles_now, tX3 k_me_court_machine, tPL o_pool]) A) ([.ref h_me, .int p0, .int p1, .int p2] : List Value).toArray s 0 0 A) = Qz
  clear hP hD hnm
  unfold f_X7_changedEntries at h
  refine lv_aload_n hx hb dX7_changedEntries_0 rfl (lv_at hl 0 rfl) ?_
  refine lv_iload_n hx hb dX7_changedEntries_1 rfl (lv_at hl 2 rfl) ?_
  obtain ⟨z1, ez1, h⟩ := z_bd h
  refine xj_v (xrV (As := [.int p1]) (rest := []) ⟨hx, hb, hml, hown, hts⟩ (m_X7_setScores l dC dI _ h_me h_me_court h_me_court_isles h_me_court_machine h_me_court_isles_now q_me k_me q_me_court k_me_court q_me_court_isles k_me_court_isles q_me_court_isles_now k_me_court_isles_now q_me_court_machine k_me_court_machine o_me o_me_court o_me_court_isles o_me_court_isles_now o_me_court_machine o_pool p1 z1 ez1) kw954 kw951 kw953 kw27 kw118 hd_X7_setScores ⟨rfl, rfl⟩ rfl rfl ⟨rfl, rfl⟩ hX hK hw [0, 1, 2, 3, 4, 5] (by decide) rfl rfl rfl rfl rfl hl.1 rfl rfl dX7_changedEntries_2) hw hA [0, 1, 2, 3, 4, 5] (by decide) rfl rfl (fun H locs hw => ?_)
  have hw : Wd dC dI A s.heap [wX7 h_me h_me_court h_me_court_isles q_me k_me z1.1, wX1 h_me_court h_me_court_isles h_me_court_machine q_me_court k_me_court o_me_court, wX2 h_me_court_isles h_me_court_isles_now q_me_court_isles k_me_court_isles o_me_court_isles, wX4 h_me_court_isles_now q_me_court_isles_now k_me_court_isles_now o_me_court_isles_now, wX3 h_me_court_machine q_me_court_machine k_me_court_machine z1.2, wPL o_pool] H locs := hw
  refine lv_aload_n hx hb dX7_changedEntries_5 rfl (lv_at hl 0 rfl) ?_
  refine fgX7_5 hx hb hts hown hK hw 0 rfl kw392 dX7_changedEntries_6 ?_
  refine lv_iload_n hx hb dX7_changedEntries_9 rfl (lv_at hl 2 rfl) ?_
  refine lv_bipush (v := 7) hx hb dX7_changedEntries_10 (by decide) ?_
  refine lv_imul hx hb dX7_changedEntries_12 ?_
  refine lv_iload_n hx hb dX7_changedEntries_13 rfl (lv_at hl 1 rfl) ?_
  refine lv_iadd hx hb dX7_changedEntries_14 ?_
  obtain ⟨g2, h⟩ := z_gd h
  refine faX7_5 hx hb hK hw 0 rfl rfl g2 dX7_changedEntries_15 ?_
  refine lv_iconst (v := (-1)) hx hb dX7_changedEntries_16 (by decide) ?_
  refine lv_icmp_ne (tgt := 22) hx hb dX7_changedEntries_17 (by decide) (fun c => ?_) (fun c => ?_)
  · have h := z_f h c
    refine lv_aload_n hx hb dX7_changedEntries_22 rfl (lv_at hl 0 rfl) ?_
    refine lv_iload_n hx hb dX7_changedEntries_23 rfl (lv_at hl 1 rfl) ?_
    refine lv_iload_n hx hb dX7_changedEntries_24 rfl (lv_at hl 2 rfl) ?_
    obtain ⟨z3, ez3, h⟩ := z_bd h
    refine xj_i (xrV (As := [.int p0, .int p1]) (rest := []) ⟨hx, hb, hml, hown, hts⟩ (m_X7_aheadOf l dC dI _ h_me h_me_court h_me_court_isles h_me_court_isles_now q_me k_me q_me_court_isles k_me_court_isles z1.1 o_me_court_isles p0 p1 z3 ez3) kw961 kw958 kw960 kw28 kw118 hd_X7_aheadOf ⟨rfl, rfl⟩ rfl rfl ⟨rfl, rfl⟩ hX hK hw [0, 2] (by decide) rfl rfl rfl rfl rfl hl.1 rfl rfl dX7_changedEntries_25) hw hA [0, 2] (by decide) rfl rfl (fun H locs hw => ?_)
    have hw : Wd dC dI A s.heap [wX7 h_me h_me_court h_me_court_isles q_me k_me z1.1, wX1 h_me_court h_me_court_isles h_me_court_machine q_me_court k_me_court o_me_court, wX2 h_me_court_isles h_me_court_isles_now q_me_court_isles k_me_court_isles o_me_court_isles, wX4 h_me_court_isles_now q_me_court_isles_now k_me_court_isles_now o_me_court_isles_now, wX3 h_me_court_machine q_me_court_machine k_me_court_machine z1.2, wPL o_pool] H locs := hw
    refine lv_istore (lv' := [(4, .int z3), (0, .ref h_me), (1, .int p0), (2, .int p1), (3, .int p2)]) hx hb dX7_changedEntries_28 hl (by decide) rfl (fun ls hl => ?_)
    refine lv_iload hx hb dX7_changedEntries_30 (lv_at hl 0 rfl) ?_
    refine lv_aload_n hx hb dX7_changedEntries_32 rfl (lv_at hl 1 rfl) ?_
    refine fgX7_1 hx hb hts hown hK hw 0 rfl kw387 dX7_changedEntries_33 ?_
    refine fgX2_0 hx hb hts hown hK hw 2 rfl kw298 dX7_changedEntries_36 ?_
    refine fgX4_2 hx hb hts hown hK hw 3 rfl kw269 dX7_changedEntries_39 ?_
    refine lv_iand hx hb dX7_changedEntries_42 ?_
    obtain ⟨x4, ex4, h⟩ := z_lt h
    refine lv_fi (v := x4) ex4.symm ?_
    refine lv_istore (lv' := [(5, .int x4), (4, .int z3), (0, .ref h_me), (1, .int p0), (2, .int p1), (3, .int p2)]) hx hb dX7_changedEntries_43 hl (by decide) rfl (fun ls hl => ?_)
    refine lv_iload hx hb dX7_changedEntries_45 (lv_at hl 0 rfl) ?_
    obtain ⟨z5, ez5, h⟩ := z_bd h
    refine xj_i (xrS (As := [.int x4]) (rest := []) ⟨hx, hb, hml, hown, hts⟩ (m_J6_bitCount_0f7a4 l dC dI _  x4 z5 ez5) kw842 kw962 kw841 kw126 hd_J6_bitCount_0f7a4 ⟨rfl, rfl⟩ rfl rfl ⟨rfl, rfl⟩ hX hK hw [] (by decide) rfl rfl hl.1 rfl rfl dX7_changedEntries_47) hw hA [] (by decide) rfl rfl (fun H locs hw => ?_)
    refine lv_iload_n hx hb dX7_changedEntries_50 rfl (lv_at hl 5 rfl) ?_
    refine lv_iconst (v := 1) hx hb dX7_changedEntries_51 (by decide) ?_
    refine lv_isub hx hb dX7_changedEntries_52 ?_
    refine lv_isub hx hb dX7_changedEntries_53 ?_
    obtain ⟨x6, ex6, h⟩ := z_lt h
    refine lv_fi (v := x6) ex6.symm ?_
    refine lv_istore (lv' := [(6, .int x6), (5, .int x4), (4, .int z3), (0, .ref h_me), (1, .int p0), (2, .int p1), (3, .int p2)]) hx hb dX7_changedEntries_54 hl (by decide) rfl (fun ls hl => ?_)
    refine lv_iload hx hb dX7_changedEntries_56 (lv_at hl 0 rfl) ?_
    refine lv_if_lt (tgt := 69) hx hb dX7_changedEntries_58 (by decide) (fun c => ?_) (fun c => ?_)
    · have h := z_t h c
      refine lv_iload hx hb dX7_changedEntries_69 (lv_at hl 2 rfl) ?_
      refine lv_aload_n hx hb dX7_changedEntries_71 rfl (lv_at hl 3 rfl) ?_
      refine fgX7_1 hx hb hts hown hK hw 0 rfl kw387 dX7_changedEntries_72 ?_
      refine fgX2_0 hx hb hts hown hK hw 2 rfl kw298 dX7_changedEntries_75 ?_
      refine fgX4_2 hx hb hts hown hK hw 3 rfl kw269 dX7_changedEntries_78 ?_
      refine lv_iconst (v := (-1)) hx hb dX7_changedEntries_81 (by decide) ?_
      refine lv_ixor hx hb dX7_changedEntries_82 ?_
      refine lv_iand hx hb dX7_changedEntries_83 ?_
      refine lv_iload hx hb dX7_changedEntries_84 (lv_at hl 0 rfl) ?_
      refine lv_ineg hx hb dX7_changedEntries_86 ?_
      obtain ⟨z7, ez7, h⟩ := z_bd h
      refine xj_i (xrS (As := [.int (z3 &&& ((gI o_me_court_isles_now 2) ^^^ (-1 : Int32))), .int (-x6)]) (rest := []) ⟨hx, hb, hml, hown, hts⟩ (m_X7_lowestBits l dC dI _  (z3 &&& ((gI o_me_court_isles_now 2) ^^^ (-1 : Int32))) (-x6) z7 ez7) kw965 kw963 kw964 kw118 hd_X7_lowestBits ⟨rfl, rfl⟩ rfl rfl ⟨rfl, rfl⟩ hX hK hw [] (by decide) rfl rfl hl.1 rfl rfl dX7_changedEntries_87) hw hA [] (by decide) rfl rfl (fun H locs hw => ?_)
      have hy := Option.some.inj h
      rw [← hQz, ← hy]
      exact xr_i (v := z7) hx hb hr rfl hlk hK hw dX7_changedEntries_90
    · have h := z_f h c
      refine lv_iload hx hb dX7_changedEntries_61 (lv_at hl 1 rfl) ?_
      refine lv_iload hx hb dX7_changedEntries_63 (lv_at hl 0 rfl) ?_
      obtain ⟨z8, ez8, h⟩ := z_bd h
      refine xj_i (xrS (As := [.int x4, .int x6]) (rest := []) ⟨hx, hb, hml, hown, hts⟩ (m_X7_lowestBits l dC dI _  x4 x6 z8 ez8) kw965 kw963 kw964 kw118 hd_X7_lowestBits ⟨rfl, rfl⟩ rfl rfl ⟨rfl, rfl⟩ hX hK hw [] (by decide) rfl rfl hl.1 rfl rfl dX7_changedEntries_65) hw hA [] (by decide) rfl rfl (fun H locs hw => ?_)
      have hy := Option.some.inj h
      rw [← hQz, ← hy]
      exact xr_i (v := z8) hx hb hr rfl hlk hK hw dX7_changedEntries_68
  · have h := z_t h c
    refine lv_iconst (v := (-1)) hx hb dX7_changedEntries_20 (by decide) ?_
    have hy := Option.some.inj h
    rw [← hQz, ← hy]
    exact xr_i (v := (-1 : Int32)) hx hb hr rfl hlk hK hw dX7_changedEntries_21

def bk_X8_be_66 (o_me : Ob) (o_me_isles : Ob) (o_me_isles_now : Ob) (o_me_court : Ob) (o_pool : List CR)  (v5 : Int32) (o_me_machine : Ob) (o_me_study : Ob) : Option (Int32 × Ob × Ob) :=
  some (v5, o_me_machine, o_me_study)
def f_X8_be (o_me : Ob) (o_me_machine : Ob) (o_me_isles : Ob) (o_me_isles_now : Ob) (o_me_court : Ob) (o_me_study : Ob) (o_pool : List CR) (p0 : Int32) (p1 : Int32) (p2 : Int32) (p3 : Int32) : Option (Int32 × Ob × Ob) :=
  (f_X2_isPerson o_me_isles p0).bind fun z1 =>
  if z1 = (0 : Int32) then
  (some ((-1 : Int32), o_me_machine, o_me_study))
  else
  ((f_X8_isRace p1).bind fun z2 =>
  if z2 = (0 : Int32) then
  (some ((-1 : Int32), o_me_machine, o_me_study))
  else
  (if p2 < (1 : Int32) then
  (some ((-1 : Int32), o_me_machine, o_me_study))
  else
  (if (7 : Int32) < p2 then
  (some ((-1 : Int32), o_me_machine, o_me_study))
  else
  (if p3 < (0 : Int32) then
  (some ((-1 : Int32), o_me_machine, o_me_study))
  else
  (if p3 ≤ (1 : Int32) then
  ((f_X7_changedEntries o_me_study o_me_court o_me_isles o_me_isles_now o_me_machine o_pool p0 p1 p2).bind fun z3 =>
  if p3 = (1 : Int32) then
  (bk_X8_be_66 o_me o_me_isles o_me_isles_now o_me_court o_pool  z3.1 z3.2.2 z3.2.1)
  else
  (if z3.1 = (-1 : Int32) then
  (bk_X8_be_66 o_me o_me_isles o_me_isles_now o_me_court o_pool  z3.1 z3.2.2 z3.2.1)
  else
  ((f_J6_bitCount_0f7a4 z3.1).bind fun z4 =>
  some (z4, z3.2.2, z3.2.1))))
  else
  (some ((-1 : Int32), o_me_machine, o_me_study)))))))
set_option maxHeartbeats 4000000 in
set_option maxRecDepth 100000 in
theorem m_X8_be (l : Launch) (dC : Nat → ClassId) (dI : Nat → Nat → Nat) (sz : Nat) (h_me : Nat) (h_me_reader : Nat) (h_me_machine : Nat) (h_me_isles : Nat) (h_me_court : Nat) (h_me_study : Nat) (h_me_paper : Nat) (h_me_paperCourt : Nat) (h_me_past : Nat) (h_me_pastAhead : Nat) (h_me_movingAhead : Nat) (h_me_isles_now : Nat) (q_me : Nat → Nat) (k_me : Nat → ClassId) (q_me_machine : Nat → Nat) (k_me_machine : Nat → ClassId) (q_me_isles : Nat → Nat) (k_me_isles : Nat → ClassId) (q_me_isles_now : Nat → Nat) (k_me_isles_now : Nat → ClassId) (q_me_court : Nat → Nat) (k_me_court : Nat → ClassId) (q_me_study : Nat → Nat) (k_me_study : Nat → ClassId) (o_me : Ob) (o_me_machine : Ob) (o_me_isles : Ob) (o_me_isles_now : Ob) (o_me_court : Ob) (o_me_study : Ob) (o_pool : List CR) (p0 : Int32) (p1 : Int32) (p2 : Int32) (p3 : Int32) (y : Int32 × Ob × Ob) (h : f_X8_be o_me o_me_machine o_me_isles o_me_isles_now o_me_court o_me_study o_pool p0 p1 p2 p3 = some y) : CI l yX8_be cX8_be 6 (some .int) ({ frames := 6, cells := 0, slots := 0, locals := 158 } : Room) dC dI sz [.ref h_me, .int p0, .int p1, .int p2, .int p3] [wX8 h_me h_me_reader h_me_machine h_me_isles h_me_court h_me_study h_me_paper h_me_paperCourt h_me_past h_me_pastAhead h_me_movingAhead q_me k_me o_me, wX3 h_me_machine q_me_machine k_me_machine o_me_machine, wX2 h_me_isles h_me_isles_now q_me_isles k_me_isles o_me_isles, wX4 h_me_isles_now q_me_isles_now k_me_isles_now o_me_isles_now, wX1 h_me_court h_me_isles h_me_machine q_me_court k_me_court o_me_court, wX7 h_me_study h_me_court h_me_isles q_me_study k_me_study o_me_study, wPL o_pool] [tX8 k_me, tX3 k_me_machine, tX2 k_me_isles, tX4 k_me_isles_now, tX1 k_me_court, tX7 k_me_study, tPL o_pool] y.1 [wX8 h_me h_me_reader h_me_machine h_me_isles h_me_court h_me_study h_me_paper h_me_paperCourt h_me_past h_me_pastAhead h_me_movingAhead q_me k_me o_me, wX3 h_me_machine q_me_machine k_me_machine y.2.1, wX2 h_me_isles h_me_isles_now q_me_isles k_me_isles o_me_isles, wX4 h_me_isles_now q_me_isles_now k_me_isles_now o_me_isles_now, wX1 h_me_court h_me_isles h_me_machine q_me_court k_me_court o_me_court, wX7 h_me_study h_me_court h_me_isles q_me_study k_me_study y.2.2, wPL o_pool] := by
  refine CC_of (by decide) (Nat.le_of_ble_eq_true rfl) ?_
  intro p e s m below meth c A ls hx hb hml hr hlk hnm hown hts hX hK hP hD hA hl
  have hl : lv_has ls 6 [(0, .ref h_me), (1, .int p0), (2, .int p1), (3, .int p2), (4, .int p3)] := hl
  have hown : s.vm.findClass RX8 = some m.cls := hown
  have hw : Wd dC dI A s.heap [wX8 h_me h_me_reader h_me_machine h_me_isles h_me_court h_me_study h_me_paper h_me_paperCourt h_me_past h_me_pastAhead h_me_movingAhead q_me k_me o_me, wX3 h_me_machine q_me_machine k_me_machine o_me_machine, wX2 h_me_isles h_me_isles_now q_me_isles k_me_isles o_me_isles, wX4 h_me_isles_now q_me_isles_now k_me_isles_now o_me_isles_now, wX1 h_me_court h_me_isles h_me_machine q_me_court k_me_court o_me_court, wX7 h_me_study h_me_court h_me_isles q_me_study k_me_study o_me_study, wPL o_pool] s.heap [] := ⟨hP, hD, va_S.rf⟩
  generalize hQz : (MQ below (QI dC dI (fun r (_ : Unit) => r = y.1) (fun _ => Jn [wX8 h_me h_me_reader h_me_machine h_me_isles h_me_court h_me_study h_me_paper h_me_paperCourt h_me_past h_me_pastAhead h_me_movingAhead q_me k_me o_me, wX3 h_me_machine q_me_machine k_me_machine y.2.1, wX2 h_me_isles h_me_isles_now q_me_isles k_me_isles o_me_isles, wX4 h_me_isles_now q_me_isles_now k_me_isles_now o_me_isles_now, wX1 h_me_court h_me_isles h_me_machine q_me_court k_me_court o_me_court, wX7 h_me_study h_me_court h_me_isles q_me_study k_me_study y.2.2, wPL o_pool]) (fun _ => Jt [tX8 k_me, tX3 k_me_machine, tX2 k_me_isles, tX4 k_me_isles_now, tX1 k_me_court, tX7 k_me_study, tPL o_pool]) A) ([.ref h_me, .int p0, .int p1, .int p2, .int p3] : List Value).toArray s 0 0 A) = Qz
  clear hP hD hnm
  have bk_66_0 : ∀ (v5 : Int32) (o_me_machine : Ob) (o_me_study : Ob) (H : Heap) (locs : List Loc) (ls : Array Slot), bk_X8_be_66 o_me o_me_isles o_me_isles_now o_me_court o_pool  v5 o_me_machine o_me_study = some y → Wd dC dI A s.heap [wX8 h_me h_me_reader h_me_machine h_me_isles h_me_court h_me_study h_me_paper h_me_paperCourt h_me_past h_me_pastAhead h_me_movingAhead q_me k_me o_me, wX3 h_me_machine q_me_machine k_me_machine o_me_machine, wX2 h_me_isles h_me_isles_now q_me_isles k_me_isles o_me_isles, wX4 h_me_isles_now q_me_isles_now k_me_isles_now o_me_isles_now, wX1 h_me_court h_me_isles h_me_machine q_me_court k_me_court o_me_court, wX7 h_me_study h_me_court h_me_isles q_me_study k_me_study o_me_study, wPL o_pool] H locs → lv_has ls 6 [(5, .int v5)] → W p l e ({ frames := 6, cells := 0, slots := 0, locals := 158 } : Room) s m ([.ref h_me, .int p0, .int p1, .int p2, .int p3] : List Value).toArray below meth c H locs 0 0 Qz (F0 m 66 ls []) := by
    intro v5 o_me_machine o_me_study H locs ls h hw hl
    unfold bk_X8_be_66 at h
    refine lv_iload hx hb dX8_be_66 (lv_at hl 0 rfl) ?_
    refine lv_goto (tgt := 76) hx hb dX8_be_68 (by decide) ?_
    have hy := Option.some.inj h
    rw [← hQz, ← hy]
    exact xr_i (v := v5) hx hb hr rfl hlk hK hw dX8_be_76
  unfold f_X8_be at h
  refine lv_aload_n hx hb dX8_be_0 rfl (lv_at hl 0 rfl) ?_
  refine fgX8_2 hx hb hts hown hK hw 0 rfl kw444 dX8_be_1 ?_
  refine lv_iload_n hx hb dX8_be_4 rfl (lv_at hl 1 rfl) ?_
  obtain ⟨z1, ez1, h⟩ := z_bd h
  refine xj_i (xrV (As := [.int p0]) (rest := []) ⟨hx, hb, hml, hown, hts⟩ (m_X2_isPerson l dC dI _ h_me_isles h_me_isles_now q_me_isles k_me_isles o_me_isles p0 z1 ez1) kw504 kw501 kw502 kw503 kw115 hd_X2_isPerson ⟨rfl, rfl⟩ rfl rfl ⟨rfl, rfl⟩ hX hK hw [2] (by decide) rfl rfl rfl rfl rfl hl.1 rfl rfl dX8_be_5) hw hA [2] (by decide) rfl rfl (fun H locs hw => ?_)
  have hw : Wd dC dI A s.heap [wX8 h_me h_me_reader h_me_machine h_me_isles h_me_court h_me_study h_me_paper h_me_paperCourt h_me_past h_me_pastAhead h_me_movingAhead q_me k_me o_me, wX3 h_me_machine q_me_machine k_me_machine o_me_machine, wX2 h_me_isles h_me_isles_now q_me_isles k_me_isles o_me_isles, wX4 h_me_isles_now q_me_isles_now k_me_isles_now o_me_isles_now, wX1 h_me_court h_me_isles h_me_machine q_me_court k_me_court o_me_court, wX7 h_me_study h_me_court h_me_isles q_me_study k_me_study o_me_study, wPL o_pool] H locs := hw
  refine lv_if_eq (tgt := 40) hx hb dX8_be_8 (by decide) (fun c => ?_) (fun c => ?_)
  · have h := z_t h c
    refine lv_iconst (v := (-1)) hx hb dX8_be_40 (by decide) ?_
    have hy := Option.some.inj h
    rw [← hQz, ← hy]
    exact xr_i (v := (-1 : Int32)) hx hb hr rfl hlk hK hw dX8_be_41
  · have h := z_f h c
    refine lv_iload_n hx hb dX8_be_11 rfl (lv_at hl 2 rfl) ?_
    obtain ⟨z2, ez2, h⟩ := z_bd h
    refine xj_i (xrS (As := [.int p1]) (rest := []) ⟨hx, hb, hml, hown, hts⟩ (m_X8_isRace l dC dI _  p1 z2 ez2) kw527 kw525 kw526 kw110 hd_X8_isRace ⟨rfl, rfl⟩ rfl rfl ⟨rfl, rfl⟩ hX hK hw [] (by decide) rfl rfl hl.1 rfl rfl dX8_be_12) hw hA [] (by decide) rfl rfl (fun H locs hw => ?_)
    refine lv_if_eq (tgt := 40) hx hb dX8_be_15 (by decide) (fun c => ?_) (fun c => ?_)
    · have h := z_t h c
      refine lv_iconst (v := (-1)) hx hb dX8_be_40 (by decide) ?_
      have hy := Option.some.inj h
      rw [← hQz, ← hy]
      exact xr_i (v := (-1 : Int32)) hx hb hr rfl hlk hK hw dX8_be_41
    · have h := z_f h c
      refine lv_iload_n hx hb dX8_be_18 rfl (lv_at hl 3 rfl) ?_
      refine lv_iconst (v := 1) hx hb dX8_be_19 (by decide) ?_
      refine lv_icmp_lt (tgt := 40) hx hb dX8_be_20 (by decide) (fun c => ?_) (fun c => ?_)
      · have h := z_t h c
        refine lv_iconst (v := (-1)) hx hb dX8_be_40 (by decide) ?_
        have hy := Option.some.inj h
        rw [← hQz, ← hy]
        exact xr_i (v := (-1 : Int32)) hx hb hr rfl hlk hK hw dX8_be_41
      · have h := z_f h c
        refine lv_iload_n hx hb dX8_be_23 rfl (lv_at hl 3 rfl) ?_
        refine lv_bipush (v := 7) hx hb dX8_be_24 (by decide) ?_
        refine lv_icmp_gt (tgt := 40) hx hb dX8_be_26 (by decide) (fun c => ?_) (fun c => ?_)
        · have h := z_t h c
          refine lv_iconst (v := (-1)) hx hb dX8_be_40 (by decide) ?_
          have hy := Option.some.inj h
          rw [← hQz, ← hy]
          exact xr_i (v := (-1 : Int32)) hx hb hr rfl hlk hK hw dX8_be_41
        · have h := z_f h c
          refine lv_iload hx hb dX8_be_29 (lv_at hl 4 rfl) ?_
          refine lv_if_lt (tgt := 40) hx hb dX8_be_31 (by decide) (fun c => ?_) (fun c => ?_)
          · have h := z_t h c
            refine lv_iconst (v := (-1)) hx hb dX8_be_40 (by decide) ?_
            have hy := Option.some.inj h
            rw [← hQz, ← hy]
            exact xr_i (v := (-1 : Int32)) hx hb hr rfl hlk hK hw dX8_be_41
          · have h := z_f h c
            refine lv_iload hx hb dX8_be_34 (lv_at hl 4 rfl) ?_
            refine lv_iconst (v := 1) hx hb dX8_be_36 (by decide) ?_
            refine lv_icmp_le (tgt := 42) hx hb dX8_be_37 (by decide) (fun c => ?_) (fun c => ?_)
            · have h := z_t h c
              refine lv_aload_n hx hb dX8_be_42 rfl (lv_at hl 0 rfl) ?_
              refine fgX8_4 hx hb hts hown hK hw 0 rfl kw446 dX8_be_43 ?_
              refine lv_iload_n hx hb dX8_be_46 rfl (lv_at hl 1 rfl) ?_
              refine lv_iload_n hx hb dX8_be_47 rfl (lv_at hl 2 rfl) ?_
              refine lv_iload_n hx hb dX8_be_48 rfl (lv_at hl 3 rfl) ?_
              obtain ⟨z3, ez3, h⟩ := z_bd h
              refine xj_i (xrV (As := [.int p0, .int p1, .int p2]) (rest := []) ⟨hx, hb, hml, hown, hts⟩ (m_X7_changedEntries l dC dI _ h_me_study h_me_court h_me_isles h_me_machine h_me_isles_now q_me_study k_me_study q_me_court k_me_court q_me_isles k_me_isles q_me_isles_now k_me_isles_now q_me_machine k_me_machine o_me_study o_me_court o_me_isles o_me_isles_now o_me_machine o_pool p0 p1 p2 z3 ez3) kw950 kw947 kw948 kw949 kw118 hd_X7_changedEntries ⟨rfl, rfl⟩ rfl rfl ⟨rfl, rfl⟩ hX hK hw [5, 4, 2, 3, 1, 6] (by decide) rfl rfl rfl rfl rfl hl.1 rfl rfl dX8_be_49) hw hA [5, 4, 2, 3, 1, 6] (by decide) rfl rfl (fun H locs hw => ?_)
              have hw : Wd dC dI A s.heap [wX8 h_me h_me_reader h_me_machine h_me_isles h_me_court h_me_study h_me_paper h_me_paperCourt h_me_past h_me_pastAhead h_me_movingAhead q_me k_me o_me, wX3 h_me_machine q_me_machine k_me_machine z3.2.2, wX2 h_me_isles h_me_isles_now q_me_isles k_me_isles o_me_isles, wX4 h_me_isles_now q_me_isles_now k_me_isles_now o_me_isles_now, wX1 h_me_court h_me_isles h_me_machine q_me_court k_me_court o_me_court, wX7 h_me_study h_me_court h_me_isles q_me_study k_me_study z3.2.1, wPL o_pool] H locs := hw
              refine lv_istore (lv' := [(5, .int z3.1), (0, .ref h_me), (1, .int p0), (2, .int p1), (3, .int p2), (4, .int p3)]) hx hb dX8_be_52 hl (by decide) rfl (fun ls hl => ?_)
              refine lv_iload hx hb dX8_be_54 (lv_at hl 5 rfl) ?_
              refine lv_iconst (v := 1) hx hb dX8_be_56 (by decide) ?_
              refine lv_icmp_eq (tgt := 66) hx hb dX8_be_57 (by decide) (fun c => ?_) (fun c => ?_)
              · have h := z_t h c
                exact bk_66_0  z3.1 z3.2.2 z3.2.1 _ _ _ h hw (lv_sub hl [0] rfl)
              · have h := z_f h c
                refine lv_iload hx hb dX8_be_60 (lv_at hl 0 rfl) ?_
                refine lv_iconst (v := (-1)) hx hb dX8_be_62 (by decide) ?_
                refine lv_icmp_ne (tgt := 71) hx hb dX8_be_63 (by decide) (fun c => ?_) (fun c => ?_)
                · have h := z_f h c
                  refine lv_iload hx hb dX8_be_71 (lv_at hl 0 rfl) ?_
                  obtain ⟨z4, ez4, h⟩ := z_bd h
                  refine xj_i (xrS (As := [.int z3.1]) (rest := []) ⟨hx, hb, hml, hown, hts⟩ (m_J6_bitCount_0f7a4 l dC dI _  z3.1 z4 ez4) kw842 kw966 kw841 kw126 hd_J6_bitCount_0f7a4 ⟨rfl, rfl⟩ rfl rfl ⟨rfl, rfl⟩ hX hK hw [] (by decide) rfl rfl hl.1 rfl rfl dX8_be_73) hw hA [] (by decide) rfl rfl (fun H locs hw => ?_)
                  have hy := Option.some.inj h
                  rw [← hQz, ← hy]
                  exact xr_i (v := z4) hx hb hr rfl hlk hK hw dX8_be_76
                · have h := z_t h c
                  exact bk_66_0  z3.1 z3.2.2 z3.2.1 _ _ _ h hw (lv_sub hl [0] rfl)
            · have h := z_f h c
              refine lv_iconst (v := (-1)) hx hb dX8_be_40 (by decide) ?_
              have hy := Option.some.inj h
              rw [← hQz, ← hy]
              exact xr_i (v := (-1 : Int32)) hx hb hr rfl hlk hK hw dX8_be_41

def f_X8_refuse (o_me : Ob) (p0 : Int32) : Option (Int32 × Ob) :=
  zlt (sI o_me 12 p0) fun o1 =>
  if (0 : Int32) ≤ p0 then
  (some (p0, o1))
  else
  (if p0 < (-6 : Int32) then
  (some (p0, o1))
  else
  (zlt (-p0) fun x2 =>
  zgd (zin x2 7) <|
  zgd (zin x2 7) <|
  zlt (tA o1 11 x2.toNatClampNeg ((gA o1 11 x2.toNatClampNeg) + (1 : Int32))) fun o5 =>
  some (p0, o5)))
set_option maxHeartbeats 4000000 in
set_option maxRecDepth 100000 in
theorem m_X8_refuse (l : Launch) (dC : Nat → ClassId) (dI : Nat → Nat → Nat) (sz : Nat) (h_me : Nat) (h_me_reader : Nat) (h_me_machine : Nat) (h_me_isles : Nat) (h_me_court : Nat) (h_me_study : Nat) (h_me_paper : Nat) (h_me_paperCourt : Nat) (h_me_past : Nat) (h_me_pastAhead : Nat) (h_me_movingAhead : Nat) (q_me : Nat → Nat) (k_me : Nat → ClassId) (o_me : Ob) (p0 : Int32) (y : Int32 × Ob) (h : f_X8_refuse o_me p0 = some y) : CI l yX8_refuse cX8_refuse 2 (some .int) ({ frames := 0, cells := 0, slots := 0, locals := 0 } : Room) dC dI sz [.ref h_me, .int p0] [wX8 h_me h_me_reader h_me_machine h_me_isles h_me_court h_me_study h_me_paper h_me_paperCourt h_me_past h_me_pastAhead h_me_movingAhead q_me k_me o_me] [tX8 k_me] y.1 [wX8 h_me h_me_reader h_me_machine h_me_isles h_me_court h_me_study h_me_paper h_me_paperCourt h_me_past h_me_pastAhead h_me_movingAhead q_me k_me y.2] := by
  refine CC_of (by decide) (Nat.le_of_ble_eq_true rfl) ?_
  intro p e s m below meth c A ls hx hb hml hr hlk hnm hown hts hX hK hP hD hA hl
  have hl : lv_has ls 2 [(0, .ref h_me), (1, .int p0)] := hl
  have hown : s.vm.findClass RX8 = some m.cls := hown
  have hw : Wd dC dI A s.heap [wX8 h_me h_me_reader h_me_machine h_me_isles h_me_court h_me_study h_me_paper h_me_paperCourt h_me_past h_me_pastAhead h_me_movingAhead q_me k_me o_me] s.heap [] := ⟨hP, hD, va_S.rf⟩
  generalize hQz : (MQ below (QI dC dI (fun r (_ : Unit) => r = y.1) (fun _ => Jn [wX8 h_me h_me_reader h_me_machine h_me_isles h_me_court h_me_study h_me_paper h_me_paperCourt h_me_past h_me_pastAhead h_me_movingAhead q_me k_me y.2]) (fun _ => Jt [tX8 k_me]) A) ([.ref h_me, .int p0] : List Value).toArray s 0 0 A) = Qz
  clear hP hD hnm
  unfold f_X8_refuse at h
  refine lv_aload_n hx hb dX8_refuse_0 rfl (lv_at hl 0 rfl) ?_
  refine lv_iload_n hx hb dX8_refuse_1 rfl (lv_at hl 1 rfl) ?_
  refine fpX8_12 hx hb hts hown hK hw 0 rfl kw454 dX8_refuse_2 (fun H locs hw => ?_)
  obtain ⟨o1, eo1, h⟩ := z_lt h
  have hw : Wd dC dI A s.heap [wX8 h_me h_me_reader h_me_machine h_me_isles h_me_court h_me_study h_me_paper h_me_paperCourt h_me_past h_me_pastAhead h_me_movingAhead q_me k_me o1] H locs := by rw [eo1]; exact hw
  refine lv_iload_n hx hb dX8_refuse_5 rfl (lv_at hl 1 rfl) ?_
  refine lv_if_ge (tgt := 26) hx hb dX8_refuse_6 (by decide) (fun c => ?_) (fun c => ?_)
  · have h := z_t h c
    refine lv_iload_n hx hb dX8_refuse_26 rfl (lv_at hl 1 rfl) ?_
    have hy := Option.some.inj h
    rw [← hQz, ← hy]
    exact xr_i (v := p0) hx hb hr rfl hlk hK hw dX8_refuse_27
  · have h := z_f h c
    refine lv_iload_n hx hb dX8_refuse_9 rfl (lv_at hl 1 rfl) ?_
    refine lv_bipush (v := (-6)) hx hb dX8_refuse_10 (by decide) ?_
    refine lv_icmp_lt (tgt := 26) hx hb dX8_refuse_12 (by decide) (fun c => ?_) (fun c => ?_)
    · have h := z_t h c
      refine lv_iload_n hx hb dX8_refuse_26 rfl (lv_at hl 1 rfl) ?_
      have hy := Option.some.inj h
      rw [← hQz, ← hy]
      exact xr_i (v := p0) hx hb hr rfl hlk hK hw dX8_refuse_27
    · have h := z_f h c
      refine lv_aload_n hx hb dX8_refuse_15 rfl (lv_at hl 0 rfl) ?_
      refine fgX8_11 hx hb hts hown hK hw 0 rfl kw453 dX8_refuse_16 ?_
      refine lv_iload_n hx hb dX8_refuse_19 rfl (lv_at hl 1 rfl) ?_
      refine lv_ineg hx hb dX8_refuse_20 ?_
      obtain ⟨x2, ex2, h⟩ := z_lt h
      refine lv_fi (v := x2) ex2.symm ?_
      refine lv_dup2_11 hx hb dX8_refuse_21 rfl rfl ?_
      obtain ⟨g3, h⟩ := z_gd h
      refine faX8_11 hx hb hK hw 0 rfl rfl g3 dX8_refuse_22 ?_
      refine lv_iconst (v := 1) hx hb dX8_refuse_23 (by decide) ?_
      refine lv_iadd hx hb dX8_refuse_24 ?_
      obtain ⟨g4, h⟩ := z_gd h
      refine fbX8_11 hx hb hK hw 0 rfl rfl g4 dX8_refuse_25 (fun H locs hw => ?_)
      obtain ⟨o5, eo5, h⟩ := z_lt h
      have hw : Wd dC dI A s.heap [wX8 h_me h_me_reader h_me_machine h_me_isles h_me_court h_me_study h_me_paper h_me_paperCourt h_me_past h_me_pastAhead h_me_movingAhead q_me k_me o5] H locs := by rw [eo5]; exact hw
      refine lv_iload_n hx hb dX8_refuse_26 rfl (lv_at hl 1 rfl) ?_
      have hy := Option.some.inj h
      rw [← hQz, ← hy]
      exact xr_i (v := p0) hx hb hr rfl hlk hK hw dX8_refuse_27

def f_X8_grant (o_me : Ob) (p0 : Int32) : Option (Int32 × Ob) :=
  zlt (sI o_me 12 (0 : Int32)) fun o1 =>
  some (p0, o1)
set_option maxHeartbeats 4000000 in
set_option maxRecDepth 100000 in
theorem m_X8_grant (l : Launch) (dC : Nat → ClassId) (dI : Nat → Nat → Nat) (sz : Nat) (h_me : Nat) (h_me_reader : Nat) (h_me_machine : Nat) (h_me_isles : Nat) (h_me_court : Nat) (h_me_study : Nat) (h_me_paper : Nat) (h_me_paperCourt : Nat) (h_me_past : Nat) (h_me_pastAhead : Nat) (h_me_movingAhead : Nat) (q_me : Nat → Nat) (k_me : Nat → ClassId) (o_me : Ob) (p0 : Int32) (y : Int32 × Ob) (h : f_X8_grant o_me p0 = some y) : CI l yX8_grant cX8_grant 2 (some .int) ({ frames := 0, cells := 0, slots := 0, locals := 0 } : Room) dC dI sz [.ref h_me, .int p0] [wX8 h_me h_me_reader h_me_machine h_me_isles h_me_court h_me_study h_me_paper h_me_paperCourt h_me_past h_me_pastAhead h_me_movingAhead q_me k_me o_me] [tX8 k_me] y.1 [wX8 h_me h_me_reader h_me_machine h_me_isles h_me_court h_me_study h_me_paper h_me_paperCourt h_me_past h_me_pastAhead h_me_movingAhead q_me k_me y.2] := by
  refine CC_of (by decide) (Nat.le_of_ble_eq_true rfl) ?_
  intro p e s m below meth c A ls hx hb hml hr hlk hnm hown hts hX hK hP hD hA hl
  have hl : lv_has ls 2 [(0, .ref h_me), (1, .int p0)] := hl
  have hown : s.vm.findClass RX8 = some m.cls := hown
  have hw : Wd dC dI A s.heap [wX8 h_me h_me_reader h_me_machine h_me_isles h_me_court h_me_study h_me_paper h_me_paperCourt h_me_past h_me_pastAhead h_me_movingAhead q_me k_me o_me] s.heap [] := ⟨hP, hD, va_S.rf⟩
  generalize hQz : (MQ below (QI dC dI (fun r (_ : Unit) => r = y.1) (fun _ => Jn [wX8 h_me h_me_reader h_me_machine h_me_isles h_me_court h_me_study h_me_paper h_me_paperCourt h_me_past h_me_pastAhead h_me_movingAhead q_me k_me y.2]) (fun _ => Jt [tX8 k_me]) A) ([.ref h_me, .int p0] : List Value).toArray s 0 0 A) = Qz
  clear hP hD hnm
  unfold f_X8_grant at h
  refine lv_aload_n hx hb dX8_grant_0 rfl (lv_at hl 0 rfl) ?_
  refine lv_iconst (v := 0) hx hb dX8_grant_1 (by decide) ?_
  refine fpX8_12 hx hb hts hown hK hw 0 rfl kw454 dX8_grant_2 (fun H locs hw => ?_)
  obtain ⟨o1, eo1, h⟩ := z_lt h
  have hw : Wd dC dI A s.heap [wX8 h_me h_me_reader h_me_machine h_me_isles h_me_court h_me_study h_me_paper h_me_paperCourt h_me_past h_me_pastAhead h_me_movingAhead q_me k_me o1] H locs := by rw [eo1]; exact hw
  refine lv_iload_n hx hb dX8_grant_5 rfl (lv_at hl 1 rfl) ?_
  have hy := Option.some.inj h
  rw [← hQz, ← hy]
  exact xr_i (v := p0) hx hb hr rfl hlk hK hw dX8_grant_6

def bk_X8_beats_14   (o_me : Ob) (o_me_isles : Ob) : Option (Int32 × Ob × Ob) :=
  (f_X8_refuse o_me (-1 : Int32)).bind fun z1 =>
  some (z1.1, z1.2, o_me_isles)
def bk_X8_beats_42   (o_me : Ob) (o_me_isles : Ob) : Option (Int32 × Ob × Ob) :=
  (f_X8_refuse o_me (-2 : Int32)).bind fun z3 =>
  some (z3.1, z3.2, o_me_isles)
def f_X8_beats (o_me : Ob) (o_me_isles : Ob) (p0 : Int32) (p1 : Int32) (p2 : Int32) : Option (Int32 × Ob × Ob) :=
  if p0 = p1 then
  (bk_X8_beats_14   o_me o_me_isles)
  else
  (if p2 < (0 : Int32) then
  (bk_X8_beats_14   o_me o_me_isles)
  else
  (if p2 ≤ (1 : Int32) then
  ((f_X2_isPerson o_me_isles p0).bind fun z2 =>
  if z2 = (0 : Int32) then
  (bk_X8_beats_42   o_me o_me_isles)
  else
  ((f_X2_isPerson o_me_isles p1).bind fun z4 =>
  if z4 = (0 : Int32) then
  (bk_X8_beats_42   o_me o_me_isles)
  else
  (zgd (zin p0 7) <|
  zlt (((gA o_me_isles 3 p0.toNatClampNeg) >>> (p1 &&& 31)) &&& (1 : Int32)) fun x6 =>
  zgd (zin p0 7) <|
  zgd (zin p0 7) <|
  zlt (tA o_me_isles 3 p0.toNatClampNeg ((gA o_me_isles 3 p0.toNatClampNeg) ^^^ ((x6 ^^^ p2) <<< (p1 &&& 31)))) fun o9 =>
  (f_X8_grant o_me x6).bind fun z10 =>
  some (z10.1, z10.2, o9))))
  else
  (bk_X8_beats_14   o_me o_me_isles)))
set_option maxHeartbeats 4000000 in
set_option maxRecDepth 100000 in
theorem m_X8_beats (l : Launch) (dC : Nat → ClassId) (dI : Nat → Nat → Nat) (sz : Nat) (h_me : Nat) (h_me_reader : Nat) (h_me_machine : Nat) (h_me_isles : Nat) (h_me_court : Nat) (h_me_study : Nat) (h_me_paper : Nat) (h_me_paperCourt : Nat) (h_me_past : Nat) (h_me_pastAhead : Nat) (h_me_movingAhead : Nat) (h_me_isles_now : Nat) (q_me : Nat → Nat) (k_me : Nat → ClassId) (q_me_isles : Nat → Nat) (k_me_isles : Nat → ClassId) (o_me : Ob) (o_me_isles : Ob) (p0 : Int32) (p1 : Int32) (p2 : Int32) (y : Int32 × Ob × Ob) (h : f_X8_beats o_me o_me_isles p0 p1 p2 = some y) : CI l yX8_beats cX8_beats 5 (some .int) ({ frames := 1, cells := 0, slots := 0, locals := 21 } : Room) dC dI sz [.ref h_me, .int p0, .int p1, .int p2] [wX8 h_me h_me_reader h_me_machine h_me_isles h_me_court h_me_study h_me_paper h_me_paperCourt h_me_past h_me_pastAhead h_me_movingAhead q_me k_me o_me, wX2 h_me_isles h_me_isles_now q_me_isles k_me_isles o_me_isles] [tX8 k_me, tX2 k_me_isles] y.1 [wX8 h_me h_me_reader h_me_machine h_me_isles h_me_court h_me_study h_me_paper h_me_paperCourt h_me_past h_me_pastAhead h_me_movingAhead q_me k_me y.2.1, wX2 h_me_isles h_me_isles_now q_me_isles k_me_isles y.2.2] := by
  refine CC_of (by decide) (Nat.le_of_ble_eq_true rfl) ?_
  intro p e s m below meth c A ls hx hb hml hr hlk hnm hown hts hX hK hP hD hA hl
  have hl : lv_has ls 5 [(0, .ref h_me), (1, .int p0), (2, .int p1), (3, .int p2)] := hl
  have hown : s.vm.findClass RX8 = some m.cls := hown
  have hw : Wd dC dI A s.heap [wX8 h_me h_me_reader h_me_machine h_me_isles h_me_court h_me_study h_me_paper h_me_paperCourt h_me_past h_me_pastAhead h_me_movingAhead q_me k_me o_me, wX2 h_me_isles h_me_isles_now q_me_isles k_me_isles o_me_isles] s.heap [] := ⟨hP, hD, va_S.rf⟩
  generalize hQz : (MQ below (QI dC dI (fun r (_ : Unit) => r = y.1) (fun _ => Jn [wX8 h_me h_me_reader h_me_machine h_me_isles h_me_court h_me_study h_me_paper h_me_paperCourt h_me_past h_me_pastAhead h_me_movingAhead q_me k_me y.2.1, wX2 h_me_isles h_me_isles_now q_me_isles k_me_isles y.2.2]) (fun _ => Jt [tX8 k_me, tX2 k_me_isles]) A) ([.ref h_me, .int p0, .int p1, .int p2] : List Value).toArray s 0 0 A) = Qz
  clear hP hD hnm
  have bk_14_0 : ∀ (o_me : Ob) (o_me_isles : Ob) (H : Heap) (locs : List Loc) (ls : Array Slot), bk_X8_beats_14   o_me o_me_isles = some y → Wd dC dI A s.heap [wX8 h_me h_me_reader h_me_machine h_me_isles h_me_court h_me_study h_me_paper h_me_paperCourt h_me_past h_me_pastAhead h_me_movingAhead q_me k_me o_me, wX2 h_me_isles h_me_isles_now q_me_isles k_me_isles o_me_isles] H locs → lv_has ls 5 [(0, .ref h_me)] → W p l e ({ frames := 1, cells := 0, slots := 0, locals := 21 } : Room) s m ([.ref h_me, .int p0, .int p1, .int p2] : List Value).toArray below meth c H locs 0 0 Qz (F0 m 14 ls []) := by
    intro o_me o_me_isles H locs ls h hw hl
    unfold bk_X8_beats_14 at h
    refine lv_aload_n hx hb dX8_beats_14 rfl (lv_at hl 0 rfl) ?_
    refine lv_iconst (v := (-1)) hx hb dX8_beats_15 (by decide) ?_
    obtain ⟨z1, ez1, h⟩ := z_bd h
    refine xj_i (xrV (As := [.int (-1 : Int32)]) (rest := []) ⟨hx, hb, hml, hown, hts⟩ (m_X8_refuse l dC dI _ h_me h_me_reader h_me_machine h_me_isles h_me_court h_me_study h_me_paper h_me_paperCourt h_me_past h_me_pastAhead h_me_movingAhead q_me k_me o_me (-1 : Int32) z1 ez1) kw508 kw505 kw507 kw0 kw110 hd_X8_refuse ⟨rfl, rfl⟩ rfl rfl ⟨rfl, rfl⟩ hX hK hw [0] (by decide) rfl rfl rfl rfl rfl hl.1 rfl rfl dX8_beats_16) hw hA [0] (by decide) rfl rfl (fun H locs hw => ?_)
    have hw : Wd dC dI A s.heap [wX8 h_me h_me_reader h_me_machine h_me_isles h_me_court h_me_study h_me_paper h_me_paperCourt h_me_past h_me_pastAhead h_me_movingAhead q_me k_me z1.2, wX2 h_me_isles h_me_isles_now q_me_isles k_me_isles o_me_isles] H locs := hw
    have hy := Option.some.inj h
    rw [← hQz, ← hy]
    exact xr_i (v := z1.1) hx hb hr rfl hlk hK hw dX8_beats_19
  have bk_42_1 : ∀ (o_me : Ob) (o_me_isles : Ob) (H : Heap) (locs : List Loc) (ls : Array Slot), bk_X8_beats_42   o_me o_me_isles = some y → Wd dC dI A s.heap [wX8 h_me h_me_reader h_me_machine h_me_isles h_me_court h_me_study h_me_paper h_me_paperCourt h_me_past h_me_pastAhead h_me_movingAhead q_me k_me o_me, wX2 h_me_isles h_me_isles_now q_me_isles k_me_isles o_me_isles] H locs → lv_has ls 5 [(0, .ref h_me)] → W p l e ({ frames := 1, cells := 0, slots := 0, locals := 21 } : Room) s m ([.ref h_me, .int p0, .int p1, .int p2] : List Value).toArray below meth c H locs 0 0 Qz (F0 m 42 ls []) := by
    intro o_me o_me_isles H locs ls h hw hl
    unfold bk_X8_beats_42 at h
    refine lv_aload_n hx hb dX8_beats_42 rfl (lv_at hl 0 rfl) ?_
    refine lv_bipush (v := (-2)) hx hb dX8_beats_43 (by decide) ?_
    obtain ⟨z3, ez3, h⟩ := z_bd h
    refine xj_i (xrV (As := [.int (-2 : Int32)]) (rest := []) ⟨hx, hb, hml, hown, hts⟩ (m_X8_refuse l dC dI _ h_me h_me_reader h_me_machine h_me_isles h_me_court h_me_study h_me_paper h_me_paperCourt h_me_past h_me_pastAhead h_me_movingAhead q_me k_me o_me (-2 : Int32) z3 ez3) kw508 kw505 kw507 kw0 kw110 hd_X8_refuse ⟨rfl, rfl⟩ rfl rfl ⟨rfl, rfl⟩ hX hK hw [0] (by decide) rfl rfl rfl rfl rfl hl.1 rfl rfl dX8_beats_45) hw hA [0] (by decide) rfl rfl (fun H locs hw => ?_)
    have hw : Wd dC dI A s.heap [wX8 h_me h_me_reader h_me_machine h_me_isles h_me_court h_me_study h_me_paper h_me_paperCourt h_me_past h_me_pastAhead h_me_movingAhead q_me k_me z3.2, wX2 h_me_isles h_me_isles_now q_me_isles k_me_isles o_me_isles] H locs := hw
    have hy := Option.some.inj h
    rw [← hQz, ← hy]
    exact xr_i (v := z3.1) hx hb hr rfl hlk hK hw dX8_beats_48
  unfold f_X8_beats at h
  refine lv_iload_n hx hb dX8_beats_0 rfl (lv_at hl 1 rfl) ?_
  refine lv_iload_n hx hb dX8_beats_1 rfl (lv_at hl 2 rfl) ?_
  refine lv_icmp_eq (tgt := 14) hx hb dX8_beats_2 (by decide) (fun c => ?_) (fun c => ?_)
  · have h := z_t h c
    exact bk_14_0  o_me o_me_isles _ _ _ h hw (lv_sub hl [0] rfl)
  · have h := z_f h c
    refine lv_iload_n hx hb dX8_beats_5 rfl (lv_at hl 3 rfl) ?_
    refine lv_if_lt (tgt := 14) hx hb dX8_beats_6 (by decide) (fun c => ?_) (fun c => ?_)
    · have h := z_t h c
      exact bk_14_0  o_me o_me_isles _ _ _ h hw (lv_sub hl [0] rfl)
    · have h := z_f h c
      refine lv_iload_n hx hb dX8_beats_9 rfl (lv_at hl 3 rfl) ?_
      refine lv_iconst (v := 1) hx hb dX8_beats_10 (by decide) ?_
      refine lv_icmp_le (tgt := 20) hx hb dX8_beats_11 (by decide) (fun c => ?_) (fun c => ?_)
      · have h := z_t h c
        refine lv_aload_n hx hb dX8_beats_20 rfl (lv_at hl 0 rfl) ?_
        refine fgX8_2 hx hb hts hown hK hw 0 rfl kw444 dX8_beats_21 ?_
        refine lv_iload_n hx hb dX8_beats_24 rfl (lv_at hl 1 rfl) ?_
        obtain ⟨z2, ez2, h⟩ := z_bd h
        refine xj_i (xrV (As := [.int p0]) (rest := []) ⟨hx, hb, hml, hown, hts⟩ (m_X2_isPerson l dC dI _ h_me_isles h_me_isles_now q_me_isles k_me_isles o_me_isles p0 z2 ez2) kw504 kw501 kw502 kw503 kw115 hd_X2_isPerson ⟨rfl, rfl⟩ rfl rfl ⟨rfl, rfl⟩ hX hK hw [1] (by decide) rfl rfl rfl rfl rfl hl.1 rfl rfl dX8_beats_25) hw hA [1] (by decide) rfl rfl (fun H locs hw => ?_)
        have hw : Wd dC dI A s.heap [wX8 h_me h_me_reader h_me_machine h_me_isles h_me_court h_me_study h_me_paper h_me_paperCourt h_me_past h_me_pastAhead h_me_movingAhead q_me k_me o_me, wX2 h_me_isles h_me_isles_now q_me_isles k_me_isles o_me_isles] H locs := hw
        refine lv_if_eq (tgt := 42) hx hb dX8_beats_28 (by decide) (fun c => ?_) (fun c => ?_)
        · have h := z_t h c
          exact bk_42_1  o_me o_me_isles _ _ _ h hw (lv_sub hl [0] rfl)
        · have h := z_f h c
          refine lv_aload_n hx hb dX8_beats_31 rfl (lv_at hl 0 rfl) ?_
          refine fgX8_2 hx hb hts hown hK hw 0 rfl kw444 dX8_beats_32 ?_
          refine lv_iload_n hx hb dX8_beats_35 rfl (lv_at hl 2 rfl) ?_
          obtain ⟨z4, ez4, h⟩ := z_bd h
          refine xj_i (xrV (As := [.int p1]) (rest := []) ⟨hx, hb, hml, hown, hts⟩ (m_X2_isPerson l dC dI _ h_me_isles h_me_isles_now q_me_isles k_me_isles o_me_isles p1 z4 ez4) kw504 kw501 kw502 kw503 kw115 hd_X2_isPerson ⟨rfl, rfl⟩ rfl rfl ⟨rfl, rfl⟩ hX hK hw [1] (by decide) rfl rfl rfl rfl rfl hl.1 rfl rfl dX8_beats_36) hw hA [1] (by decide) rfl rfl (fun H locs hw => ?_)
          have hw : Wd dC dI A s.heap [wX8 h_me h_me_reader h_me_machine h_me_isles h_me_court h_me_study h_me_paper h_me_paperCourt h_me_past h_me_pastAhead h_me_movingAhead q_me k_me o_me, wX2 h_me_isles h_me_isles_now q_me_isles k_me_isles o_me_isles] H locs := hw
          refine lv_if_ne (tgt := 49) hx hb dX8_beats_39 (by decide) (fun c => ?_) (fun c => ?_)
          · have h := z_f h c
            refine lv_aload_n hx hb dX8_beats_49 rfl (lv_at hl 0 rfl) ?_
            refine fgX8_2 hx hb hts hown hK hw 0 rfl kw444 dX8_beats_50 ?_
            refine fgX2_3 hx hb hts hown hK hw 1 rfl kw308 dX8_beats_53 ?_
            refine lv_iload_n hx hb dX8_beats_56 rfl (lv_at hl 1 rfl) ?_
            obtain ⟨g5, h⟩ := z_gd h
            refine faX2_3 hx hb hK hw 1 rfl rfl g5 dX8_beats_57 ?_
            refine lv_iload_n hx hb dX8_beats_58 rfl (lv_at hl 2 rfl) ?_
            refine lv_ishr hx hb dX8_beats_59 ?_
            refine lv_iconst (v := 1) hx hb dX8_beats_60 (by decide) ?_
            refine lv_iand hx hb dX8_beats_61 ?_
            obtain ⟨x6, ex6, h⟩ := z_lt h
            refine lv_fi (v := x6) ex6.symm ?_
            refine lv_istore (lv' := [(4, .int x6), (0, .ref h_me), (1, .int p0), (2, .int p1), (3, .int p2)]) hx hb dX8_beats_62 hl (by decide) rfl (fun ls hl => ?_)
            refine lv_aload_n hx hb dX8_beats_64 rfl (lv_at hl 1 rfl) ?_
            refine fgX8_2 hx hb hts hown hK hw 0 rfl kw444 dX8_beats_65 ?_
            refine fgX2_3 hx hb hts hown hK hw 1 rfl kw308 dX8_beats_68 ?_
            refine lv_iload_n hx hb dX8_beats_71 rfl (lv_at hl 2 rfl) ?_
            refine lv_dup2_11 hx hb dX8_beats_72 rfl rfl ?_
            obtain ⟨g7, h⟩ := z_gd h
            refine faX2_3 hx hb hK hw 1 rfl rfl g7 dX8_beats_73 ?_
            refine lv_iload hx hb dX8_beats_74 (lv_at hl 0 rfl) ?_
            refine lv_iload_n hx hb dX8_beats_76 rfl (lv_at hl 4 rfl) ?_
            refine lv_ixor hx hb dX8_beats_77 ?_
            refine lv_iload_n hx hb dX8_beats_78 rfl (lv_at hl 3 rfl) ?_
            refine lv_ishl hx hb dX8_beats_79 ?_
            refine lv_ixor hx hb dX8_beats_80 ?_
            obtain ⟨g8, h⟩ := z_gd h
            refine fbX2_3 hx hb hK hw 1 rfl rfl g8 dX8_beats_81 (fun H locs hw => ?_)
            obtain ⟨o9, eo9, h⟩ := z_lt h
            have hw : Wd dC dI A s.heap [wX8 h_me h_me_reader h_me_machine h_me_isles h_me_court h_me_study h_me_paper h_me_paperCourt h_me_past h_me_pastAhead h_me_movingAhead q_me k_me o_me, wX2 h_me_isles h_me_isles_now q_me_isles k_me_isles o9] H locs := by rw [eo9]; exact hw
            refine lv_aload_n hx hb dX8_beats_82 rfl (lv_at hl 1 rfl) ?_
            refine lv_iload hx hb dX8_beats_83 (lv_at hl 0 rfl) ?_
            obtain ⟨z10, ez10, h⟩ := z_bd h
            refine xj_i (xrV (As := [.int x6]) (rest := []) ⟨hx, hb, hml, hown, hts⟩ (m_X8_grant l dC dI _ h_me h_me_reader h_me_machine h_me_isles h_me_court h_me_study h_me_paper h_me_paperCourt h_me_past h_me_pastAhead h_me_movingAhead q_me k_me o_me x6 z10 ez10) kw520 kw517 kw519 kw1 kw110 hd_X8_grant ⟨rfl, rfl⟩ rfl rfl ⟨rfl, rfl⟩ hX hK hw [0] (by decide) rfl rfl rfl rfl rfl hl.1 rfl rfl dX8_beats_85) hw hA [0] (by decide) rfl rfl (fun H locs hw => ?_)
            have hw : Wd dC dI A s.heap [wX8 h_me h_me_reader h_me_machine h_me_isles h_me_court h_me_study h_me_paper h_me_paperCourt h_me_past h_me_pastAhead h_me_movingAhead q_me k_me z10.2, wX2 h_me_isles h_me_isles_now q_me_isles k_me_isles o9] H locs := hw
            have hy := Option.some.inj h
            rw [← hQz, ← hy]
            exact xr_i (v := z10.1) hx hb hr rfl hlk hK hw dX8_beats_88
          · have h := z_t h c
            exact bk_42_1  o_me o_me_isles _ _ _ h hw (lv_sub hl [0] rfl)
      · have h := z_f h c
        exact bk_14_0  o_me o_me_isles _ _ _ h hw (lv_sub hl [0] rfl)

def f_X8_blots (o_me : Ob) : Option (Int32) :=
  some (gI o_me 13)
set_option maxHeartbeats 4000000 in
set_option maxRecDepth 100000 in
theorem m_X8_blots (l : Launch) (dC : Nat → ClassId) (dI : Nat → Nat → Nat) (sz : Nat) (h_me : Nat) (h_me_reader : Nat) (h_me_machine : Nat) (h_me_isles : Nat) (h_me_court : Nat) (h_me_study : Nat) (h_me_paper : Nat) (h_me_paperCourt : Nat) (h_me_past : Nat) (h_me_pastAhead : Nat) (h_me_movingAhead : Nat) (q_me : Nat → Nat) (k_me : Nat → ClassId) (o_me : Ob) (y : Int32) (h : f_X8_blots o_me = some y) : CI l yX8_blots cX8_blots 1 (some .int) ({ frames := 0, cells := 0, slots := 0, locals := 0 } : Room) dC dI sz [.ref h_me] [wX8 h_me h_me_reader h_me_machine h_me_isles h_me_court h_me_study h_me_paper h_me_paperCourt h_me_past h_me_pastAhead h_me_movingAhead q_me k_me o_me] [tX8 k_me] y [wX8 h_me h_me_reader h_me_machine h_me_isles h_me_court h_me_study h_me_paper h_me_paperCourt h_me_past h_me_pastAhead h_me_movingAhead q_me k_me o_me] := by
  refine CC_of (by decide) (Nat.le_of_ble_eq_true rfl) ?_
  intro p e s m below meth c A ls hx hb hml hr hlk hnm hown hts hX hK hP hD hA hl
  have hl : lv_has ls 1 [(0, .ref h_me)] := hl
  have hown : s.vm.findClass RX8 = some m.cls := hown
  have hw : Wd dC dI A s.heap [wX8 h_me h_me_reader h_me_machine h_me_isles h_me_court h_me_study h_me_paper h_me_paperCourt h_me_past h_me_pastAhead h_me_movingAhead q_me k_me o_me] s.heap [] := ⟨hP, hD, va_S.rf⟩
  generalize hQz : (MQ below (QI dC dI (fun r (_ : Unit) => r = y) (fun _ => Jn [wX8 h_me h_me_reader h_me_machine h_me_isles h_me_court h_me_study h_me_paper h_me_paperCourt h_me_past h_me_pastAhead h_me_movingAhead q_me k_me o_me]) (fun _ => Jt [tX8 k_me]) A) ([.ref h_me] : List Value).toArray s 0 0 A) = Qz
  clear hP hD hnm
  unfold f_X8_blots at h
  refine lv_aload_n hx hb dX8_blots_0 rfl (lv_at hl 0 rfl) ?_
  refine fgX8_13 hx hb hts hown hK hw 0 rfl kw455 dX8_blots_1 ?_
  have hy := Option.some.inj h
  rw [← hQz, ← hy]
  exact xr_i (v := gI o_me 13) hx hb hr rfl hlk hK hw dX8_blots_4

def f_X1_turnsTo_Q (o_me : Ob) (o_me_isles : Ob) (o_me_isles_now : Ob) (o_me_machine : Ob) (o_pool : List CR) (p0 : Option Nat) (p1 : Int32) (p2 : Int32) : Option (Int32 × Ob) :=
  (zop p0 o_pool ((f_X1_told_N o_me (1 : Int32) p1 p2 (2 : Int32)).map (fun v => (v, o_me_machine))) (fun cr => f_X1_told_O cr.2.2.2.1 cr.2.2.2.2.1 o_me o_me_isles o_me_isles_now o_me_machine cr.2.2.2.2.2 (1 : Int32) p1 p2 (2 : Int32))).bind fun z1 =>
  if (lg_cmp z1.1 (-9000000000000000000 : Int64)) = (0 : Int32) then
  (zgd (zin p1 7) <|
  some (((gA o_me_isles_now 0 p1.toNatClampNeg) + (1 : Int32)) - ((gA o_me_isles_now 0 p1.toNatClampNeg) + (1 : Int32)) / (10 : Int32) * (10 : Int32), z1.2))
  else
  ((f_X1_nearest z1.1 (9 : Int32)).bind fun z2 =>
  some (z2, z1.2))
set_option maxHeartbeats 4000000 in
set_option maxRecDepth 100000 in
theorem m_X1_turnsTo_Q (l : Launch) (dC : Nat → ClassId) (dI : Nat → Nat → Nat) (sz : Nat) (h_me : Nat) (h_me_isles : Nat) (h_me_machine : Nat) (h_me_isles_now : Nat) (q_me : Nat → Nat) (k_me : Nat → ClassId) (q_me_isles : Nat → Nat) (k_me_isles : Nat → ClassId) (q_me_isles_now : Nat → Nat) (k_me_isles_now : Nat → ClassId) (q_me_machine : Nat → Nat) (k_me_machine : Nat → ClassId) (o_me : Ob) (o_me_isles : Ob) (o_me_isles_now : Ob) (o_me_machine : Ob) (o_pool : List CR) (p0 : Option Nat) (p1 : Int32) (p2 : Int32) (y : Int32 × Ob) (h : f_X1_turnsTo_Q o_me o_me_isles o_me_isles_now o_me_machine o_pool p0 p1 p2 = some y) : CI l yX1_turnsTo cX1_turnsTo 6 (some .int) ({ frames := 3, cells := 0, slots := 0, locals := 84 } : Room) dC dI sz [.ref h_me, va_rf p0, .int p1, .int p2] [wX1 h_me h_me_isles h_me_machine q_me k_me o_me, wX2 h_me_isles h_me_isles_now q_me_isles k_me_isles o_me_isles, wX4 h_me_isles_now q_me_isles_now k_me_isles_now o_me_isles_now, wX3 h_me_machine q_me_machine k_me_machine o_me_machine, wPL o_pool] [tX1 k_me, tX2 k_me_isles, tX4 k_me_isles_now, tX3 k_me_machine, tPL o_pool] y.1 [wX1 h_me h_me_isles h_me_machine q_me k_me o_me, wX2 h_me_isles h_me_isles_now q_me_isles k_me_isles o_me_isles, wX4 h_me_isles_now q_me_isles_now k_me_isles_now o_me_isles_now, wX3 h_me_machine q_me_machine k_me_machine y.2, wPL o_pool] := by
  refine CC_of (by decide) (by cases p0 <;> exact Nat.le_of_ble_eq_true rfl) ?_
  intro p e s m below meth c A ls hx hb hml hr hlk hnm hown hts hX hK hP hD hA hl
  have hl : lv_has ls 6 [(0, .ref h_me), (1, va_rf p0), (2, .int p1), (3, .int p2)] := by
    have e9 : lv_args 0 [.ref h_me, va_rf p0, .int p1, .int p2] = [(0, .ref h_me), (1, va_rf p0), (2, .int p1), (3, .int p2)] := by cases p0 <;> rfl
    rw [← e9]; exact hl
  have hown : s.vm.findClass RX1 = some m.cls := hown
  have hw : Wd dC dI A s.heap [wX1 h_me h_me_isles h_me_machine q_me k_me o_me, wX2 h_me_isles h_me_isles_now q_me_isles k_me_isles o_me_isles, wX4 h_me_isles_now q_me_isles_now k_me_isles_now o_me_isles_now, wX3 h_me_machine q_me_machine k_me_machine o_me_machine, wPL o_pool] s.heap [] := ⟨hP, hD, va_S.rf⟩
  generalize hQz : (MQ below (QI dC dI (fun r (_ : Unit) => r = y.1) (fun _ => Jn [wX1 h_me h_me_isles h_me_machine q_me k_me o_me, wX2 h_me_isles h_me_isles_now q_me_isles k_me_isles o_me_isles, wX4 h_me_isles_now q_me_isles_now k_me_isles_now o_me_isles_now, wX3 h_me_machine q_me_machine k_me_machine y.2, wPL o_pool]) (fun _ => Jt [tX1 k_me, tX2 k_me_isles, tX4 k_me_isles_now, tX3 k_me_machine, tPL o_pool]) A) ([.ref h_me, va_rf p0, .int p1, .int p2] : List Value).toArray s 0 0 A) = Qz
  clear hP hD hnm
  unfold f_X1_turnsTo_Q at h
  refine lv_aload_n hx hb dX1_turnsTo_0 rfl (lv_at hl 0 rfl) ?_
  refine xaload_n hx hb dX1_turnsTo_1 rfl (lv_at hl 1 rfl) ?_
  refine lv_iconst (v := 1) hx hb dX1_turnsTo_2 (by decide) ?_
  refine lv_iload_n hx hb dX1_turnsTo_3 rfl (lv_at hl 2 rfl) ?_
  refine lv_iload_n hx hb dX1_turnsTo_4 rfl (lv_at hl 3 rfl) ?_
  refine lv_iconst (v := 2) hx hb dX1_turnsTo_5 (by decide) ?_
  obtain ⟨z1, ez1, h⟩ := z_bd h
  have kk9 : ∀ (H : Heap) (locs : List Loc), Wd dC dI A s.heap [wX1 h_me h_me_isles h_me_machine q_me k_me o_me, wX2 h_me_isles h_me_isles_now q_me_isles k_me_isles o_me_isles, wX4 h_me_isles_now q_me_isles_now k_me_isles_now o_me_isles_now, wX3 h_me_machine q_me_machine k_me_machine z1.2, wPL o_pool] H locs → W p l e ({ frames := 3, cells := 0, slots := 0, locals := 84 } : Room) s m ([.ref h_me, va_rf p0, .int p1, .int p2] : List Value).toArray below meth c H locs 0 0 Qz (F0 m 9 ls [.long z1.1]) := by
    intro H locs hw
    refine lv_lstore (lv' := [(4, .long z1.1), (0, .ref h_me), (1, va_rf p0), (2, .int p1), (3, .int p2)]) hx hb dX1_turnsTo_9 hl (by decide) rfl (fun ls hl => ?_)
    refine lv_lload hx hb dX1_turnsTo_11 (lv_at hl 0 rfl) ?_
    refine lv_ldc2 (v := (-9000000000000000000)) hx hb hown (hts _ kw550) dX1_turnsTo_13 ?_
    refine W.lcmp hx hb dX1_turnsTo_16 ?_
    refine lv_if_ne (tgt := 40) hx hb dX1_turnsTo_17 (by decide) (fun c => ?_) (fun c => ?_)
    · have h := z_f h c
      refine lv_lload hx hb dX1_turnsTo_40 (lv_at hl 0 rfl) ?_
      refine lv_bipush (v := 9) hx hb dX1_turnsTo_42 (by decide) ?_
      obtain ⟨z2, ez2, h⟩ := z_bd h
      refine xj_i (xrS (As := [.long z1.1, .int (9 : Int32)]) (rest := []) ⟨hx, hb, hml, hown, hts⟩ (m_X1_nearest l dC dI _  z1.1 (9 : Int32) z2 ez2) kw575 kw573 kw574 kw117 hd_X1_nearest ⟨rfl, rfl⟩ rfl rfl ⟨rfl, rfl⟩ hX hK hw [] (by decide) rfl rfl hl.1 rfl rfl dX1_turnsTo_44) hw hA [] (by decide) rfl rfl (fun H locs hw => ?_)
      have hy := Option.some.inj h
      rw [← hQz, ← hy]
      exact xr_i (v := z2) hx hb hr rfl hlk hK hw dX1_turnsTo_47
    · have h := z_t h c
      refine lv_aload_n hx hb dX1_turnsTo_20 rfl (lv_at hl 1 rfl) ?_
      refine fgX1_0 hx hb hts hown hK hw 0 rfl kw363 dX1_turnsTo_21 ?_
      refine fgX2_0 hx hb hts hown hK hw 1 rfl kw299 dX1_turnsTo_24 ?_
      refine fgX4_0 hx hb hts hown hK hw 2 rfl kw263 dX1_turnsTo_27 ?_
      refine lv_iload_n hx hb dX1_turnsTo_30 rfl (lv_at hl 3 rfl) ?_
      obtain ⟨g3, h⟩ := z_gd h
      refine faX4_0 hx hb hK hw 2 rfl rfl g3 dX1_turnsTo_31 ?_
      refine lv_iconst (v := 1) hx hb dX1_turnsTo_32 (by decide) ?_
      refine lv_iadd hx hb dX1_turnsTo_33 ?_
      refine lv_bipush (v := 10) hx hb dX1_turnsTo_34 (by decide) ?_
      refine lv_irem hx hb dX1_turnsTo_36 (by decide) ?_
      refine lv_goto (tgt := 47) hx hb dX1_turnsTo_37 (by decide) ?_
      have hy := Option.some.inj h
      rw [← hQz, ← hy]
      exact xr_i (v := ((gA o_me_isles_now 0 p1.toNatClampNeg) + (1 : Int32)) - ((gA o_me_isles_now 0 p1.toNatClampNeg) + (1 : Int32)) / (10 : Int32) * (10 : Int32)) hx hb hr rfl hlk hK hw dX1_turnsTo_47
  rcases z_op ez1 with ⟨er, ek⟩ | ⟨⟨h_law, q_law, k_law, nc_law, ns_law, o_law⟩, l1, l2, er, el, ek⟩
  · refine W.eq (g2 := F0 m 6 ls [.int (2 : Int32), .int p2, .int p1, .int (1 : Int32), .null, .ref h_me]) (by rw [er]; rfl) ?_
    obtain ⟨v9, ev9, ek⟩ := Option.map_eq_some_iff.mp ek
    refine xj_l (xrV (As := [.null, .int (1 : Int32), .int p1, .int p2, .int (2 : Int32)]) (rest := []) ⟨hx, hb, hml, hown, hts⟩ (m_X1_told_N l dC dI _ h_me h_me_isles h_me_machine q_me k_me o_me (1 : Int32) p1 p2 (2 : Int32) v9 ev9) kw547 kw544 kw546 kw2 kw117 hd_X1_told ⟨rfl, rfl⟩ rfl rfl ⟨rfl, rfl⟩ hX hK hw [0] (by decide) rfl rfl rfl rfl rfl hl.1 rfl rfl dX1_turnsTo_6) hw hA [0] (by decide) rfl rfl (fun H locs hw => ?_)
    refine lv_fl (v := z1.1) (by rw [← ek]) ?_
    refine kk9 H locs ?_
    rw [← ek]
    exact hw
  · refine W.eq (g2 := F0 m 6 ls [.int (2 : Int32), .int p2, .int p1, .int (1 : Int32), .ref h_law, .ref h_me]) (by rw [er]; rfl) ?_
    have hw := wd_split 4 (l1 := l1) (l2 := l2) (c := (h_law, q_law, k_law, nc_law, ns_law, o_law)) (by rw [← el]; rfl) hw
    have hK9 := wk_split (Ts := [tX1 k_me, tX2 k_me_isles, tX4 k_me_isles_now, tX3 k_me_machine, tPL o_pool]) 4 (l1 := l1) (l2 := l2) (c := (h_law, q_law, k_law, nc_law, ns_law, o_law)) (by rw [← el]; rfl) hK
    have hw : Wd dC dI A s.heap [wX1 h_me h_me_isles h_me_machine q_me k_me o_me, wX2 h_me_isles h_me_isles_now q_me_isles k_me_isles o_me_isles, wX4 h_me_isles_now q_me_isles_now k_me_isles_now o_me_isles_now, wX3 h_me_machine q_me_machine k_me_machine o_me_machine, wPL (l1 ++ l2), wX0 h_law nc_law ns_law q_law k_law o_law] _ _ := hw
    have hK9 : va_K (dC, dI) vwCl (Jt [tX1 k_me, tX2 k_me_isles, tX4 k_me_isles_now, tX3 k_me_machine, tPL (l1 ++ l2), tX0 k_law]) s := hK9
    refine xj_l (xrV (As := [.ref h_law, .int (1 : Int32), .int p1, .int p2, .int (2 : Int32)]) (rest := []) ⟨hx, hb, hml, hown, hts⟩ (m_X1_told_O l dC dI _ h_me h_me_isles h_me_machine h_me_isles_now h_law q_me k_me q_me_isles k_me_isles q_me_isles_now k_me_isles_now q_me_machine k_me_machine q_law k_law nc_law ns_law o_me o_me_isles o_me_isles_now o_me_machine o_law (1 : Int32) p1 p2 (2 : Int32) z1 ek) kw547 kw544 kw546 kw2 kw117 hd_X1_told ⟨rfl, rfl⟩ rfl rfl ⟨rfl, rfl⟩ hX hK9 hw [0, 1, 2, 3, 5] (by decide) rfl rfl rfl rfl rfl hl.1 rfl rfl dX1_turnsTo_6) hw hA [0, 1, 2, 3, 5] (by decide) rfl rfl (fun H locs hw => ?_)
    have hw := wd_join 4 (l1 := l1) (l2 := l2) (c := (h_law, q_law, k_law, nc_law, ns_law, o_law)) (Ls := [wX1 h_me h_me_isles h_me_machine q_me k_me o_me, wX2 h_me_isles h_me_isles_now q_me_isles k_me_isles o_me_isles, wX4 h_me_isles_now q_me_isles_now k_me_isles_now o_me_isles_now, wX3 h_me_machine q_me_machine k_me_machine z1.2, wPL o_pool]) rfl hw
    rw [← el] at hw
    exact kk9 H locs hw

def lb_X7_fitsAllSeen_2 (o_me : Ob) (o_me_court : Ob) (o_me_court_isles : Ob) (o_me_court_isles_now : Ob) (o_pool : List CR)  (rec_2_0 : Int32 × Int32 × Ob → Option (Int32 × Ob)) (v1 : Int32) (v2 : Int32) (o_me_court_machine : Ob) : Option (Int32 × Ob) :=
  if (gI o_me_court_isles 8) ≤ v2 then
  (some ((1 : Int32), o_me_court_machine))
  else
  ((f_X2_lawInForce o_me_court_isles).bind fun z1 =>
  zgd (zin v2 6) <|
  (f_X1_turnsTo_Q o_me_court o_me_court_isles o_me_court_isles_now o_me_court_machine o_pool z1 v1 (gA o_me_court_isles 4 v2.toNatClampNeg)).bind fun z3 =>
  zgd (zin v2 6) <|
  if z3.1 = (gA o_me_court_isles 5 v2.toNatClampNeg) then
  (zlt (v2 + (1 : Int32)) fun x5 =>
  rec_2_0 (v1, x5, z3.2))
  else
  (some ((0 : Int32), z3.2)))
def lp_X7_fitsAllSeen_2 (o_me : Ob) (o_me_court : Ob) (o_me_court_isles : Ob) (o_me_court_isles_now : Ob) (o_pool : List CR)  : Nat → (Int32 × Int32 × Ob) → Option (Int32 × Ob) := zit (fun rec a => lb_X7_fitsAllSeen_2 o_me o_me_court o_me_court_isles o_me_court_isles_now o_pool  rec a.1 a.2.1 a.2.2)
def f_X7_fitsAllSeen (o_me : Ob) (o_me_court : Ob) (o_me_court_isles : Ob) (o_me_court_isles_now : Ob) (o_me_court_machine : Ob) (o_pool : List CR) (p0 : Int32) : Option (Int32 × Ob) :=
  lp_X7_fitsAllSeen_2 o_me o_me_court o_me_court_isles o_me_court_isles_now o_pool  zfu (p0, (0 : Int32), o_me_court_machine)
set_option maxHeartbeats 4000000 in
set_option maxRecDepth 100000 in
theorem m_X7_fitsAllSeen (l : Launch) (dC : Nat → ClassId) (dI : Nat → Nat → Nat) (sz : Nat) (h_me : Nat) (h_me_court : Nat) (h_me_court_isles : Nat) (h_me_court_machine : Nat) (h_me_court_isles_now : Nat) (q_me : Nat → Nat) (k_me : Nat → ClassId) (q_me_court : Nat → Nat) (k_me_court : Nat → ClassId) (q_me_court_isles : Nat → Nat) (k_me_court_isles : Nat → ClassId) (q_me_court_isles_now : Nat → Nat) (k_me_court_isles_now : Nat → ClassId) (q_me_court_machine : Nat → Nat) (k_me_court_machine : Nat → ClassId) (o_me : Ob) (o_me_court : Ob) (o_me_court_isles : Ob) (o_me_court_isles_now : Ob) (o_me_court_machine : Ob) (o_pool : List CR) (p0 : Int32) (y : Int32 × Ob) (h : f_X7_fitsAllSeen o_me o_me_court o_me_court_isles o_me_court_isles_now o_me_court_machine o_pool p0 = some y) : CI l yX7_fitsAllSeen cX7_fitsAllSeen 3 (some .boolean) ({ frames := 4, cells := 0, slots := 0, locals := 109 } : Room) dC dI sz [.ref h_me, .int p0] [wX7 h_me h_me_court h_me_court_isles q_me k_me o_me, wX1 h_me_court h_me_court_isles h_me_court_machine q_me_court k_me_court o_me_court, wX2 h_me_court_isles h_me_court_isles_now q_me_court_isles k_me_court_isles o_me_court_isles, wX4 h_me_court_isles_now q_me_court_isles_now k_me_court_isles_now o_me_court_isles_now, wX3 h_me_court_machine q_me_court_machine k_me_court_machine o_me_court_machine, wPL o_pool] [tX7 k_me, tX1 k_me_court, tX2 k_me_court_isles, tX4 k_me_court_isles_now, tX3 k_me_court_machine, tPL o_pool] y.1 [wX7 h_me h_me_court h_me_court_isles q_me k_me o_me, wX1 h_me_court h_me_court_isles h_me_court_machine q_me_court k_me_court o_me_court, wX2 h_me_court_isles h_me_court_isles_now q_me_court_isles k_me_court_isles o_me_court_isles, wX4 h_me_court_isles_now q_me_court_isles_now k_me_court_isles_now o_me_court_isles_now, wX3 h_me_court_machine q_me_court_machine k_me_court_machine y.2, wPL o_pool] := by
  refine CC_of (by decide) (Nat.le_of_ble_eq_true rfl) ?_
  intro p e s m below meth c A ls hx hb hml hr hlk hnm hown hts hX hK hP hD hA hl
  have hl : lv_has ls 3 [(0, .ref h_me), (1, .int p0)] := hl
  have hown : s.vm.findClass RX7 = some m.cls := hown
  have hw : Wd dC dI A s.heap [wX7 h_me h_me_court h_me_court_isles q_me k_me o_me, wX1 h_me_court h_me_court_isles h_me_court_machine q_me_court k_me_court o_me_court, wX2 h_me_court_isles h_me_court_isles_now q_me_court_isles k_me_court_isles o_me_court_isles, wX4 h_me_court_isles_now q_me_court_isles_now k_me_court_isles_now o_me_court_isles_now, wX3 h_me_court_machine q_me_court_machine k_me_court_machine o_me_court_machine, wPL o_pool] s.heap [] := ⟨hP, hD, va_S.rf⟩
  generalize hQz : (MQ below (QI dC dI (fun r (_ : Unit) => r = y.1) (fun _ => Jn [wX7 h_me h_me_court h_me_court_isles q_me k_me o_me, wX1 h_me_court h_me_court_isles h_me_court_machine q_me_court k_me_court o_me_court, wX2 h_me_court_isles h_me_court_isles_now q_me_court_isles k_me_court_isles o_me_court_isles, wX4 h_me_court_isles_now q_me_court_isles_now k_me_court_isles_now o_me_court_isles_now, wX3 h_me_court_machine q_me_court_machine k_me_court_machine y.2, wPL o_pool]) (fun _ => Jt [tX7 k_me, tX1 k_me_court, tX2 k_me_court_isles, tX4 k_me_court_isles_now, tX3 k_me_court_machine, tPL o_pool]) A) ([.ref h_me, .int p0] : List Value).toArray s 0 0 A) = Qz
  clear hP hD hnm
  have lp_2_0 : ∀ (N : Nat), ∀ (v1 : Int32) (v2 : Int32) (o_me_court_machine : Ob) (H : Heap) (locs : List Loc) (ls : Array Slot), lp_X7_fitsAllSeen_2 o_me o_me_court o_me_court_isles o_me_court_isles_now o_pool  N (v1, v2, o_me_court_machine) = some y → Wd dC dI A s.heap [wX7 h_me h_me_court h_me_court_isles q_me k_me o_me, wX1 h_me_court h_me_court_isles h_me_court_machine q_me_court k_me_court o_me_court, wX2 h_me_court_isles h_me_court_isles_now q_me_court_isles k_me_court_isles o_me_court_isles, wX4 h_me_court_isles_now q_me_court_isles_now k_me_court_isles_now o_me_court_isles_now, wX3 h_me_court_machine q_me_court_machine k_me_court_machine o_me_court_machine, wPL o_pool] H locs → lv_has ls 3 [(0, .ref h_me), (1, .int v1), (2, .int v2)] → W p l e ({ frames := 4, cells := 0, slots := 0, locals := 109 } : Room) s m ([.ref h_me, .int p0] : List Value).toArray below meth c H locs 0 0 Qz (F0 m 2 ls []) := by
    intro N
    induction N with
    | zero =>
      intro v1 v2 o_me_court_machine H locs ls h hw hl
      exact absurd (show (none : Option (Int32 × Ob)) = some y from h) (by simp)
    | succ N ih =>
      intro v1 v2 o_me_court_machine H locs ls h hw hl
      have h : lb_X7_fitsAllSeen_2 o_me o_me_court o_me_court_isles o_me_court_isles_now o_pool  (lp_X7_fitsAllSeen_2 o_me o_me_court o_me_court_isles o_me_court_isles_now o_pool  N) v1 v2 o_me_court_machine = some y := h
      unfold lb_X7_fitsAllSeen_2 at h
      refine lv_iload_n hx hb dX7_fitsAllSeen_2 rfl (lv_at hl 2 rfl) ?_
      refine lv_aload_n hx hb dX7_fitsAllSeen_3 rfl (lv_at hl 0 rfl) ?_
      refine fgX7_1 hx hb hts hown hK hw 0 rfl kw387 dX7_fitsAllSeen_4 ?_
      refine fgX2_8 hx hb hts hown hK hw 2 rfl kw320 dX7_fitsAllSeen_7 ?_
      refine lv_icmp_ge (tgt := 57) hx hb dX7_fitsAllSeen_10 (by decide) (fun c => ?_) (fun c => ?_)
      · have h := z_t h c
        refine lv_iconst (v := 1) hx hb dX7_fitsAllSeen_57 (by decide) ?_
        have hy := Option.some.inj h
        rw [← hQz, ← hy]
        exact xr_i (v := (1 : Int32)) hx hb hr rfl hlk hK hw dX7_fitsAllSeen_58
      · have h := z_f h c
        refine lv_aload_n hx hb dX7_fitsAllSeen_13 rfl (lv_at hl 0 rfl) ?_
        refine fgX7_0 hx hb hts hown hK hw 0 rfl kw386 dX7_fitsAllSeen_14 ?_
        refine lv_aload_n hx hb dX7_fitsAllSeen_17 rfl (lv_at hl 0 rfl) ?_
        refine fgX7_1 hx hb hts hown hK hw 0 rfl kw387 dX7_fitsAllSeen_18 ?_
        obtain ⟨z1, ez1, h⟩ := z_bd h
        refine xj_q (xrV (As := []) (rest := [.ref h_me_court]) ⟨hx, hb, hml, hown, hts⟩ (m_X2_lawInForce l dC dI _ h_me_court_isles h_me_court_isles_now q_me_court_isles k_me_court_isles o_me_court_isles z1 ez1) kw531 kw955 kw529 kw530 kw115 hd_X2_lawInForce ⟨rfl, rfl⟩ rfl rfl ⟨rfl, rfl⟩ hX hK hw [2] (by decide) rfl rfl rfl rfl rfl hl.1 rfl rfl dX7_fitsAllSeen_21) hw hA [2] (by decide) rfl rfl (fun H locs hw => ?_)
        have hw : Wd dC dI A s.heap [wX7 h_me h_me_court h_me_court_isles q_me k_me o_me, wX1 h_me_court h_me_court_isles h_me_court_machine q_me_court k_me_court o_me_court, wX2 h_me_court_isles h_me_court_isles_now q_me_court_isles k_me_court_isles o_me_court_isles, wX4 h_me_court_isles_now q_me_court_isles_now k_me_court_isles_now o_me_court_isles_now, wX3 h_me_court_machine q_me_court_machine k_me_court_machine o_me_court_machine, wPL o_pool] H locs := hw
        refine lv_iload_n hx hb dX7_fitsAllSeen_24 rfl (lv_at hl 1 rfl) ?_
        refine lv_aload_n hx hb dX7_fitsAllSeen_25 rfl (lv_at hl 0 rfl) ?_
        refine fgX7_1 hx hb hts hown hK hw 0 rfl kw387 dX7_fitsAllSeen_26 ?_
        refine fgX2_4 hx hb hts hown hK hw 2 rfl kw311 dX7_fitsAllSeen_29 ?_
        refine lv_iload_n hx hb dX7_fitsAllSeen_32 rfl (lv_at hl 2 rfl) ?_
        obtain ⟨g2, h⟩ := z_gd h
        refine faX2_4 hx hb hK hw 2 rfl rfl g2 dX7_fitsAllSeen_33 ?_
        obtain ⟨z3, ez3, h⟩ := z_bd h
        refine xj_i (xrV (As := [va_rf z1, .int v1, .int (gA o_me_court_isles 4 v2.toNatClampNeg)]) (rest := []) ⟨hx, hb, hml, hown, hts⟩ (m_X1_turnsTo_Q l dC dI _ h_me_court h_me_court_isles h_me_court_machine h_me_court_isles_now q_me_court k_me_court q_me_court_isles k_me_court_isles q_me_court_isles_now k_me_court_isles_now q_me_court_machine k_me_court_machine o_me_court o_me_court_isles o_me_court_isles_now o_me_court_machine o_pool z1 v1 (gA o_me_court_isles 4 v2.toNatClampNeg) z3 ez3) kw875 kw991 kw873 kw874 kw117 hd_X1_turnsTo ⟨rfl, rfl⟩ rfl rfl ⟨rfl, rfl⟩ hX hK hw [1, 2, 3, 4, 5] (by decide) rfl rfl rfl rfl rfl hl.1 rfl rfl dX7_fitsAllSeen_34) hw hA [1, 2, 3, 4, 5] (by decide) rfl rfl (fun H locs hw => ?_)
        have hw : Wd dC dI A s.heap [wX7 h_me h_me_court h_me_court_isles q_me k_me o_me, wX1 h_me_court h_me_court_isles h_me_court_machine q_me_court k_me_court o_me_court, wX2 h_me_court_isles h_me_court_isles_now q_me_court_isles k_me_court_isles o_me_court_isles, wX4 h_me_court_isles_now q_me_court_isles_now k_me_court_isles_now o_me_court_isles_now, wX3 h_me_court_machine q_me_court_machine k_me_court_machine z3.2, wPL o_pool] H locs := hw
        refine lv_aload_n hx hb dX7_fitsAllSeen_37 rfl (lv_at hl 0 rfl) ?_
        refine fgX7_1 hx hb hts hown hK hw 0 rfl kw387 dX7_fitsAllSeen_38 ?_
        refine fgX2_5 hx hb hts hown hK hw 2 rfl kw313 dX7_fitsAllSeen_41 ?_
        refine lv_iload_n hx hb dX7_fitsAllSeen_44 rfl (lv_at hl 2 rfl) ?_
        obtain ⟨g4, h⟩ := z_gd h
        refine faX2_5 hx hb hK hw 2 rfl rfl g4 dX7_fitsAllSeen_45 ?_
        refine lv_icmp_eq (tgt := 51) hx hb dX7_fitsAllSeen_46 (by decide) (fun c => ?_) (fun c => ?_)
        · have h := z_t h c
          obtain ⟨x5, ex5, h⟩ := z_lt h
          refine lv_iinc (v := x5) (lv' := [(2, .int x5), (0, .ref h_me), (1, .int v1)]) hx hb dX7_fitsAllSeen_51 hl (k := 2) rfl ((congrArg (v2 + ·) (show Int32.ofInt 1 = (1 : Int32) from by decide)).trans ex5.symm) (by decide) rfl (fun ls hl => ?_)
          refine lv_goto (tgt := 2) hx hb dX7_fitsAllSeen_54 (by decide) ?_
          exact ih v1 x5 z3.2 _ _ _ h hw (lv_sub hl [1, 2, 0] rfl)
        · have h := z_f h c
          refine lv_iconst (v := 0) hx hb dX7_fitsAllSeen_49 (by decide) ?_
          have hy := Option.some.inj h
          rw [← hQz, ← hy]
          exact xr_i (v := (0 : Int32)) hx hb hr rfl hlk hK hw dX7_fitsAllSeen_50
  unfold f_X7_fitsAllSeen at h
  refine lv_iconst (v := 0) hx hb dX7_fitsAllSeen_0 (by decide) ?_
  refine lv_istore_n (lv' := [(2, .int (0 : Int32)), (0, .ref h_me), (1, .int p0)]) hx hb dX7_fitsAllSeen_1 rfl hl (by decide) rfl (fun ls hl => ?_)
  exact lp_2_0  zfu p0 (0 : Int32) o_me_court_machine _ _ _ h hw (lv_sub hl [1, 2, 0] rfl)

