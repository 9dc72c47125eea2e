def f_X9_in (p0 : Int64) (p1 : Int64) (p2 : Int64) : Option (Int32) :=
  if (lg_cmp p0 p1) < (0 : Int32) then
  (some (0 : Int32))
  else
  (if (0 : Int32) < (lg_cmp p0 p2) then
  (some (0 : Int32))
  else
  (some (1 : Int32)))
set_option maxHeartbeats 4000000 in
set_option maxRecDepth 100000 in
theorem m_X9_in (l : Launch) (dC : Nat → ClassId) (dI : Nat → Nat → Nat) (sz : Nat)  (p0 : Int64) (p1 : Int64) (p2 : Int64) (y : Int32) (h : f_X9_in p0 p1 p2 = some y) : CI l yX9_in cX9_in 6 (some .boolean) ({ frames := 0, cells := 0, slots := 0, locals := 0 } : Room) dC dI sz [.long p0, .long p1, .long p2] [] [] y [] := by
  refine CC_of (by decide) (Nat.le_of_ble_eq_true rfl) ?_
  intro p e s m below meth c A ls hx hb hml hr hlk hnm hown hts hX hK hP hD hA hl
  have hl : lv_has ls 6 [(0, .long p0), (2, .long p1), (4, .long p2)] := hl
  have hown : s.vm.findClass RX9 = some m.cls := hown
  have hw : Wd dC dI A s.heap [] s.heap [] := ⟨hP, hD, va_S.rf⟩
  generalize hQz : (MQ below (QI dC dI (fun r (_ : Unit) => r = y) (fun _ => Jn []) (fun _ => Jt []) A) ([.long p0, .long p1, .long p2] : List Value).toArray s 0 0 A) = Qz
  clear hP hD hnm
  unfold f_X9_in at h
  refine lv_lload_n hx hb dX9_in_0 rfl (lv_at hl 0 rfl) ?_
  refine lv_lload_n hx hb dX9_in_1 rfl (lv_at hl 1 rfl) ?_
  refine W.lcmp hx hb dX9_in_2 ?_
  refine lv_if_lt (tgt := 17) hx hb dX9_in_3 (by decide) (fun c => ?_) (fun c => ?_)
  · have h := z_t h c
    refine lv_iconst (v := 0) hx hb dX9_in_17 (by decide) ?_
    have hy := Option.some.inj h
    rw [← hQz, ← hy]
    exact xr_i (v := (0 : Int32)) hx hb hr rfl hlk hK hw dX9_in_18
  · have h := z_f h c
    refine lv_lload_n hx hb dX9_in_6 rfl (lv_at hl 0 rfl) ?_
    refine lv_lload hx hb dX9_in_7 (lv_at hl 2 rfl) ?_
    refine W.lcmp hx hb dX9_in_9 ?_
    refine lv_if_gt (tgt := 17) hx hb dX9_in_10 (by decide) (fun c => ?_) (fun c => ?_)
    · have h := z_t h c
      refine lv_iconst (v := 0) hx hb dX9_in_17 (by decide) ?_
      have hy := Option.some.inj h
      rw [← hQz, ← hy]
      exact xr_i (v := (0 : Int32)) hx hb hr rfl hlk hK hw dX9_in_18
    · have h := z_f h c
      refine lv_iconst (v := 1) hx hb dX9_in_13 (by decide) ?_
      refine lv_goto (tgt := 18) hx hb dX9_in_14 (by decide) ?_
      have hy := Option.some.inj h
      rw [← hQz, ← hy]
      exact xr_i (v := (1 : Int32)) hx hb hr rfl hlk hK hw dX9_in_18

def f_X9_isRace (p0 : Int32) : Option (Int32) :=
  (f_X9_in p0.toInt64 (0 : Int64) (3 : Int64)).bind fun z1 =>
  zgd (zbo z1) <|
  some z1
set_option maxHeartbeats 4000000 in
set_option maxRecDepth 100000 in
theorem m_X9_isRace (l : Launch) (dC : Nat → ClassId) (dI : Nat → Nat → Nat) (sz : Nat)  (p0 : Int32) (y : Int32) (h : f_X9_isRace p0 = some y) : CI l yX9_isRace cX9_isRace 1 (some .boolean) ({ frames := 1, cells := 0, slots := 0, locals := 25 } : Room) dC dI sz [.int p0] [] [] y [] := by
  refine CC_of (by decide) (Nat.le_of_ble_eq_true rfl) ?_
  intro p e s m below meth c A ls hx hb hml hr hlk hnm hown hts hX hK hP hD hA hl
  have hl : lv_has ls 1 [(0, .int p0)] := hl
  have hown : s.vm.findClass RX9 = some m.cls := hown
  have hw : Wd dC dI A s.heap [] s.heap [] := ⟨hP, hD, va_S.rf⟩
  generalize hQz : (MQ below (QI dC dI (fun r (_ : Unit) => r = y) (fun _ => Jn []) (fun _ => Jt []) A) ([.int p0] : List Value).toArray s 0 0 A) = Qz
  clear hP hD hnm
  unfold f_X9_isRace at h
  refine lv_iload_n hx hb dX9_isRace_0 rfl (lv_at hl 0 rfl) ?_
  refine lv_i2l hx hb dX9_isRace_1 rfl ?_
  refine lv_lconst (v := 0) hx hb dX9_isRace_2 (by decide) ?_
  refine lv_ldc2 (v := 3) hx hb hown (hts _ kw1445) dX9_isRace_3 ?_
  obtain ⟨z1, ez1, h⟩ := z_bd h
  refine xj_i (xrS (As := [.long p0.toInt64, .long (0 : Int64), .long (3 : Int64)]) (rest := []) ⟨hx, hb, hml, hown, hts⟩ (m_X9_in l dC dI _  p0.toInt64 (0 : Int64) (3 : Int64) z1 ez1) kw1385 kw1383 kw1384 kw120 hd_X9_in ⟨rfl, rfl⟩ rfl rfl ⟨rfl, rfl⟩ hX hK hw [] (by decide) rfl rfl hl.1 rfl rfl dX9_isRace_6) hw hA [] (by decide) rfl rfl (fun H locs hw => ?_)
  obtain ⟨g2, h⟩ := z_gd h
  have hy := Option.some.inj h
  rw [← hQz, ← hy]
  exact xr_i (v := z1) hx hb hr (z_nar g2) hlk hK hw dX9_isRace_9

def bk_X9_reckon_72   (v2 : Int64) (v4 : Int64) (s0 : Int32) (o_me : Ob) : Option (Int64 × Ob) :=
  zgd (zbo s0) <|
  zlt (sI o_me 38 s0) fun o3 =>
  if (gI o3 38) = (0 : Int32) then
  (zgd (decide (¬ v4 = 0)) <|
  some (v2 / v4, o3))
  else
  (some ((0 : Int64), o3))
def bk_X9_reckon_104   (v2 : Int64) (v4 : Int64) (s0 : Int32) (o_me : Ob) : Option (Int64 × Ob) :=
  zgd (zbo s0) <|
  zlt (sI o_me 38 s0) fun o6 =>
  if (gI o6 38) = (0 : Int32) then
  (zgd (decide (¬ v4 = 0)) <|
  some (v2 - v2 / v4 * v4, o6))
  else
  (some ((0 : Int64), o6))
def f_X9_reckon (o_me : Ob) (p0 : Int32) (p1 : Int64) (p2 : Int64) : Option (Int64 × Ob) :=
  if p0 = (20 : Int32) then
  (some (p1 + p2, o_me))
  else
  (if p0 = (21 : Int32) then
  (some (p1 - p2, o_me))
  else
  (if p0 = (22 : Int32) then
  (some (p1 * p2, o_me))
  else
  (if p0 = (23 : Int32) then
  (if (lg_cmp p2 (0 : Int64)) = (0 : Int32) then
  (bk_X9_reckon_72   p1 p2 (1 : Int32) o_me)
  else
  (bk_X9_reckon_72   p1 p2 (0 : Int32) o_me))
  else
  (if p0 = (24 : Int32) then
  (if (lg_cmp p2 (0 : Int64)) = (0 : Int32) then
  (bk_X9_reckon_104   p1 p2 (1 : Int32) o_me)
  else
  (bk_X9_reckon_104   p1 p2 (0 : Int32) o_me))
  else
  (if p0 = (25 : Int32) then
  (if (0 : Int32) ≤ (lg_cmp p1 p2) then
  (some ((0 : Int64), o_me))
  else
  (some ((1 : Int64), o_me)))
  else
  (if p0 = (26 : Int32) then
  (if (lg_cmp p1 p2) ≤ (0 : Int32) then
  (some ((0 : Int64), o_me))
  else
  (some ((1 : Int64), o_me)))
  else
  (if (lg_cmp p1 p2) = (0 : Int32) then
  (some ((1 : Int64), o_me))
  else
  (some ((0 : Int64), o_me)))))))))
set_option maxHeartbeats 4000000 in
set_option maxRecDepth 100000 in
theorem m_X9_reckon (l : Launch) (dC : Nat → ClassId) (dI : Nat → Nat → Nat) (sz : Nat) (h_me : Nat) (q_me : Nat → Nat) (k_me : Nat → ClassId) (o_me : Ob) (p0 : Int32) (p1 : Int64) (p2 : Int64) (y : Int64 × Ob) (h : f_X9_reckon o_me p0 p1 p2 = some y) : CL l yX9_reckon cX9_reckon 6 (some .long) ({ frames := 0, cells := 0, slots := 0, locals := 0 } : Room) dC dI sz [.ref h_me, .int p0, .long p1, .long p2] [wX9 h_me q_me k_me o_me] [tX9 k_me] y.1 [wX9 h_me q_me k_me y.2] := by
  refine CC_of (by decide) (Nat.le_of_ble_eq_true rfl) ?_
  intro p e s m below meth c A ls hx hb hml hr hlk hnm hown hts hX hK hP hD hA hl
  have hl : lv_has ls 6 [(0, .ref h_me), (1, .int p0), (2, .long p1), (4, .long p2)] := hl
  have hown : s.vm.findClass RX9 = some m.cls := hown
  have hw : Wd dC dI A s.heap [wX9 h_me q_me k_me o_me] s.heap [] := ⟨hP, hD, va_S.rf⟩
  generalize hQz : (MQ below (QL dC dI (fun r (_ : Unit) => r = y.1) (fun _ => Jn [wX9 h_me q_me k_me y.2]) (fun _ => Jt [tX9 k_me]) A) ([.ref h_me, .int p0, .long p1, .long p2] : List Value).toArray s 0 0 A) = Qz
  clear hP hD hnm
  have bk_72_0 : ∀ (v2 : Int64) (v4 : Int64) (s0 : Int32) (o_me : Ob) (H : Heap) (locs : List Loc) (ls : Array Slot), bk_X9_reckon_72   v2 v4 s0 o_me = some y → Wd dC dI A s.heap [wX9 h_me q_me k_me o_me] H locs → lv_has ls 6 [(0, .ref h_me), (2, .long v2), (4, .long v4)] → W p l e ({ frames := 0, cells := 0, slots := 0, locals := 0 } : Room) s m ([.ref h_me, .int p0, .long p1, .long p2] : List Value).toArray below meth c H locs 0 0 Qz (F0 m 72 ls [.int s0, .ref h_me]) := by
    intro v2 v4 s0 o_me H locs ls h hw hl
    unfold bk_X9_reckon_72 at h
    obtain ⟨g2, h⟩ := z_gd h
    refine fpX9_38 hx hb hts hown hK hw 0 rfl kw1214 g2 dX9_reckon_72 (fun H locs hw => ?_)
    obtain ⟨o3, eo3, h⟩ := z_lt h
    have hw : Wd dC dI A s.heap [wX9 h_me q_me k_me o3] H locs := by rw [eo3]; exact hw
    refine lv_aload_n hx hb dX9_reckon_75 rfl (lv_at hl 0 rfl) ?_
    refine fgX9_38 hx hb hts hown hK hw 0 rfl kw1214 dX9_reckon_76 ?_
    refine lv_if_eq (tgt := 86) hx hb dX9_reckon_79 (by decide) (fun c => ?_) (fun c => ?_)
    · have h := z_t h c
      refine lv_lload_n hx hb dX9_reckon_86 rfl (lv_at hl 1 rfl) ?_
      refine lv_lload hx hb dX9_reckon_87 (lv_at hl 2 rfl) ?_
      obtain ⟨g4, h⟩ := z_gd h
      refine lv_ldiv hx hb dX9_reckon_89 (of_decide_eq_true g4) ?_
      have hy := Option.some.inj h
      rw [← hQz, ← hy]
      exact xr_l (v := v2 / v4) hx hb hr hlk hK hw dX9_reckon_90
    · have h := z_f h c
      refine lv_lconst (v := 0) hx hb dX9_reckon_82 (by decide) ?_
      refine lv_goto (tgt := 90) hx hb dX9_reckon_83 (by decide) ?_
      have hy := Option.some.inj h
      rw [← hQz, ← hy]
      exact xr_l (v := (0 : Int64)) hx hb hr hlk hK hw dX9_reckon_90
  have bk_104_1 : ∀ (v2 : Int64) (v4 : Int64) (s0 : Int32) (o_me : Ob) (H : Heap) (locs : List Loc) (ls : Array Slot), bk_X9_reckon_104   v2 v4 s0 o_me = some y → Wd dC dI A s.heap [wX9 h_me q_me k_me o_me] H locs → lv_has ls 6 [(0, .ref h_me), (2, .long v2), (4, .long v4)] → W p l e ({ frames := 0, cells := 0, slots := 0, locals := 0 } : Room) s m ([.ref h_me, .int p0, .long p1, .long p2] : List Value).toArray below meth c H locs 0 0 Qz (F0 m 104 ls [.int s0, .ref h_me]) := by
    intro v2 v4 s0 o_me H locs ls h hw hl
    unfold bk_X9_reckon_104 at h
    obtain ⟨g5, h⟩ := z_gd h
    refine fpX9_38 hx hb hts hown hK hw 0 rfl kw1214 g5 dX9_reckon_104 (fun H locs hw => ?_)
    obtain ⟨o6, eo6, h⟩ := z_lt h
    have hw : Wd dC dI A s.heap [wX9 h_me q_me k_me o6] H locs := by rw [eo6]; exact hw
    refine lv_aload_n hx hb dX9_reckon_107 rfl (lv_at hl 0 rfl) ?_
    refine fgX9_38 hx hb hts hown hK hw 0 rfl kw1214 dX9_reckon_108 ?_
    refine lv_if_eq (tgt := 118) hx hb dX9_reckon_111 (by decide) (fun c => ?_) (fun c => ?_)
    · have h := z_t h c
      refine lv_lload_n hx hb dX9_reckon_118 rfl (lv_at hl 1 rfl) ?_
      refine lv_lload hx hb dX9_reckon_119 (lv_at hl 2 rfl) ?_
      obtain ⟨g7, h⟩ := z_gd h
      refine lv_lrem hx hb dX9_reckon_121 (of_decide_eq_true g7) ?_
      have hy := Option.some.inj h
      rw [← hQz, ← hy]
      exact xr_l (v := v2 - v2 / v4 * v4) hx hb hr hlk hK hw dX9_reckon_122
    · have h := z_f h c
      refine lv_lconst (v := 0) hx hb dX9_reckon_114 (by decide) ?_
      refine lv_goto (tgt := 122) hx hb dX9_reckon_115 (by decide) ?_
      have hy := Option.some.inj h
      rw [← hQz, ← hy]
      exact xr_l (v := (0 : Int64)) hx hb hr hlk hK hw dX9_reckon_122
  unfold f_X9_reckon at h
  refine lv_iload_n hx hb dX9_reckon_0 rfl (lv_at hl 1 rfl) ?_
  rcases (show p0.toInt = 20 ∨ p0.toInt = 21 ∨ p0.toInt = 22 ∨ p0.toInt = 23 ∨ p0.toInt = 24 ∨ p0.toInt = 25 ∨ p0.toInt = 26 ∨ (p0.toInt < 20 ∨ 26 < p0.toInt) by omega) with c1 | c1 | c1 | c1 | c1 | c1 | c1 | c1
  · skip
    have ec1 : p0 = (20 : Int32) := Int32.toInt_inj.mp (c1.trans (by decide))
    have h := z_t h ec1
    refine lv_fi (v := 20) ec1 ?_
    refine lv_tableIn (tgt := 44) hx hb dX9_reckon_1 (by decide) (by decide) rfl (by decide) ?_
    refine lv_lload_n hx hb dX9_reckon_44 rfl (lv_at hl 2 rfl) ?_
    refine lv_lload hx hb dX9_reckon_45 (lv_at hl 3 rfl) ?_
    refine lv_ladd hx hb dX9_reckon_47 ?_
    have hy := Option.some.inj h
    rw [← hQz, ← hy]
    exact xr_l (v := p1 + p2) hx hb hr hlk hK hw dX9_reckon_48
  · skip
    have h := z_f h (fun e9 => by rw [e9] at c1; revert c1; decide)
    have ec1 : p0 = (21 : Int32) := Int32.toInt_inj.mp (c1.trans (by decide))
    have h := z_t h ec1
    refine lv_fi (v := 21) ec1 ?_
    refine lv_tableIn (tgt := 49) hx hb dX9_reckon_1 (by decide) (by decide) rfl (by decide) ?_
    refine lv_lload_n hx hb dX9_reckon_49 rfl (lv_at hl 2 rfl) ?_
    refine lv_lload hx hb dX9_reckon_50 (lv_at hl 3 rfl) ?_
    refine lv_lsub hx hb dX9_reckon_52 ?_
    have hy := Option.some.inj h
    rw [← hQz, ← hy]
    exact xr_l (v := p1 - p2) hx hb hr hlk hK hw dX9_reckon_53
  · skip
    have h := z_f h (fun e9 => by rw [e9] at c1; revert c1; decide)
    have h := z_f h (fun e9 => by rw [e9] at c1; revert c1; decide)
    have ec1 : p0 = (22 : Int32) := Int32.toInt_inj.mp (c1.trans (by decide))
    have h := z_t h ec1
    refine lv_fi (v := 22) ec1 ?_
    refine lv_tableIn (tgt := 54) hx hb dX9_reckon_1 (by decide) (by decide) rfl (by decide) ?_
    refine lv_lload_n hx hb dX9_reckon_54 rfl (lv_at hl 2 rfl) ?_
    refine lv_lload hx hb dX9_reckon_55 (lv_at hl 3 rfl) ?_
    refine lv_lmul hx hb dX9_reckon_57 ?_
    have hy := Option.some.inj h
    rw [← hQz, ← hy]
    exact xr_l (v := p1 * p2) hx hb hr hlk hK hw dX9_reckon_58
  · skip
    have h := z_f h (fun e9 => by rw [e9] at c1; revert c1; decide)
    have h := z_f h (fun e9 => by rw [e9] at c1; revert c1; decide)
    have h := z_f h (fun e9 => by rw [e9] at c1; revert c1; decide)
    have ec1 : p0 = (23 : Int32) := Int32.toInt_inj.mp (c1.trans (by decide))
    have h := z_t h ec1
    refine lv_fi (v := 23) ec1 ?_
    refine lv_tableIn (tgt := 59) hx hb dX9_reckon_1 (by decide) (by decide) rfl (by decide) ?_
    refine lv_aload_n hx hb dX9_reckon_59 rfl (lv_at hl 0 rfl) ?_
    refine lv_lload hx hb dX9_reckon_60 (lv_at hl 3 rfl) ?_
    refine lv_lconst (v := 0) hx hb dX9_reckon_62 (by decide) ?_
    refine W.lcmp hx hb dX9_reckon_63 ?_
    refine lv_if_ne (tgt := 71) hx hb dX9_reckon_64 (by decide) (fun c => ?_) (fun c => ?_)
    · have h := z_f h c
      refine lv_iconst (v := 0) hx hb dX9_reckon_71 (by decide) ?_
      exact bk_72_0  p1 p2 (0 : Int32) o_me _ _ _ h hw (lv_sub hl [0, 2, 3] rfl)
    · have h := z_t h c
      refine lv_iconst (v := 1) hx hb dX9_reckon_67 (by decide) ?_
      refine lv_goto (tgt := 72) hx hb dX9_reckon_68 (by decide) ?_
      exact bk_72_0  p1 p2 (1 : Int32) o_me _ _ _ h hw (lv_sub hl [0, 2, 3] rfl)
  · skip
    have h := z_f h (fun e9 => by rw [e9] at c1; revert c1; decide)
    have h := z_f h (fun e9 => by rw [e9] at c1; revert c1; decide)
    have h := z_f h (fun e9 => by rw [e9] at c1; revert c1; decide)
    have h := z_f h (fun e9 => by rw [e9] at c1; revert c1; decide)
    have ec1 : p0 = (24 : Int32) := Int32.toInt_inj.mp (c1.trans (by decide))
    have h := z_t h ec1
    refine lv_fi (v := 24) ec1 ?_
    refine lv_tableIn (tgt := 91) hx hb dX9_reckon_1 (by decide) (by decide) rfl (by decide) ?_
    refine lv_aload_n hx hb dX9_reckon_91 rfl (lv_at hl 0 rfl) ?_
    refine lv_lload hx hb dX9_reckon_92 (lv_at hl 3 rfl) ?_
    refine lv_lconst (v := 0) hx hb dX9_reckon_94 (by decide) ?_
    refine W.lcmp hx hb dX9_reckon_95 ?_
    refine lv_if_ne (tgt := 103) hx hb dX9_reckon_96 (by decide) (fun c => ?_) (fun c => ?_)
    · have h := z_f h c
      refine lv_iconst (v := 0) hx hb dX9_reckon_103 (by decide) ?_
      exact bk_104_1  p1 p2 (0 : Int32) o_me _ _ _ h hw (lv_sub hl [0, 2, 3] rfl)
    · have h := z_t h c
      refine lv_iconst (v := 1) hx hb dX9_reckon_99 (by decide) ?_
      refine lv_goto (tgt := 104) hx hb dX9_reckon_100 (by decide) ?_
      exact bk_104_1  p1 p2 (1 : Int32) o_me _ _ _ h hw (lv_sub hl [0, 2, 3] rfl)
  · skip
    have h := z_f h (fun e9 => by rw [e9] at c1; revert c1; decide)
    have h := z_f h (fun e9 => by rw [e9] at c1; revert c1; decide)
    have h := z_f h (fun e9 => by rw [e9] at c1; revert c1; decide)
    have h := z_f h (fun e9 => by rw [e9] at c1; revert c1; decide)
    have h := z_f h (fun e9 => by rw [e9] at c1; revert c1; decide)
    have ec1 : p0 = (25 : Int32) := Int32.toInt_inj.mp (c1.trans (by decide))
    have h := z_t h ec1
    refine lv_fi (v := 25) ec1 ?_
    refine lv_tableIn (tgt := 123) hx hb dX9_reckon_1 (by decide) (by decide) rfl (by decide) ?_
    refine lv_lload_n hx hb dX9_reckon_123 rfl (lv_at hl 2 rfl) ?_
    refine lv_lload hx hb dX9_reckon_124 (lv_at hl 3 rfl) ?_
    refine W.lcmp hx hb dX9_reckon_126 ?_
    refine lv_if_ge (tgt := 134) hx hb dX9_reckon_127 (by decide) (fun c => ?_) (fun c => ?_)
    · have h := z_t h c
      refine lv_lconst (v := 0) hx hb dX9_reckon_134 (by decide) ?_
      have hy := Option.some.inj h
      rw [← hQz, ← hy]
      exact xr_l (v := (0 : Int64)) hx hb hr hlk hK hw dX9_reckon_135
    · have h := z_f h c
      refine lv_lconst (v := 1) hx hb dX9_reckon_130 (by decide) ?_
      refine lv_goto (tgt := 135) hx hb dX9_reckon_131 (by decide) ?_
      have hy := Option.some.inj h
      rw [← hQz, ← hy]
      exact xr_l (v := (1 : Int64)) hx hb hr hlk hK hw dX9_reckon_135
  · skip
    have h := z_f h (fun e9 => by rw [e9] at c1; revert c1; decide)
    have h := z_f h (fun e9 => by rw [e9] at c1; revert c1; decide)
    have h := z_f h (fun e9 => by rw [e9] at c1; revert c1; decide)
    have h := z_f h (fun e9 => by rw [e9] at c1; revert c1; decide)
    have h := z_f h (fun e9 => by rw [e9] at c1; revert c1; decide)
    have h := z_f h (fun e9 => by rw [e9] at c1; revert c1; decide)
    have ec1 : p0 = (26 : Int32) := Int32.toInt_inj.mp (c1.trans (by decide))
    have h := z_t h ec1
    refine lv_fi (v := 26) ec1 ?_
    refine lv_tableIn (tgt := 136) hx hb dX9_reckon_1 (by decide) (by decide) rfl (by decide) ?_
    refine lv_lload_n hx hb dX9_reckon_136 rfl (lv_at hl 2 rfl) ?_
    refine lv_lload hx hb dX9_reckon_137 (lv_at hl 3 rfl) ?_
    refine W.lcmp hx hb dX9_reckon_139 ?_
    refine lv_if_le (tgt := 147) hx hb dX9_reckon_140 (by decide) (fun c => ?_) (fun c => ?_)
    · have h := z_t h c
      refine lv_lconst (v := 0) hx hb dX9_reckon_147 (by decide) ?_
      have hy := Option.some.inj h
      rw [← hQz, ← hy]
      exact xr_l (v := (0 : Int64)) hx hb hr hlk hK hw dX9_reckon_148
    · have h := z_f h c
      refine lv_lconst (v := 1) hx hb dX9_reckon_143 (by decide) ?_
      refine lv_goto (tgt := 148) hx hb dX9_reckon_144 (by decide) ?_
      have hy := Option.some.inj h
      rw [← hQz, ← hy]
      exact xr_l (v := (1 : Int64)) hx hb hr hlk hK hw dX9_reckon_148
  · skip
    have h := z_f h (fun e9 => by rw [e9] at c1; revert c1; decide)
    have h := z_f h (fun e9 => by rw [e9] at c1; revert c1; decide)
    have h := z_f h (fun e9 => by rw [e9] at c1; revert c1; decide)
    have h := z_f h (fun e9 => by rw [e9] at c1; revert c1; decide)
    have h := z_f h (fun e9 => by rw [e9] at c1; revert c1; decide)
    have h := z_f h (fun e9 => by rw [e9] at c1; revert c1; decide)
    have h := z_f h (fun e9 => by rw [e9] at c1; revert c1; decide)
    refine lv_tableOut (tgt := 149) hx hb dX9_reckon_1 c1 (by decide) ?_
    refine lv_lload_n hx hb dX9_reckon_149 rfl (lv_at hl 2 rfl) ?_
    refine lv_lload hx hb dX9_reckon_150 (lv_at hl 3 rfl) ?_
    refine W.lcmp hx hb dX9_reckon_152 ?_
    refine lv_if_ne (tgt := 160) hx hb dX9_reckon_153 (by decide) (fun c => ?_) (fun c => ?_)
    · have h := z_f h c
      refine lv_lconst (v := 0) hx hb dX9_reckon_160 (by decide) ?_
      have hy := Option.some.inj h
      rw [← hQz, ← hy]
      exact xr_l (v := (0 : Int64)) hx hb hr hlk hK hw dX9_reckon_161
    · have h := z_t h c
      refine lv_lconst (v := 1) hx hb dX9_reckon_156 (by decide) ?_
      refine lv_goto (tgt := 161) hx hb dX9_reckon_157 (by decide) ?_
      have hy := Option.some.inj h
      rw [← hQz, ← hy]
      exact xr_l (v := (1 : Int64)) hx hb hr hlk hK hw dX9_reckon_161

def f_X9_isPerson (o_me : Ob) (p0 : Int32) : Option (Int32) :=
  (f_X9_in p0.toInt64 (0 : Int64) (((gA o_me 3 (0 : Int32).toNatClampNeg).toInt64) - (1 : Int64))).bind fun z1 =>
  zgd (zbo z1) <|
  some z1
set_option maxHeartbeats 4000000 in
set_option maxRecDepth 100000 in
theorem m_X9_isPerson (l : Launch) (dC : Nat → ClassId) (dI : Nat → Nat → Nat) (sz : Nat) (h_me : Nat) (q_me : Nat → Nat) (k_me : Nat → ClassId) (o_me : Ob) (p0 : Int32) (y : Int32) (h : f_X9_isPerson o_me p0 = some y) : CI l yX9_isPerson cX9_isPerson 2 (some .boolean) ({ frames := 1, cells := 0, slots := 0, locals := 25 } : Room) dC dI sz [.ref h_me, .int p0] [wX9 h_me q_me k_me o_me] [tX9 k_me] y [wX9 h_me q_me k_me o_me] := by
  refine CC_of (by decide) (Nat.le_of_ble_eq_true rfl) ?_
  intro p e s m below meth c A ls hx hb hml hr hlk hnm hown hts hX hK hP hD hA hl
  have hl : lv_has ls 2 [(0, .ref h_me), (1, .int p0)] := hl
  have hown : s.vm.findClass RX9 = some m.cls := hown
  have hw : Wd dC dI A s.heap [wX9 h_me q_me k_me o_me] s.heap [] := ⟨hP, hD, va_S.rf⟩
  generalize hQz : (MQ below (QI dC dI (fun r (_ : Unit) => r = y) (fun _ => Jn [wX9 h_me q_me k_me o_me]) (fun _ => Jt [tX9 k_me]) A) ([.ref h_me, .int p0] : List Value).toArray s 0 0 A) = Qz
  clear hP hD hnm
  unfold f_X9_isPerson at h
  refine lv_iload_n hx hb dX9_isPerson_0 rfl (lv_at hl 1 rfl) ?_
  refine lv_i2l hx hb dX9_isPerson_1 rfl ?_
  refine lv_lconst (v := 0) hx hb dX9_isPerson_2 (by decide) ?_
  refine lv_aload_n hx hb dX9_isPerson_3 rfl (lv_at hl 0 rfl) ?_
  refine fgX9_3 hx hb hts hown hK hw 0 rfl kw1179 dX9_isPerson_4 ?_
  refine lv_iconst (v := 0) hx hb dX9_isPerson_7 (by decide) ?_
  refine faX9_3 hx hb hK hw 0 rfl rfl (by decide) dX9_isPerson_8 ?_
  refine lv_i2l hx hb dX9_isPerson_9 rfl ?_
  refine lv_lconst (v := 1) hx hb dX9_isPerson_10 (by decide) ?_
  refine lv_lsub hx hb dX9_isPerson_11 ?_
  obtain ⟨z1, ez1, h⟩ := z_bd h
  refine xj_i (xrS (As := [.long p0.toInt64, .long (0 : Int64), .long (((gA o_me 3 (0 : Int32).toNatClampNeg).toInt64) - (1 : Int64))]) (rest := []) ⟨hx, hb, hml, hown, hts⟩ (m_X9_in l dC dI _  p0.toInt64 (0 : Int64) (((gA o_me 3 (0 : Int32).toNatClampNeg).toInt64) - (1 : Int64)) z1 ez1) kw1385 kw1383 kw1384 kw120 hd_X9_in ⟨rfl, rfl⟩ rfl rfl ⟨rfl, rfl⟩ hX hK hw [] (by decide) rfl rfl hl.1 rfl rfl dX9_isPerson_12) hw hA [] (by decide) rfl rfl (fun H locs hw => ?_)
  obtain ⟨g2, h⟩ := z_gd h
  have hy := Option.some.inj h
  rw [← hQz, ← hy]
  exact xr_i (v := z1) hx hb hr (z_nar g2) hlk hK hw dX9_isPerson_15

def bk_X9_reckonAll_368   (s0 : Int64) (o_me : Ob) : Option (Ob) :=
  zlt (sL o_me 39 s0) fun o2 =>
  some o2
def bk_X9_reckonAll_353   (v3 : Int32) (o_me : Ob) : Option (Ob) :=
  if v3 ≤ (0 : Int32) then
  (bk_X9_reckonAll_368   (0 : Int64) o_me)
  else
  (bk_X9_reckonAll_368   (gM o_me 37 (0 : Int32).toNatClampNeg) o_me)
def bk_X9_reckonAll_350  (rec_10_0 : Int32 × Int32 × Int32 × Ob → Option (Ob)) (v2 : Int32) (v3 : Int32) (v4 : Int32) (o_me : Ob) : Option (Ob) :=
  rec_10_0 (v2, v3, v4, o_me)
def bk_X9_reckonAll_336  (rec_10_0 : Int32 × Int32 × Int32 × Ob → Option (Ob)) (v2 : Int32) (v3 : Int32) (v4 : Int32) (v6 : Int32) (s0 : Int64) (s1 : Int64) (o_me : Ob) : Option (Ob) :=
  if (lg_cmp s1 s0) = (0 : Int32) then
  (bk_X9_reckonAll_350  rec_10_0 v2 v3 v6 o_me)
  else
  (zlt (v3 + (-1 : Int32)) fun x7 =>
  bk_X9_reckonAll_350  rec_10_0 v2 x7 v4 o_me)
def bk_X9_reckonAll_282  (rec_10_0 : Int32 × Int32 × Int32 × Ob → Option (Ob)) (v2 : Int32) (v3 : Int32) (v4 : Int32) (s0 : Int32) (o_me : Ob) : Option (Ob) :=
  zgd (zbo s0) <|
  zlt (sI o_me 38 s0) fun o18 =>
  bk_X9_reckonAll_350  rec_10_0 v2 v3 v4 o18
def bk_X9_reckonAll_277  (rec_10_0 : Int32 × Int32 × Int32 × Ob → Option (Ob)) (v2 : Int32) (v3 : Int32) (v4 : Int32) (o_me : Ob) : Option (Ob) :=
  bk_X9_reckonAll_282  rec_10_0 v2 v3 v4 (1 : Int32) o_me
def bk_X9_reckonAll_204  (rec_10_0 : Int32 × Int32 × Int32 × Ob → Option (Ob)) (v2 : Int32) (v3 : Int32) (v4 : Int32) (s0 : Int64) (s1 : Int32) (o_me : Ob) : Option (Ob) :=
  zgd (zin s1 400) <|
  zlt (tM o_me 37 s1.toNatClampNeg s0) fun o24 =>
  zlt (v3 + (1 : Int32)) fun x25 =>
  bk_X9_reckonAll_350  rec_10_0 v2 x25 v4 o24
def bk_X9_reckonAll_95  (rec_10_0 : Int32 × Int32 × Int32 × Ob → Option (Ob)) (v2 : Int32) (v3 : Int32) (v4 : Int32) (v5 : Int32) (s0 : Int32) (o_me : Ob) : Option (Ob) :=
  zlt (v4 + (1 : Int32)) fun x5 =>
  if (20 : Int32) ≤ v5 then
  (if (28 : Int32) ≤ v5 then
  (if v5 = (28 : Int32) then
  (zgd (zin (v3 - (1 : Int32)) 400) <|
  zgd (zin (v3 - (1 : Int32)) 400) <|
  zlt (tM o_me 37 (v3 - (1 : Int32)).toNatClampNeg ((1 : Int64) - (gM o_me 37 (v3 - (1 : Int32)).toNatClampNeg))) fun o10 =>
  bk_X9_reckonAll_350  rec_10_0 v2 v3 x5 o10)
  else
  (zgd (zin (v3 - (1 : Int32)) 400) <|
  if v5 = (29 : Int32) then
  (bk_X9_reckonAll_336  rec_10_0 v2 v3 x5 s0 (0 : Int64) (gM o_me 37 (v3 - (1 : Int32)).toNatClampNeg) o_me)
  else
  (bk_X9_reckonAll_336  rec_10_0 v2 v3 x5 s0 (1 : Int64) (gM o_me 37 (v3 - (1 : Int32)).toNatClampNeg) o_me)))
  else
  (zlt (v3 + (-1 : Int32)) fun x11 =>
  zgd (zin (x11 - (1 : Int32)) 400) <|
  zgd (zin x11 400) <|
  (f_X9_reckon o_me v5 (gM o_me 37 (x11 - (1 : Int32)).toNatClampNeg) (gM o_me 37 x11.toNatClampNeg)).bind fun z14 =>
  zgd (zin (x11 - (1 : Int32)) 400) <|
  zlt (tM z14.2 37 (x11 - (1 : Int32)).toNatClampNeg z14.1) fun o16 =>
  if (gI o16 38) = (0 : Int32) then
  (zgd (zin (x11 - (1 : Int32)) 400) <|
  (f_X9_in (gM o16 37 (x11 - (1 : Int32)).toNatClampNeg) (-1000000000 : Int64) (1000000000 : Int64)).bind fun z20 =>
  if z20 = (0 : Int32) then
  (bk_X9_reckonAll_277  rec_10_0 v2 x11 x5 o16)
  else
  (bk_X9_reckonAll_282  rec_10_0 v2 x11 x5 (0 : Int32) o16))
  else
  (bk_X9_reckonAll_277  rec_10_0 v2 x11 x5 o16)))
  else
  (if v5 = (0 : Int32) then
  (bk_X9_reckonAll_204  rec_10_0 v2 v3 x5 s0.toInt64 v3 o_me)
  else
  (if (gI o_me 20) = (0 : Int32) then
  (zgd (zin v5 13) <|
  bk_X9_reckonAll_204  rec_10_0 v2 v3 x5 (gM o_me 35 v5.toNatClampNeg) v3 o_me)
  else
  (if (6 : Int32) ≤ v5 then
  ((f_X9_isPerson o_me s0).bind fun z21 =>
  if z21 = (0 : Int32) then
  (bk_X9_reckonAll_204  rec_10_0 v2 v3 x5 (-1 : Int64) v3 o_me)
  else
  (if v5 = (6 : Int32) then
  (zgd (zin ((15 : Int32) + s0) 5484) <|
  bk_X9_reckonAll_204  rec_10_0 v2 v3 x5 ((gA o_me 3 ((15 : Int32) + s0).toNatClampNeg).toInt64) v3 o_me)
  else
  (zgd (zin ((8 : Int32) + s0) 5484) <|
  bk_X9_reckonAll_204  rec_10_0 v2 v3 x5 ((gA o_me 3 ((8 : Int32) + s0).toNatClampNeg).toInt64) v3 o_me)))
  else
  (zgd (zin v5 13) <|
  bk_X9_reckonAll_204  rec_10_0 v2 v3 x5 (gM o_me 36 v5.toNatClampNeg) v3 o_me))))
def bk_X9_reckonAll_57  (rec_10_0 : Int32 × Int32 × Int32 × Ob → Option (Ob)) (v2 : Int32) (v3 : Int32) (v4 : Int32) (s0 : Int32) (o_me : Ob) : Option (Ob) :=
  if (gI o_me 20) = (0 : Int32) then
  (zgd (zin ((((gI o_me 34) + (98 : Int32)) + ((2 : Int32) * v4)) + (1 : Int32)) 5484) <|
  bk_X9_reckonAll_95  rec_10_0 v2 v3 v4 s0 (gA o_me 3 ((((gI o_me 34) + (98 : Int32)) + ((2 : Int32) * v4)) + (1 : Int32)).toNatClampNeg) o_me)
  else
  (zgd (zin v4 400) <|
  bk_X9_reckonAll_95  rec_10_0 v2 v3 v4 s0 (gA o_me 25 v4.toNatClampNeg) o_me)
def lb_X9_reckonAll_10   (rec_10_0 : Int32 × Int32 × Int32 × Ob → Option (Ob)) (v2 : Int32) (v3 : Int32) (v4 : Int32) (o_me : Ob) : Option (Ob) :=
  if v2 ≤ v4 then
  (bk_X9_reckonAll_353   v3 o_me)
  else
  (if (gI o_me 38) = (0 : Int32) then
  (if (gI o_me 20) = (0 : Int32) then
  (zgd (zin (((gI o_me 34) + (98 : Int32)) + ((2 : Int32) * v4)) 5484) <|
  bk_X9_reckonAll_57  rec_10_0 v2 v3 v4 (gA o_me 3 (((gI o_me 34) + (98 : Int32)) + ((2 : Int32) * v4)).toNatClampNeg) o_me)
  else
  (zgd (zin v4 400) <|
  bk_X9_reckonAll_57  rec_10_0 v2 v3 v4 (gA o_me 24 v4.toNatClampNeg) o_me))
  else
  (bk_X9_reckonAll_353   v3 o_me))
def lp_X9_reckonAll_10   : Nat → (Int32 × Int32 × Int32 × Ob) → Option (Ob) := zit (fun rec a => lb_X9_reckonAll_10   rec a.1 a.2.1 a.2.2.1 a.2.2.2)
def f_X9_reckonAll (o_me : Ob) (p0 : Int32) (p1 : Int32) : Option (Ob) :=
  zlt (sI o_me 38 (0 : Int32)) fun o1 =>
  lp_X9_reckonAll_10   zfu (p1, (0 : Int32), p0, o1)
set_option maxHeartbeats 4000000 in
set_option maxRecDepth 100000 in
theorem m_X9_reckonAll (l : Launch) (dC : Nat → ClassId) (dI : Nat → Nat → Nat) (sz : Nat) (h_me : Nat) (q_me : Nat → Nat) (k_me : Nat → ClassId) (o_me : Ob) (p0 : Int32) (p1 : Int32) (y : Ob) (h : f_X9_reckonAll o_me p0 p1 = some y) : CV l yX9_reckonAll cX9_reckonAll 7 none ({ frames := 2, cells := 0, slots := 0, locals := 46 } : Room) dC dI sz [.ref h_me, .int p0, .int p1] [wX9 h_me q_me k_me o_me] [tX9 k_me] [wX9 h_me q_me k_me y] := by
  refine CC_of (by decide) (Nat.le_of_ble_eq_true rfl) ?_
  intro p e s m below meth c A ls hx hb hml hr hlk hnm hown hts hX hK hP hD hA hl
  have hl : lv_has ls 7 [(0, .ref h_me), (1, .int p0), (2, .int p1)] := hl
  have hown : s.vm.findClass RX9 = some m.cls := hown
  have hw : Wd dC dI A s.heap [wX9 h_me q_me k_me o_me] s.heap [] := ⟨hP, hD, va_S.rf⟩
  generalize hQz : (MQ below (QV dC dI (fun (_ : Unit) => True) (fun _ => Jn [wX9 h_me q_me k_me y]) (fun _ => Jt [tX9 k_me]) A) ([.ref h_me, .int p0, .int p1] : List Value).toArray s 0 0 A) = Qz
  clear hP hD hnm
  have bk_368_2 : ∀ (s0 : Int64) (o_me : Ob) (H : Heap) (locs : List Loc) (ls : Array Slot), bk_X9_reckonAll_368   s0 o_me = some y → Wd dC dI A s.heap [wX9 h_me q_me k_me o_me] H locs → lv_has ls 7 [] → W p l e ({ frames := 2, cells := 0, slots := 0, locals := 46 } : Room) s m ([.ref h_me, .int p0, .int p1] : List Value).toArray below meth c H locs 0 0 Qz (F0 m 368 ls [.long s0, .ref h_me]) := by
    intro s0 o_me H locs ls h hw hl
    unfold bk_X9_reckonAll_368 at h
    refine fpX9_39 hx hb hts hown hK hw 0 rfl kw1215 dX9_reckonAll_368 (fun H locs hw => ?_)
    obtain ⟨o2, eo2, h⟩ := z_lt h
    have hw : Wd dC dI A s.heap [wX9 h_me q_me k_me o2] H locs := by rw [eo2]; exact hw
    have hy := Option.some.inj h
    rw [← hQz, ← hy]
    exact xr_v hx hb hr hlk hK hw dX9_reckonAll_371
  have bk_353_1 : ∀ (v3 : Int32) (o_me : Ob) (H : Heap) (locs : List Loc) (ls : Array Slot), bk_X9_reckonAll_353   v3 o_me = some y → Wd dC dI A s.heap [wX9 h_me q_me k_me o_me] H locs → lv_has ls 7 [(0, .ref h_me), (3, .int v3)] → W p l e ({ frames := 2, cells := 0, slots := 0, locals := 46 } : Room) s m ([.ref h_me, .int p0, .int p1] : List Value).toArray below meth c H locs 0 0 Qz (F0 m 353 ls []) := by
    intro v3 o_me H locs ls h hw hl
    unfold bk_X9_reckonAll_353 at h
    refine lv_aload_n hx hb dX9_reckonAll_353 rfl (lv_at hl 0 rfl) ?_
    refine lv_iload_n hx hb dX9_reckonAll_354 rfl (lv_at hl 1 rfl) ?_
    refine lv_if_le (tgt := 367) hx hb dX9_reckonAll_355 (by decide) (fun c => ?_) (fun c => ?_)
    · have h := z_t h c
      refine lv_lconst (v := 0) hx hb dX9_reckonAll_367 (by decide) ?_
      exact bk_368_2  (0 : Int64) o_me _ _ _ h hw (lv_sub hl [] rfl)
    · have h := z_f h c
      refine lv_aload_n hx hb dX9_reckonAll_358 rfl (lv_at hl 0 rfl) ?_
      refine fgX9_37 hx hb hts hown hK hw 0 rfl kw1213 dX9_reckonAll_359 ?_
      refine lv_iconst (v := 0) hx hb dX9_reckonAll_362 (by decide) ?_
      refine faX9_37 hx hb hK hw 0 rfl rfl (by decide) dX9_reckonAll_363 ?_
      refine lv_goto (tgt := 368) hx hb dX9_reckonAll_364 (by decide) ?_
      exact bk_368_2  (gM o_me 37 (0 : Int32).toNatClampNeg) o_me _ _ _ h hw (lv_sub hl [] rfl)
  have bk_350_6 : ∀ (rec_10_0 : Int32 × Int32 × Int32 × Ob → Option (Ob)) (hrec_10_0 : ∀ (v2 : Int32) (v3 : Int32) (v4 : Int32) (o_me : Ob) (H : Heap) (locs : List Loc) (ls : Array Slot), rec_10_0 (v2, v3, v4, o_me) = some y → Wd dC dI A s.heap [wX9 h_me q_me k_me o_me] H locs → lv_has ls 7 [(0, .ref h_me), (2, .int v2), (3, .int v3), (4, .int v4)] → W p l e ({ frames := 2, cells := 0, slots := 0, locals := 46 } : Room) s m ([.ref h_me, .int p0, .int p1] : List Value).toArray below meth c H locs 0 0 Qz (F0 m 10 ls [])), ∀ (v2 : Int32) (v3 : Int32) (v4 : Int32) (o_me : Ob) (H : Heap) (locs : List Loc) (ls : Array Slot), bk_X9_reckonAll_350  rec_10_0 v2 v3 v4 o_me = some y → Wd dC dI A s.heap [wX9 h_me q_me k_me o_me] H locs → lv_has ls 7 [(0, .ref h_me), (2, .int v2), (3, .int v3), (4, .int v4)] → W p l e ({ frames := 2, cells := 0, slots := 0, locals := 46 } : Room) s m ([.ref h_me, .int p0, .int p1] : List Value).toArray below meth c H locs 0 0 Qz (F0 m 350 ls []) := by
    intro rec_10_0 hrec_10_0
    intro v2 v3 v4 o_me H locs ls h hw hl
    unfold bk_X9_reckonAll_350 at h
    refine lv_goto (tgt := 10) hx hb dX9_reckonAll_350 (by decide) ?_
    exact hrec_10_0 v2 v3 v4 o_me _ _ _ h hw (lv_sub hl [0, 1, 2, 3] rfl)
  have bk_336_5 : ∀ (rec_10_0 : Int32 × Int32 × Int32 × Ob → Option (Ob)) (hrec_10_0 : ∀ (v2 : Int32) (v3 : Int32) (v4 : Int32) (o_me : Ob) (H : Heap) (locs : List Loc) (ls : Array Slot), rec_10_0 (v2, v3, v4, o_me) = some y → Wd dC dI A s.heap [wX9 h_me q_me k_me o_me] H locs → lv_has ls 7 [(0, .ref h_me), (2, .int v2), (3, .int v3), (4, .int v4)] → W p l e ({ frames := 2, cells := 0, slots := 0, locals := 46 } : Room) s m ([.ref h_me, .int p0, .int p1] : List Value).toArray below meth c H locs 0 0 Qz (F0 m 10 ls [])), ∀ (v2 : Int32) (v3 : Int32) (v4 : Int32) (v6 : Int32) (s0 : Int64) (s1 : Int64) (o_me : Ob) (H : Heap) (locs : List Loc) (ls : Array Slot), bk_X9_reckonAll_336  rec_10_0 v2 v3 v4 v6 s0 s1 o_me = some y → Wd dC dI A s.heap [wX9 h_me q_me k_me o_me] H locs → lv_has ls 7 [(0, .ref h_me), (2, .int v2), (3, .int v3), (4, .int v4), (6, .int v6)] → W p l e ({ frames := 2, cells := 0, slots := 0, locals := 46 } : Room) s m ([.ref h_me, .int p0, .int p1] : List Value).toArray below meth c H locs 0 0 Qz (F0 m 336 ls [.long s0, .long s1]) := by
    intro rec_10_0 hrec_10_0
    intro v2 v3 v4 v6 s0 s1 o_me H locs ls h hw hl
    unfold bk_X9_reckonAll_336 at h
    refine W.lcmp hx hb dX9_reckonAll_336 ?_
    refine lv_if_ne (tgt := 347) hx hb dX9_reckonAll_337 (by decide) (fun c => ?_) (fun c => ?_)
    · have h := z_f h c
      obtain ⟨x7, ex7, h⟩ := z_lt h
      refine lv_iinc (v := x7) (lv' := [(3, .int x7), (0, .ref h_me), (2, .int v2), (4, .int v4), (6, .int v6)]) hx hb dX9_reckonAll_347 hl (k := 2) rfl ((congrArg (v3 + ·) (show Int32.ofInt (-1) = (-1 : Int32) from by decide)).trans ex7.symm) (by decide) rfl (fun ls hl => ?_)
      exact bk_350_6 rec_10_0 hrec_10_0 v2 x7 v4 o_me _ _ _ h hw (lv_sub hl [1, 2, 0, 3] rfl)
    · have h := z_t h c
      refine lv_iload hx hb dX9_reckonAll_340 (lv_at hl 4 rfl) ?_
      refine lv_istore (lv' := [(4, .int v6), (0, .ref h_me), (2, .int v2), (3, .int v3), (6, .int v6)]) hx hb dX9_reckonAll_342 hl (by decide) rfl (fun ls hl => ?_)
      refine lv_goto (tgt := 350) hx hb dX9_reckonAll_344 (by decide) ?_
      exact bk_350_6 rec_10_0 hrec_10_0 v2 v3 v6 o_me _ _ _ h hw (lv_sub hl [1, 2, 3, 0] rfl)
  have bk_282_8 : ∀ (rec_10_0 : Int32 × Int32 × Int32 × Ob → Option (Ob)) (hrec_10_0 : ∀ (v2 : Int32) (v3 : Int32) (v4 : Int32) (o_me : Ob) (H : Heap) (locs : List Loc) (ls : Array Slot), rec_10_0 (v2, v3, v4, o_me) = some y → Wd dC dI A s.heap [wX9 h_me q_me k_me o_me] H locs → lv_has ls 7 [(0, .ref h_me), (2, .int v2), (3, .int v3), (4, .int v4)] → W p l e ({ frames := 2, cells := 0, slots := 0, locals := 46 } : Room) s m ([.ref h_me, .int p0, .int p1] : List Value).toArray below meth c H locs 0 0 Qz (F0 m 10 ls [])), ∀ (v2 : Int32) (v3 : Int32) (v4 : Int32) (s0 : Int32) (o_me : Ob) (H : Heap) (locs : List Loc) (ls : Array Slot), bk_X9_reckonAll_282  rec_10_0 v2 v3 v4 s0 o_me = some y → Wd dC dI A s.heap [wX9 h_me q_me k_me o_me] H locs → lv_has ls 7 [(0, .ref h_me), (2, .int v2), (3, .int v3), (4, .int v4)] → W p l e ({ frames := 2, cells := 0, slots := 0, locals := 46 } : Room) s m ([.ref h_me, .int p0, .int p1] : List Value).toArray below meth c H locs 0 0 Qz (F0 m 282 ls [.int s0, .ref h_me]) := by
    intro rec_10_0 hrec_10_0
    intro v2 v3 v4 s0 o_me H locs ls h hw hl
    unfold bk_X9_reckonAll_282 at h
    obtain ⟨g17, h⟩ := z_gd h
    refine fpX9_38 hx hb hts hown hK hw 0 rfl kw1214 g17 dX9_reckonAll_282 (fun H locs hw => ?_)
    obtain ⟨o18, eo18, h⟩ := z_lt h
    have hw : Wd dC dI A s.heap [wX9 h_me q_me k_me o18] H locs := by rw [eo18]; exact hw
    refine lv_goto (tgt := 350) hx hb dX9_reckonAll_285 (by decide) ?_
    exact bk_350_6 rec_10_0 hrec_10_0 v2 v3 v4 o18 _ _ _ h hw (lv_sub hl [0, 1, 2, 3] rfl)
  have bk_277_7 : ∀ (rec_10_0 : Int32 × Int32 × Int32 × Ob → Option (Ob)) (hrec_10_0 : ∀ (v2 : Int32) (v3 : Int32) (v4 : Int32) (o_me : Ob) (H : Heap) (locs : List Loc) (ls : Array Slot), rec_10_0 (v2, v3, v4, o_me) = some y → Wd dC dI A s.heap [wX9 h_me q_me k_me o_me] H locs → lv_has ls 7 [(0, .ref h_me), (2, .int v2), (3, .int v3), (4, .int v4)] → W p l e ({ frames := 2, cells := 0, slots := 0, locals := 46 } : Room) s m ([.ref h_me, .int p0, .int p1] : List Value).toArray below meth c H locs 0 0 Qz (F0 m 10 ls [])), ∀ (v2 : Int32) (v3 : Int32) (v4 : Int32) (o_me : Ob) (H : Heap) (locs : List Loc) (ls : Array Slot), bk_X9_reckonAll_277  rec_10_0 v2 v3 v4 o_me = some y → Wd dC dI A s.heap [wX9 h_me q_me k_me o_me] H locs → lv_has ls 7 [(0, .ref h_me), (2, .int v2), (3, .int v3), (4, .int v4)] → W p l e ({ frames := 2, cells := 0, slots := 0, locals := 46 } : Room) s m ([.ref h_me, .int p0, .int p1] : List Value).toArray below meth c H locs 0 0 Qz (F0 m 277 ls [.ref h_me]) := by
    intro rec_10_0 hrec_10_0
    intro v2 v3 v4 o_me H locs ls h hw hl
    unfold bk_X9_reckonAll_277 at h
    refine lv_iconst (v := 1) hx hb dX9_reckonAll_277 (by decide) ?_
    refine lv_goto (tgt := 282) hx hb dX9_reckonAll_278 (by decide) ?_
    exact bk_282_8 rec_10_0 hrec_10_0 v2 v3 v4 (1 : Int32) o_me _ _ _ h hw (lv_sub hl [0, 1, 2, 3] rfl)
  have bk_204_9 : ∀ (rec_10_0 : Int32 × Int32 × Int32 × Ob → Option (Ob)) (hrec_10_0 : ∀ (v2 : Int32) (v3 : Int32) (v4 : Int32) (o_me : Ob) (H : Heap) (locs : List Loc) (ls : Array Slot), rec_10_0 (v2, v3, v4, o_me) = some y → Wd dC dI A s.heap [wX9 h_me q_me k_me o_me] H locs → lv_has ls 7 [(0, .ref h_me), (2, .int v2), (3, .int v3), (4, .int v4)] → W p l e ({ frames := 2, cells := 0, slots := 0, locals := 46 } : Room) s m ([.ref h_me, .int p0, .int p1] : List Value).toArray below meth c H locs 0 0 Qz (F0 m 10 ls [])), ∀ (v2 : Int32) (v3 : Int32) (v4 : Int32) (s0 : Int64) (s1 : Int32) (o_me : Ob) (H : Heap) (locs : List Loc) (ls : Array Slot), bk_X9_reckonAll_204  rec_10_0 v2 v3 v4 s0 s1 o_me = some y → Wd dC dI A s.heap [wX9 h_me q_me k_me o_me] H locs → lv_has ls 7 [(0, .ref h_me), (2, .int v2), (3, .int v3), (4, .int v4)] → W p l e ({ frames := 2, cells := 0, slots := 0, locals := 46 } : Room) s m ([.ref h_me, .int p0, .int p1] : List Value).toArray below meth c H locs 0 0 Qz (F0 m 204 ls [.long s0, .int s1, .ref (q_me 37)]) := by
    intro rec_10_0 hrec_10_0
    intro v2 v3 v4 s0 s1 o_me H locs ls h hw hl
    unfold bk_X9_reckonAll_204 at h
    obtain ⟨g23, h⟩ := z_gd h
    refine fbX9_37 hx hb hK hw 0 rfl rfl g23 dX9_reckonAll_204 (fun H locs hw => ?_)
    obtain ⟨o24, eo24, h⟩ := z_lt h
    have hw : Wd dC dI A s.heap [wX9 h_me q_me k_me o24] H locs := by rw [eo24]; exact hw
    obtain ⟨x25, ex25, h⟩ := z_lt h
    refine lv_iinc (v := x25) (lv' := [(3, .int x25), (0, .ref h_me), (2, .int v2), (4, .int v4)]) hx hb dX9_reckonAll_205 hl (k := 2) rfl ((congrArg (v3 + ·) (show Int32.ofInt 1 = (1 : Int32) from by decide)).trans ex25.symm) (by decide) rfl (fun ls hl => ?_)
    refine lv_goto (tgt := 350) hx hb dX9_reckonAll_208 (by decide) ?_
    exact bk_350_6 rec_10_0 hrec_10_0 v2 x25 v4 o24 _ _ _ h hw (lv_sub hl [1, 2, 0, 3] rfl)
  have bk_95_4 : ∀ (rec_10_0 : Int32 × Int32 × Int32 × Ob → Option (Ob)) (hrec_10_0 : ∀ (v2 : Int32) (v3 : Int32) (v4 : Int32) (o_me : Ob) (H : Heap) (locs : List Loc) (ls : Array Slot), rec_10_0 (v2, v3, v4, o_me) = some y → Wd dC dI A s.heap [wX9 h_me q_me k_me o_me] H locs → lv_has ls 7 [(0, .ref h_me), (2, .int v2), (3, .int v3), (4, .int v4)] → W p l e ({ frames := 2, cells := 0, slots := 0, locals := 46 } : Room) s m ([.ref h_me, .int p0, .int p1] : List Value).toArray below meth c H locs 0 0 Qz (F0 m 10 ls [])), ∀ (v2 : Int32) (v3 : Int32) (v4 : Int32) (v5 : Int32) (s0 : Int32) (o_me : Ob) (H : Heap) (locs : List Loc) (ls : Array Slot), bk_X9_reckonAll_95  rec_10_0 v2 v3 v4 v5 s0 o_me = some y → Wd dC dI A s.heap [wX9 h_me q_me k_me o_me] H locs → lv_has ls 7 [(0, .ref h_me), (2, .int v2), (3, .int v3), (4, .int v4), (5, .int v5)] → W p l e ({ frames := 2, cells := 0, slots := 0, locals := 46 } : Room) s m ([.ref h_me, .int p0, .int p1] : List Value).toArray below meth c H locs 0 0 Qz (F0 m 95 ls [.int s0]) := by
    intro rec_10_0 hrec_10_0
    intro v2 v3 v4 v5 s0 o_me H locs ls h hw hl
    unfold bk_X9_reckonAll_95 at h
    refine lv_istore (lv' := [(6, .int s0), (0, .ref h_me), (2, .int v2), (3, .int v3), (4, .int v4), (5, .int v5)]) hx hb dX9_reckonAll_95 hl (by decide) rfl (fun ls hl => ?_)
    obtain ⟨x5, ex5, h⟩ := z_lt h
    refine lv_iinc (v := x5) (lv' := [(4, .int x5), (6, .int s0), (0, .ref h_me), (2, .int v2), (3, .int v3), (5, .int v5)]) hx hb dX9_reckonAll_97 hl (k := 4) rfl ((congrArg (v4 + ·) (show Int32.ofInt 1 = (1 : Int32) from by decide)).trans ex5.symm) (by decide) rfl (fun ls hl => ?_)
    refine lv_iload hx hb dX9_reckonAll_100 (lv_at hl 5 rfl) ?_
    refine lv_bipush (v := 20) hx hb dX9_reckonAll_102 (by decide) ?_
    refine lv_icmp_ge (tgt := 211) hx hb dX9_reckonAll_104 (by decide) (fun c => ?_) (fun c => ?_)
    · have h := z_t h c
      refine lv_iload hx hb dX9_reckonAll_211 (lv_at hl 5 rfl) ?_
      refine lv_bipush (v := 28) hx hb dX9_reckonAll_213 (by decide) ?_
      refine lv_icmp_ge (tgt := 288) hx hb dX9_reckonAll_215 (by decide) (fun c => ?_) (fun c => ?_)
      · have h := z_t h c
        refine lv_iload hx hb dX9_reckonAll_288 (lv_at hl 5 rfl) ?_
        refine lv_bipush (v := 28) hx hb dX9_reckonAll_290 (by decide) ?_
        refine lv_icmp_ne (tgt := 316) hx hb dX9_reckonAll_292 (by decide) (fun c => ?_) (fun c => ?_)
        · have h := z_f h c
          refine lv_aload_n hx hb dX9_reckonAll_316 rfl (lv_at hl 2 rfl) ?_
          refine fgX9_37 hx hb hts hown hK hw 0 rfl kw1213 dX9_reckonAll_317 ?_
          refine lv_iload_n hx hb dX9_reckonAll_320 rfl (lv_at hl 4 rfl) ?_
          refine lv_iconst (v := 1) hx hb dX9_reckonAll_321 (by decide) ?_
          refine lv_isub hx hb dX9_reckonAll_322 ?_
          obtain ⟨g6, h⟩ := z_gd h
          refine faX9_37 hx hb hK hw 0 rfl rfl g6 dX9_reckonAll_323 ?_
          refine lv_iload hx hb dX9_reckonAll_324 (lv_at hl 5 rfl) ?_
          refine lv_bipush (v := 29) hx hb dX9_reckonAll_326 (by decide) ?_
          refine lv_icmp_ne (tgt := 335) hx hb dX9_reckonAll_328 (by decide) (fun c => ?_) (fun c => ?_)
          · have h := z_f h c
            refine lv_lconst (v := 1) hx hb dX9_reckonAll_335 (by decide) ?_
            exact bk_336_5 rec_10_0 hrec_10_0 v2 v3 x5 s0 (1 : Int64) (gM o_me 37 (v3 - (1 : Int32)).toNatClampNeg) o_me _ _ _ h hw (lv_sub hl [2, 3, 4, 0, 1] rfl)
          · have h := z_t h c
            refine lv_lconst (v := 0) hx hb dX9_reckonAll_331 (by decide) ?_
            refine lv_goto (tgt := 336) hx hb dX9_reckonAll_332 (by decide) ?_
            exact bk_336_5 rec_10_0 hrec_10_0 v2 v3 x5 s0 (0 : Int64) (gM o_me 37 (v3 - (1 : Int32)).toNatClampNeg) o_me _ _ _ h hw (lv_sub hl [2, 3, 4, 0, 1] rfl)
        · have h := z_t h c
          refine lv_aload_n hx hb dX9_reckonAll_295 rfl (lv_at hl 2 rfl) ?_
          refine fgX9_37 hx hb hts hown hK hw 0 rfl kw1213 dX9_reckonAll_296 ?_
          refine lv_iload_n hx hb dX9_reckonAll_299 rfl (lv_at hl 4 rfl) ?_
          refine lv_iconst (v := 1) hx hb dX9_reckonAll_300 (by decide) ?_
          refine lv_isub hx hb dX9_reckonAll_301 ?_
          refine lv_lconst (v := 1) hx hb dX9_reckonAll_302 (by decide) ?_
          refine lv_aload_n hx hb dX9_reckonAll_303 rfl (lv_at hl 2 rfl) ?_
          refine fgX9_37 hx hb hts hown hK hw 0 rfl kw1213 dX9_reckonAll_304 ?_
          refine lv_iload_n hx hb dX9_reckonAll_307 rfl (lv_at hl 4 rfl) ?_
          refine lv_iconst (v := 1) hx hb dX9_reckonAll_308 (by decide) ?_
          refine lv_isub hx hb dX9_reckonAll_309 ?_
          obtain ⟨g8, h⟩ := z_gd h
          refine faX9_37 hx hb hK hw 0 rfl rfl g8 dX9_reckonAll_310 ?_
          refine lv_lsub hx hb dX9_reckonAll_311 ?_
          obtain ⟨g9, h⟩ := z_gd h
          refine fbX9_37 hx hb hK hw 0 rfl rfl g9 dX9_reckonAll_312 (fun H locs hw => ?_)
          obtain ⟨o10, eo10, h⟩ := z_lt h
          have hw : Wd dC dI A s.heap [wX9 h_me q_me k_me o10] H locs := by rw [eo10]; exact hw
          refine lv_goto (tgt := 350) hx hb dX9_reckonAll_313 (by decide) ?_
          exact bk_350_6 rec_10_0 hrec_10_0 v2 v3 x5 o10 _ _ _ h hw (lv_sub hl [2, 3, 4, 0] rfl)
      · have h := z_f h c
        obtain ⟨x11, ex11, h⟩ := z_lt h
        refine lv_iinc (v := x11) (lv' := [(3, .int x11), (4, .int x5), (6, .int s0), (0, .ref h_me), (2, .int v2), (5, .int v5)]) hx hb dX9_reckonAll_218 hl (k := 4) rfl ((congrArg (v3 + ·) (show Int32.ofInt (-1) = (-1 : Int32) from by decide)).trans ex11.symm) (by decide) rfl (fun ls hl => ?_)
        refine lv_aload_n hx hb dX9_reckonAll_221 rfl (lv_at hl 3 rfl) ?_
        refine fgX9_37 hx hb hts hown hK hw 0 rfl kw1213 dX9_reckonAll_222 ?_
        refine lv_iload_n hx hb dX9_reckonAll_225 rfl (lv_at hl 0 rfl) ?_
        refine lv_iconst (v := 1) hx hb dX9_reckonAll_226 (by decide) ?_
        refine lv_isub hx hb dX9_reckonAll_227 ?_
        refine lv_aload_n hx hb dX9_reckonAll_228 rfl (lv_at hl 3 rfl) ?_
        refine lv_iload hx hb dX9_reckonAll_229 (lv_at hl 5 rfl) ?_
        refine lv_aload_n hx hb dX9_reckonAll_231 rfl (lv_at hl 3 rfl) ?_
        refine fgX9_37 hx hb hts hown hK hw 0 rfl kw1213 dX9_reckonAll_232 ?_
        refine lv_iload_n hx hb dX9_reckonAll_235 rfl (lv_at hl 0 rfl) ?_
        refine lv_iconst (v := 1) hx hb dX9_reckonAll_236 (by decide) ?_
        refine lv_isub hx hb dX9_reckonAll_237 ?_
        obtain ⟨g12, h⟩ := z_gd h
        refine faX9_37 hx hb hK hw 0 rfl rfl g12 dX9_reckonAll_238 ?_
        refine lv_aload_n hx hb dX9_reckonAll_239 rfl (lv_at hl 3 rfl) ?_
        refine fgX9_37 hx hb hts hown hK hw 0 rfl kw1213 dX9_reckonAll_240 ?_
        refine lv_iload_n hx hb dX9_reckonAll_243 rfl (lv_at hl 0 rfl) ?_
        obtain ⟨g13, h⟩ := z_gd h
        refine faX9_37 hx hb hK hw 0 rfl rfl g13 dX9_reckonAll_244 ?_
        obtain ⟨z14, ez14, h⟩ := z_bd h
        refine xj_l (xrV (As := [.int v5, .long (gM o_me 37 (x11 - (1 : Int32)).toNatClampNeg), .long (gM o_me 37 x11.toNatClampNeg)]) (rest := [.int (x11 - (1 : Int32)), .ref (q_me 37)]) ⟨hx, hb, hml, hown, hts⟩ (m_X9_reckon l dC dI _ h_me q_me k_me o_me v5 (gM o_me 37 (x11 - (1 : Int32)).toNatClampNeg) (gM o_me 37 x11.toNatClampNeg) z14 ez14) kw1428 kw1425 kw1427 kw47 kw120 hd_X9_reckon ⟨rfl, rfl⟩ rfl rfl ⟨rfl, rfl⟩ hX hK hw [0] (by decide) rfl rfl rfl rfl rfl hl.1 rfl rfl dX9_reckonAll_245) hw hA [0] (by decide) rfl rfl (fun H locs hw => ?_)
        have hw : Wd dC dI A s.heap [wX9 h_me q_me k_me z14.2] H locs := hw
        obtain ⟨g15, h⟩ := z_gd h
        refine fbX9_37 hx hb hK hw 0 rfl rfl g15 dX9_reckonAll_248 (fun H locs hw => ?_)
        obtain ⟨o16, eo16, h⟩ := z_lt h
        have hw : Wd dC dI A s.heap [wX9 h_me q_me k_me o16] H locs := by rw [eo16]; exact hw
        refine lv_aload_n hx hb dX9_reckonAll_249 rfl (lv_at hl 3 rfl) ?_
        refine lv_aload_n hx hb dX9_reckonAll_250 rfl (lv_at hl 3 rfl) ?_
        refine fgX9_38 hx hb hts hown hK hw 0 rfl kw1214 dX9_reckonAll_251 ?_
        refine lv_if_ne (tgt := 277) hx hb dX9_reckonAll_254 (by decide) (fun c => ?_) (fun c => ?_)
        · have h := z_f h c
          exact bk_277_7 rec_10_0 hrec_10_0 v2 x11 x5 o16 _ _ _ h hw (lv_sub hl [3, 4, 0, 1] rfl)
        · have h := z_t h c
          refine lv_aload_n hx hb dX9_reckonAll_257 rfl (lv_at hl 3 rfl) ?_
          refine fgX9_37 hx hb hts hown hK hw 0 rfl kw1213 dX9_reckonAll_258 ?_
          refine lv_iload_n hx hb dX9_reckonAll_261 rfl (lv_at hl 0 rfl) ?_
          refine lv_iconst (v := 1) hx hb dX9_reckonAll_262 (by decide) ?_
          refine lv_isub hx hb dX9_reckonAll_263 ?_
          obtain ⟨g19, h⟩ := z_gd h
          refine faX9_37 hx hb hK hw 0 rfl rfl g19 dX9_reckonAll_264 ?_
          refine lv_ldc2 (v := (-1000000000)) hx hb hown (hts _ kw1429) dX9_reckonAll_265 ?_
          refine lv_ldc2 (v := 1000000000) hx hb hown (hts _ kw1430) dX9_reckonAll_268 ?_
          obtain ⟨z20, ez20, h⟩ := z_bd h
          refine xj_i (xrS (As := [.long (gM o16 37 (x11 - (1 : Int32)).toNatClampNeg), .long (-1000000000 : Int64), .long (1000000000 : Int64)]) (rest := [.ref h_me]) ⟨hx, hb, hml, hown, hts⟩ (m_X9_in l dC dI _  (gM o16 37 (x11 - (1 : Int32)).toNatClampNeg) (-1000000000 : Int64) (1000000000 : Int64) z20 ez20) kw1385 kw1383 kw1384 kw120 hd_X9_in ⟨rfl, rfl⟩ rfl rfl ⟨rfl, rfl⟩ hX hK hw [] (by decide) rfl rfl hl.1 rfl rfl dX9_reckonAll_271) hw hA [] (by decide) rfl rfl (fun H locs hw => ?_)
          refine lv_if_ne (tgt := 281) hx hb dX9_reckonAll_274 (by decide) (fun c => ?_) (fun c => ?_)
          · have h := z_f h c
            refine lv_iconst (v := 0) hx hb dX9_reckonAll_281 (by decide) ?_
            exact bk_282_8 rec_10_0 hrec_10_0 v2 x11 x5 (0 : Int32) o16 _ _ _ h hw (lv_sub hl [3, 4, 0, 1] rfl)
          · have h := z_t h c
            exact bk_277_7 rec_10_0 hrec_10_0 v2 x11 x5 o16 _ _ _ h hw (lv_sub hl [3, 4, 0, 1] rfl)
    · have h := z_f h c
      refine lv_aload_n hx hb dX9_reckonAll_107 rfl (lv_at hl 2 rfl) ?_
      refine fgX9_37 hx hb hts hown hK hw 0 rfl kw1213 dX9_reckonAll_108 ?_
      refine lv_iload_n hx hb dX9_reckonAll_111 rfl (lv_at hl 4 rfl) ?_
      refine lv_iload hx hb dX9_reckonAll_112 (lv_at hl 5 rfl) ?_
      refine lv_if_ne (tgt := 123) hx hb dX9_reckonAll_114 (by decide) (fun c => ?_) (fun c => ?_)
      · have h := z_f h c
        refine lv_aload_n hx hb dX9_reckonAll_123 rfl (lv_at hl 2 rfl) ?_
        refine fgX9_20 hx hb hts hown hK hw 0 rfl kw1196 dX9_reckonAll_124 ?_
        refine lv_if_ne (tgt := 140) hx hb dX9_reckonAll_127 (by decide) (fun c => ?_) (fun c => ?_)
        · have h := z_f h c
          refine lv_iload hx hb dX9_reckonAll_140 (lv_at hl 5 rfl) ?_
          refine lv_bipush (v := 6) hx hb dX9_reckonAll_142 (by decide) ?_
          refine lv_icmp_ge (tgt := 157) hx hb dX9_reckonAll_144 (by decide) (fun c => ?_) (fun c => ?_)
          · have h := z_t h c
            refine lv_aload_n hx hb dX9_reckonAll_157 rfl (lv_at hl 2 rfl) ?_
            refine lv_iload hx hb dX9_reckonAll_158 (lv_at hl 1 rfl) ?_
            obtain ⟨z21, ez21, h⟩ := z_bd h
            refine xj_i (xrV (As := [.int s0]) (rest := [.int v3, .ref (q_me 37)]) ⟨hx, hb, hml, hown, hts⟩ (m_X9_isPerson l dC dI _ h_me q_me k_me o_me s0 z21 ez21) kw1402 kw1399 kw1401 kw42 kw120 hd_X9_isPerson ⟨rfl, rfl⟩ rfl rfl ⟨rfl, rfl⟩ hX hK hw [0] (by decide) rfl rfl rfl rfl rfl hl.1 rfl rfl dX9_reckonAll_160) hw hA [0] (by decide) rfl rfl (fun H locs hw => ?_)
            have hw : Wd dC dI A s.heap [wX9 h_me q_me k_me o_me] H locs := hw
            refine lv_if_ne (tgt := 172) hx hb dX9_reckonAll_163 (by decide) (fun c => ?_) (fun c => ?_)
            · have h := z_f h c
              refine lv_iload hx hb dX9_reckonAll_172 (lv_at hl 5 rfl) ?_
              refine lv_bipush (v := 6) hx hb dX9_reckonAll_174 (by decide) ?_
              refine lv_icmp_ne (tgt := 193) hx hb dX9_reckonAll_176 (by decide) (fun c => ?_) (fun c => ?_)
              · have h := z_f h c
                refine lv_aload_n hx hb dX9_reckonAll_193 rfl (lv_at hl 2 rfl) ?_
                refine fgX9_3 hx hb hts hown hK hw 0 rfl kw1179 dX9_reckonAll_194 ?_
                refine lv_bipush (v := 8) hx hb dX9_reckonAll_197 (by decide) ?_
                refine lv_iload hx hb dX9_reckonAll_199 (lv_at hl 1 rfl) ?_
                refine lv_iadd hx hb dX9_reckonAll_201 ?_
                obtain ⟨g22, h⟩ := z_gd h
                refine faX9_3 hx hb hK hw 0 rfl rfl g22 dX9_reckonAll_202 ?_
                refine lv_i2l hx hb dX9_reckonAll_203 rfl ?_
                exact bk_204_9 rec_10_0 hrec_10_0 v2 v3 x5 ((gA o_me 3 ((8 : Int32) + s0).toNatClampNeg).toInt64) v3 o_me _ _ _ h hw (lv_sub hl [2, 3, 4, 0] rfl)
              · have h := z_t h c
                refine lv_aload_n hx hb dX9_reckonAll_179 rfl (lv_at hl 2 rfl) ?_
                refine fgX9_3 hx hb hts hown hK hw 0 rfl kw1179 dX9_reckonAll_180 ?_
                refine lv_bipush (v := 15) hx hb dX9_reckonAll_183 (by decide) ?_
                refine lv_iload hx hb dX9_reckonAll_185 (lv_at hl 1 rfl) ?_
                refine lv_iadd hx hb dX9_reckonAll_187 ?_
                obtain ⟨g26, h⟩ := z_gd h
                refine faX9_3 hx hb hK hw 0 rfl rfl g26 dX9_reckonAll_188 ?_
                refine lv_i2l hx hb dX9_reckonAll_189 rfl ?_
                refine lv_goto (tgt := 204) hx hb dX9_reckonAll_190 (by decide) ?_
                exact bk_204_9 rec_10_0 hrec_10_0 v2 v3 x5 ((gA o_me 3 ((15 : Int32) + s0).toNatClampNeg).toInt64) v3 o_me _ _ _ h hw (lv_sub hl [2, 3, 4, 0] rfl)
            · have h := z_t h c
              refine lv_ldc2 (v := (-1)) hx hb hown (hts _ kw1424) dX9_reckonAll_166 ?_
              refine lv_goto (tgt := 204) hx hb dX9_reckonAll_169 (by decide) ?_
              exact bk_204_9 rec_10_0 hrec_10_0 v2 v3 x5 (-1 : Int64) v3 o_me _ _ _ h hw (lv_sub hl [2, 3, 4, 0] rfl)
          · have h := z_f h c
            refine lv_aload_n hx hb dX9_reckonAll_147 rfl (lv_at hl 2 rfl) ?_
            refine fgX9_36 hx hb hts hown hK hw 0 rfl kw1212 dX9_reckonAll_148 ?_
            refine lv_iload hx hb dX9_reckonAll_151 (lv_at hl 5 rfl) ?_
            obtain ⟨g27, h⟩ := z_gd h
            refine faX9_36 hx hb hK hw 0 rfl rfl g27 dX9_reckonAll_153 ?_
            refine lv_goto (tgt := 204) hx hb dX9_reckonAll_154 (by decide) ?_
            exact bk_204_9 rec_10_0 hrec_10_0 v2 v3 x5 (gM o_me 36 v5.toNatClampNeg) v3 o_me _ _ _ h hw (lv_sub hl [2, 3, 4, 0] rfl)
        · have h := z_t h c
          refine lv_aload_n hx hb dX9_reckonAll_130 rfl (lv_at hl 2 rfl) ?_
          refine fgX9_35 hx hb hts hown hK hw 0 rfl kw1211 dX9_reckonAll_131 ?_
          refine lv_iload hx hb dX9_reckonAll_134 (lv_at hl 5 rfl) ?_
          obtain ⟨g28, h⟩ := z_gd h
          refine faX9_35 hx hb hK hw 0 rfl rfl g28 dX9_reckonAll_136 ?_
          refine lv_goto (tgt := 204) hx hb dX9_reckonAll_137 (by decide) ?_
          exact bk_204_9 rec_10_0 hrec_10_0 v2 v3 x5 (gM o_me 35 v5.toNatClampNeg) v3 o_me _ _ _ h hw (lv_sub hl [2, 3, 4, 0] rfl)
      · have h := z_t h c
        refine lv_iload hx hb dX9_reckonAll_117 (lv_at hl 1 rfl) ?_
        refine lv_i2l hx hb dX9_reckonAll_119 rfl ?_
        refine lv_goto (tgt := 204) hx hb dX9_reckonAll_120 (by decide) ?_
        exact bk_204_9 rec_10_0 hrec_10_0 v2 v3 x5 s0.toInt64 v3 o_me _ _ _ h hw (lv_sub hl [2, 3, 4, 0] rfl)
  have bk_57_3 : ∀ (rec_10_0 : Int32 × Int32 × Int32 × Ob → Option (Ob)) (hrec_10_0 : ∀ (v2 : Int32) (v3 : Int32) (v4 : Int32) (o_me : Ob) (H : Heap) (locs : List Loc) (ls : Array Slot), rec_10_0 (v2, v3, v4, o_me) = some y → Wd dC dI A s.heap [wX9 h_me q_me k_me o_me] H locs → lv_has ls 7 [(0, .ref h_me), (2, .int v2), (3, .int v3), (4, .int v4)] → W p l e ({ frames := 2, cells := 0, slots := 0, locals := 46 } : Room) s m ([.ref h_me, .int p0, .int p1] : List Value).toArray below meth c H locs 0 0 Qz (F0 m 10 ls [])), ∀ (v2 : Int32) (v3 : Int32) (v4 : Int32) (s0 : Int32) (o_me : Ob) (H : Heap) (locs : List Loc) (ls : Array Slot), bk_X9_reckonAll_57  rec_10_0 v2 v3 v4 s0 o_me = some y → Wd dC dI A s.heap [wX9 h_me q_me k_me o_me] H locs → lv_has ls 7 [(0, .ref h_me), (2, .int v2), (3, .int v3), (4, .int v4)] → W p l e ({ frames := 2, cells := 0, slots := 0, locals := 46 } : Room) s m ([.ref h_me, .int p0, .int p1] : List Value).toArray below meth c H locs 0 0 Qz (F0 m 57 ls [.int s0]) := by
    intro rec_10_0 hrec_10_0
    intro v2 v3 v4 s0 o_me H locs ls h hw hl
    unfold bk_X9_reckonAll_57 at h
    refine lv_istore (lv' := [(5, .int s0), (0, .ref h_me), (2, .int v2), (3, .int v3), (4, .int v4)]) hx hb dX9_reckonAll_57 hl (by decide) rfl (fun ls hl => ?_)
    refine lv_aload_n hx hb dX9_reckonAll_59 rfl (lv_at hl 1 rfl) ?_
    refine fgX9_20 hx hb hts hown hK hw 0 rfl kw1196 dX9_reckonAll_60 ?_
    refine lv_if_eq (tgt := 76) hx hb dX9_reckonAll_63 (by decide) (fun c => ?_) (fun c => ?_)
    · have h := z_t h c
      refine lv_aload_n hx hb dX9_reckonAll_76 rfl (lv_at hl 1 rfl) ?_
      refine fgX9_3 hx hb hts hown hK hw 0 rfl kw1179 dX9_reckonAll_77 ?_
      refine lv_aload_n hx hb dX9_reckonAll_80 rfl (lv_at hl 1 rfl) ?_
      refine fgX9_34 hx hb hts hown hK hw 0 rfl kw1210 dX9_reckonAll_81 ?_
      refine lv_bipush (v := 98) hx hb dX9_reckonAll_84 (by decide) ?_
      refine lv_iadd hx hb dX9_reckonAll_86 ?_
      refine lv_iconst (v := 2) hx hb dX9_reckonAll_87 (by decide) ?_
      refine lv_iload hx hb dX9_reckonAll_88 (lv_at hl 4 rfl) ?_
      refine lv_imul hx hb dX9_reckonAll_90 ?_
      refine lv_iadd hx hb dX9_reckonAll_91 ?_
      refine lv_iconst (v := 1) hx hb dX9_reckonAll_92 (by decide) ?_
      refine lv_iadd hx hb dX9_reckonAll_93 ?_
      obtain ⟨g4, h⟩ := z_gd h
      refine faX9_3 hx hb hK hw 0 rfl rfl g4 dX9_reckonAll_94 ?_
      exact bk_95_4 rec_10_0 hrec_10_0 v2 v3 v4 s0 (gA o_me 3 ((((gI o_me 34) + (98 : Int32)) + ((2 : Int32) * v4)) + (1 : Int32)).toNatClampNeg) o_me _ _ _ h hw (lv_sub hl [1, 2, 3, 4, 0] rfl)
    · have h := z_f h c
      refine lv_aload_n hx hb dX9_reckonAll_66 rfl (lv_at hl 1 rfl) ?_
      refine fgX9_25 hx hb hts hown hK hw 0 rfl kw1201 dX9_reckonAll_67 ?_
      refine lv_iload hx hb dX9_reckonAll_70 (lv_at hl 4 rfl) ?_
      obtain ⟨g29, h⟩ := z_gd h
      refine faX9_25 hx hb hK hw 0 rfl rfl g29 dX9_reckonAll_72 ?_
      refine lv_goto (tgt := 95) hx hb dX9_reckonAll_73 (by decide) ?_
      exact bk_95_4 rec_10_0 hrec_10_0 v2 v3 v4 s0 (gA o_me 25 v4.toNatClampNeg) o_me _ _ _ h hw (lv_sub hl [1, 2, 3, 4, 0] rfl)
  have lp_10_0 : ∀ (N : Nat), ∀ (v2 : Int32) (v3 : Int32) (v4 : Int32) (o_me : Ob) (H : Heap) (locs : List Loc) (ls : Array Slot), lp_X9_reckonAll_10   N (v2, v3, v4, o_me) = some y → Wd dC dI A s.heap [wX9 h_me q_me k_me o_me] H locs → lv_has ls 7 [(0, .ref h_me), (2, .int v2), (3, .int v3), (4, .int v4)] → W p l e ({ frames := 2, cells := 0, slots := 0, locals := 46 } : Room) s m ([.ref h_me, .int p0, .int p1] : List Value).toArray below meth c H locs 0 0 Qz (F0 m 10 ls []) := by
    intro N
    induction N with
    | zero =>
      intro v2 v3 v4 o_me H locs ls h hw hl
      exact absurd (show (none : Option (Ob)) = some y from h) (by simp)
    | succ N ih =>
      intro v2 v3 v4 o_me H locs ls h hw hl
      have h : lb_X9_reckonAll_10   (lp_X9_reckonAll_10   N) v2 v3 v4 o_me = some y := h
      unfold lb_X9_reckonAll_10 at h
      refine lv_iload hx hb dX9_reckonAll_10 (lv_at hl 3 rfl) ?_
      refine lv_iload_n hx hb dX9_reckonAll_12 rfl (lv_at hl 1 rfl) ?_
      refine lv_icmp_ge (tgt := 353) hx hb dX9_reckonAll_13 (by decide) (fun c => ?_) (fun c => ?_)
      · have h := z_t h c
        exact bk_353_1  v3 o_me _ _ _ h hw (lv_sub hl [0, 2] rfl)
      · have h := z_f h c
        refine lv_aload_n hx hb dX9_reckonAll_16 rfl (lv_at hl 0 rfl) ?_
        refine fgX9_38 hx hb hts hown hK hw 0 rfl kw1214 dX9_reckonAll_17 ?_
        refine lv_if_ne (tgt := 353) hx hb dX9_reckonAll_20 (by decide) (fun c => ?_) (fun c => ?_)
        · have h := z_f h c
          exact bk_353_1  v3 o_me _ _ _ h hw (lv_sub hl [0, 2] rfl)
        · have h := z_t h c
          refine lv_aload_n hx hb dX9_reckonAll_23 rfl (lv_at hl 0 rfl) ?_
          refine fgX9_20 hx hb hts hown hK hw 0 rfl kw1196 dX9_reckonAll_24 ?_
          refine lv_if_eq (tgt := 40) hx hb dX9_reckonAll_27 (by decide) (fun c => ?_) (fun c => ?_)
          · have h := z_t h c
            refine lv_aload_n hx hb dX9_reckonAll_40 rfl (lv_at hl 0 rfl) ?_
            refine fgX9_3 hx hb hts hown hK hw 0 rfl kw1179 dX9_reckonAll_41 ?_
            refine lv_aload_n hx hb dX9_reckonAll_44 rfl (lv_at hl 0 rfl) ?_
            refine fgX9_34 hx hb hts hown hK hw 0 rfl kw1210 dX9_reckonAll_45 ?_
            refine lv_bipush (v := 98) hx hb dX9_reckonAll_48 (by decide) ?_
            refine lv_iadd hx hb dX9_reckonAll_50 ?_
            refine lv_iconst (v := 2) hx hb dX9_reckonAll_51 (by decide) ?_
            refine lv_iload hx hb dX9_reckonAll_52 (lv_at hl 3 rfl) ?_
            refine lv_imul hx hb dX9_reckonAll_54 ?_
            refine lv_iadd hx hb dX9_reckonAll_55 ?_
            obtain ⟨g3, h⟩ := z_gd h
            refine faX9_3 hx hb hK hw 0 rfl rfl g3 dX9_reckonAll_56 ?_
            exact bk_57_3 (lp_X9_reckonAll_10   N) ih v2 v3 v4 (gA o_me 3 (((gI o_me 34) + (98 : Int32)) + ((2 : Int32) * v4)).toNatClampNeg) o_me _ _ _ h hw (lv_sub hl [0, 1, 2, 3] rfl)
          · have h := z_f h c
            refine lv_aload_n hx hb dX9_reckonAll_30 rfl (lv_at hl 0 rfl) ?_
            refine fgX9_24 hx hb hts hown hK hw 0 rfl kw1200 dX9_reckonAll_31 ?_
            refine lv_iload hx hb dX9_reckonAll_34 (lv_at hl 3 rfl) ?_
            obtain ⟨g30, h⟩ := z_gd h
            refine faX9_24 hx hb hK hw 0 rfl rfl g30 dX9_reckonAll_36 ?_
            refine lv_goto (tgt := 57) hx hb dX9_reckonAll_37 (by decide) ?_
            exact bk_57_3 (lp_X9_reckonAll_10   N) ih v2 v3 v4 (gA o_me 24 v4.toNatClampNeg) o_me _ _ _ h hw (lv_sub hl [0, 1, 2, 3] rfl)
  unfold f_X9_reckonAll at h
  refine lv_aload_n hx hb dX9_reckonAll_0 rfl (lv_at hl 0 rfl) ?_
  refine lv_iconst (v := 0) hx hb dX9_reckonAll_1 (by decide) ?_
  refine fpX9_38 hx hb hts hown hK hw 0 rfl kw1214 (by decide) dX9_reckonAll_2 (fun H locs hw => ?_)
  obtain ⟨o1, eo1, h⟩ := z_lt h
  have hw : Wd dC dI A s.heap [wX9 h_me q_me k_me o1] H locs := by rw [eo1]; exact hw
  refine lv_iconst (v := 0) hx hb dX9_reckonAll_5 (by decide) ?_
  refine lv_istore_n (lv' := [(3, .int (0 : Int32)), (0, .ref h_me), (1, .int p0), (2, .int p1)]) hx hb dX9_reckonAll_6 rfl hl (by decide) rfl (fun ls hl => ?_)
  refine lv_iload_n hx hb dX9_reckonAll_7 rfl (lv_at hl 2 rfl) ?_
  refine lv_istore (lv' := [(4, .int p0), (3, .int (0 : Int32)), (0, .ref h_me), (1, .int p0), (2, .int p1)]) hx hb dX9_reckonAll_8 hl (by decide) rfl (fun ls hl => ?_)
  exact lp_10_0  zfu p1 (0 : Int32) p0 o1 _ _ _ h hw (lv_sub hl [2, 4, 1, 0] rfl)

def bk_X9_isSo_59   (v1 : Int32) (o_me : Ob) : Option (Int32 × Ob) :=
  zgd (zin v1 5484) <|
  if (gA o_me 3 v1.toNatClampNeg) = (3 : Int32) then
  (some ((1 : Int32), o_me))
  else
  (zgd (zin (v1 + (3 : Int32)) 5484) <|
  zgd (zin (v1 + (4 : Int32)) 5484) <|
  (f_X9_reckonAll o_me (gA o_me 3 (v1 + (3 : Int32)).toNatClampNeg) (gA o_me 3 (v1 + (4 : Int32)).toNatClampNeg)).bind fun z6 =>
  zlt (sL z6 40 (gL z6 39)) fun o7 =>
  if (gI o7 38) = (0 : Int32) then
  (some ((1 : Int32), o7))
  else
  (some ((0 : Int32), o7)))
def f_X9_isSo (o_me : Ob) (p0 : Int32) : Option (Int32 × Ob) :=
  zgd (zin (p0 + (5 : Int32)) 5484) <|
  zgd (zin (p0 + (6 : Int32)) 5484) <|
  if (gA o_me 3 (p0 + (6 : Int32)).toNatClampNeg) ≤ (gA o_me 3 (p0 + (5 : Int32)).toNatClampNeg) then
  (bk_X9_isSo_59   p0 o_me)
  else
  (zgd (zin (p0 + (5 : Int32)) 5484) <|
  zgd (zin (p0 + (6 : Int32)) 5484) <|
  (f_X9_reckonAll o_me (gA o_me 3 (p0 + (5 : Int32)).toNatClampNeg) (gA o_me 3 (p0 + (6 : Int32)).toNatClampNeg)).bind fun z10 =>
  if (gI z10 38) = (0 : Int32) then
  (if (lg_cmp (gL z10 39) (0 : Int64)) = (0 : Int32) then
  (some ((0 : Int32), z10))
  else
  (bk_X9_isSo_59   p0 z10))
  else
  (some ((0 : Int32), z10)))
set_option maxHeartbeats 4000000 in
set_option maxRecDepth 100000 in
theorem m_X9_isSo (l : Launch) (dC : Nat → ClassId) (dI : Nat → Nat → Nat) (sz : Nat) (h_me : Nat) (q_me : Nat → Nat) (k_me : Nat → ClassId) (o_me : Ob) (p0 : Int32) (y : Int32 × Ob) (h : f_X9_isSo o_me p0 = some y) : CI l yX9_isSo cX9_isSo 2 (some .boolean) ({ frames := 3, cells := 0, slots := 0, locals := 72 } : Room) dC dI sz [.ref h_me, .int p0] [wX9 h_me q_me k_me o_me] [tX9 k_me] y.1 [wX9 h_me q_me k_me y.2] := by
  refine CC_of (by decide) (Nat.le_of_ble_eq_true rfl) ?_
  intro p e s m below meth c A ls hx hb hml hr hlk hnm hown hts hX hK hP hD hA hl
  have hl : lv_has ls 2 [(0, .ref h_me), (1, .int p0)] := hl
  have hown : s.vm.findClass RX9 = some m.cls := hown
  have hw : Wd dC dI A s.heap [wX9 h_me q_me k_me o_me] s.heap [] := ⟨hP, hD, va_S.rf⟩
  generalize hQz : (MQ below (QI dC dI (fun r (_ : Unit) => r = y.1) (fun _ => Jn [wX9 h_me q_me k_me y.2]) (fun _ => Jt [tX9 k_me]) A) ([.ref h_me, .int p0] : List Value).toArray s 0 0 A) = Qz
  clear hP hD hnm
  have bk_59_0 : ∀ (v1 : Int32) (o_me : Ob) (H : Heap) (locs : List Loc) (ls : Array Slot), bk_X9_isSo_59   v1 o_me = some y → Wd dC dI A s.heap [wX9 h_me q_me k_me o_me] H locs → lv_has ls 2 [(0, .ref h_me), (1, .int v1)] → W p l e ({ frames := 3, cells := 0, slots := 0, locals := 72 } : Room) s m ([.ref h_me, .int p0] : List Value).toArray below meth c H locs 0 0 Qz (F0 m 59 ls []) := by
    intro v1 o_me H locs ls h hw hl
    unfold bk_X9_isSo_59 at h
    refine lv_aload_n hx hb dX9_isSo_59 rfl (lv_at hl 0 rfl) ?_
    refine fgX9_3 hx hb hts hown hK hw 0 rfl kw1179 dX9_isSo_60 ?_
    refine lv_iload_n hx hb dX9_isSo_63 rfl (lv_at hl 1 rfl) ?_
    obtain ⟨g3, h⟩ := z_gd h
    refine faX9_3 hx hb hK hw 0 rfl rfl g3 dX9_isSo_64 ?_
    refine lv_iconst (v := 3) hx hb dX9_isSo_65 (by decide) ?_
    refine lv_icmp_eq (tgt := 110) hx hb dX9_isSo_66 (by decide) (fun c => ?_) (fun c => ?_)
    · have h := z_t h c
      refine lv_iconst (v := 1) hx hb dX9_isSo_110 (by decide) ?_
      have hy := Option.some.inj h
      rw [← hQz, ← hy]
      exact xr_i (v := (1 : Int32)) hx hb hr rfl hlk hK hw dX9_isSo_111
    · have h := z_f h c
      refine lv_aload_n hx hb dX9_isSo_69 rfl (lv_at hl 0 rfl) ?_
      refine lv_aload_n hx hb dX9_isSo_70 rfl (lv_at hl 0 rfl) ?_
      refine fgX9_3 hx hb hts hown hK hw 0 rfl kw1179 dX9_isSo_71 ?_
      refine lv_iload_n hx hb dX9_isSo_74 rfl (lv_at hl 1 rfl) ?_
      refine lv_iconst (v := 3) hx hb dX9_isSo_75 (by decide) ?_
      refine lv_iadd hx hb dX9_isSo_76 ?_
      obtain ⟨g4, h⟩ := z_gd h
      refine faX9_3 hx hb hK hw 0 rfl rfl g4 dX9_isSo_77 ?_
      refine lv_aload_n hx hb dX9_isSo_78 rfl (lv_at hl 0 rfl) ?_
      refine fgX9_3 hx hb hts hown hK hw 0 rfl kw1179 dX9_isSo_79 ?_
      refine lv_iload_n hx hb dX9_isSo_82 rfl (lv_at hl 1 rfl) ?_
      refine lv_iconst (v := 4) hx hb dX9_isSo_83 (by decide) ?_
      refine lv_iadd hx hb dX9_isSo_84 ?_
      obtain ⟨g5, h⟩ := z_gd h
      refine faX9_3 hx hb hK hw 0 rfl rfl g5 dX9_isSo_85 ?_
      obtain ⟨z6, ez6, h⟩ := z_bd h
      refine xj_v (xrV (As := [.int (gA o_me 3 (v1 + (3 : Int32)).toNatClampNeg), .int (gA o_me 3 (v1 + (4 : Int32)).toNatClampNeg)]) (rest := []) ⟨hx, hb, hml, hown, hts⟩ (m_X9_reckonAll l dC dI _ h_me q_me k_me o_me (gA o_me 3 (v1 + (3 : Int32)).toNatClampNeg) (gA o_me 3 (v1 + (4 : Int32)).toNatClampNeg) z6 ez6) kw1423 kw1420 kw1422 kw46 kw120 hd_X9_reckonAll ⟨rfl, rfl⟩ rfl rfl ⟨rfl, rfl⟩ hX hK hw [0] (by decide) rfl rfl rfl rfl rfl hl.1 rfl rfl dX9_isSo_86) hw hA [0] (by decide) rfl rfl (fun H locs hw => ?_)
      have hw : Wd dC dI A s.heap [wX9 h_me q_me k_me z6] H locs := hw
      refine lv_aload_n hx hb dX9_isSo_89 rfl (lv_at hl 0 rfl) ?_
      refine lv_aload_n hx hb dX9_isSo_90 rfl (lv_at hl 0 rfl) ?_
      refine fgX9_39 hx hb hts hown hK hw 0 rfl kw1215 dX9_isSo_91 ?_
      refine fpX9_40 hx hb hts hown hK hw 0 rfl kw1216 dX9_isSo_94 (fun H locs hw => ?_)
      obtain ⟨o7, eo7, h⟩ := z_lt h
      have hw : Wd dC dI A s.heap [wX9 h_me q_me k_me o7] H locs := by rw [eo7]; exact hw
      refine lv_aload_n hx hb dX9_isSo_97 rfl (lv_at hl 0 rfl) ?_
      refine fgX9_38 hx hb hts hown hK hw 0 rfl kw1214 dX9_isSo_98 ?_
      refine lv_if_ne (tgt := 108) hx hb dX9_isSo_101 (by decide) (fun c => ?_) (fun c => ?_)
      · have h := z_f h c
        refine lv_iconst (v := 0) hx hb dX9_isSo_108 (by decide) ?_
        have hy := Option.some.inj h
        rw [← hQz, ← hy]
        exact xr_i (v := (0 : Int32)) hx hb hr rfl hlk hK hw dX9_isSo_109
      · have h := z_t h c
        refine lv_iconst (v := 1) hx hb dX9_isSo_104 (by decide) ?_
        refine lv_goto (tgt := 109) hx hb dX9_isSo_105 (by decide) ?_
        have hy := Option.some.inj h
        rw [← hQz, ← hy]
        exact xr_i (v := (1 : Int32)) hx hb hr rfl hlk hK hw dX9_isSo_109
  unfold f_X9_isSo at h
  refine lv_aload_n hx hb dX9_isSo_0 rfl (lv_at hl 0 rfl) ?_
  refine fgX9_3 hx hb hts hown hK hw 0 rfl kw1179 dX9_isSo_1 ?_
  refine lv_iload_n hx hb dX9_isSo_4 rfl (lv_at hl 1 rfl) ?_
  refine lv_iconst (v := 5) hx hb dX9_isSo_5 (by decide) ?_
  refine lv_iadd hx hb dX9_isSo_6 ?_
  obtain ⟨g1, h⟩ := z_gd h
  refine faX9_3 hx hb hK hw 0 rfl rfl g1 dX9_isSo_7 ?_
  refine lv_aload_n hx hb dX9_isSo_8 rfl (lv_at hl 0 rfl) ?_
  refine fgX9_3 hx hb hts hown hK hw 0 rfl kw1179 dX9_isSo_9 ?_
  refine lv_iload_n hx hb dX9_isSo_12 rfl (lv_at hl 1 rfl) ?_
  refine lv_bipush (v := 6) hx hb dX9_isSo_13 (by decide) ?_
  refine lv_iadd hx hb dX9_isSo_15 ?_
  obtain ⟨g2, h⟩ := z_gd h
  refine faX9_3 hx hb hK hw 0 rfl rfl g2 dX9_isSo_16 ?_
  refine lv_icmp_ge (tgt := 59) hx hb dX9_isSo_17 (by decide) (fun c => ?_) (fun c => ?_)
  · have h := z_t h c
    exact bk_59_0  p0 o_me _ _ _ h hw (lv_sub hl [0, 1] rfl)
  · have h := z_f h c
    refine lv_aload_n hx hb dX9_isSo_20 rfl (lv_at hl 0 rfl) ?_
    refine lv_aload_n hx hb dX9_isSo_21 rfl (lv_at hl 0 rfl) ?_
    refine fgX9_3 hx hb hts hown hK hw 0 rfl kw1179 dX9_isSo_22 ?_
    refine lv_iload_n hx hb dX9_isSo_25 rfl (lv_at hl 1 rfl) ?_
    refine lv_iconst (v := 5) hx hb dX9_isSo_26 (by decide) ?_
    refine lv_iadd hx hb dX9_isSo_27 ?_
    obtain ⟨g8, h⟩ := z_gd h
    refine faX9_3 hx hb hK hw 0 rfl rfl g8 dX9_isSo_28 ?_
    refine lv_aload_n hx hb dX9_isSo_29 rfl (lv_at hl 0 rfl) ?_
    refine fgX9_3 hx hb hts hown hK hw 0 rfl kw1179 dX9_isSo_30 ?_
    refine lv_iload_n hx hb dX9_isSo_33 rfl (lv_at hl 1 rfl) ?_
    refine lv_bipush (v := 6) hx hb dX9_isSo_34 (by decide) ?_
    refine lv_iadd hx hb dX9_isSo_36 ?_
    obtain ⟨g9, h⟩ := z_gd h
    refine faX9_3 hx hb hK hw 0 rfl rfl g9 dX9_isSo_37 ?_
    obtain ⟨z10, ez10, h⟩ := z_bd h
    refine xj_v (xrV (As := [.int (gA o_me 3 (p0 + (5 : Int32)).toNatClampNeg), .int (gA o_me 3 (p0 + (6 : Int32)).toNatClampNeg)]) (rest := []) ⟨hx, hb, hml, hown, hts⟩ (m_X9_reckonAll l dC dI _ h_me q_me k_me o_me (gA o_me 3 (p0 + (5 : Int32)).toNatClampNeg) (gA o_me 3 (p0 + (6 : Int32)).toNatClampNeg) z10 ez10) kw1423 kw1420 kw1422 kw46 kw120 hd_X9_reckonAll ⟨rfl, rfl⟩ rfl rfl ⟨rfl, rfl⟩ hX hK hw [0] (by decide) rfl rfl rfl rfl rfl hl.1 rfl rfl dX9_isSo_38) hw hA [0] (by decide) rfl rfl (fun H locs hw => ?_)
    have hw : Wd dC dI A s.heap [wX9 h_me q_me k_me z10] H locs := hw
    refine lv_aload_n hx hb dX9_isSo_41 rfl (lv_at hl 0 rfl) ?_
    refine fgX9_38 hx hb hts hown hK hw 0 rfl kw1214 dX9_isSo_42 ?_
    refine lv_if_ne (tgt := 57) hx hb dX9_isSo_45 (by decide) (fun c => ?_) (fun c => ?_)
    · have h := z_f h c
      refine lv_iconst (v := 0) hx hb dX9_isSo_57 (by decide) ?_
      have hy := Option.some.inj h
      rw [← hQz, ← hy]
      exact xr_i (v := (0 : Int32)) hx hb hr rfl hlk hK hw dX9_isSo_58
    · have h := z_t h c
      refine lv_aload_n hx hb dX9_isSo_48 rfl (lv_at hl 0 rfl) ?_
      refine fgX9_39 hx hb hts hown hK hw 0 rfl kw1215 dX9_isSo_49 ?_
      refine lv_lconst (v := 0) hx hb dX9_isSo_52 (by decide) ?_
      refine W.lcmp hx hb dX9_isSo_53 ?_
      refine lv_if_ne (tgt := 59) hx hb dX9_isSo_54 (by decide) (fun c => ?_) (fun c => ?_)
      · have h := z_f h c
        exact bk_59_0  p0 z10 _ _ _ h hw (lv_sub hl [0, 1] rfl)
      · have h := z_t h c
        refine lv_iconst (v := 0) hx hb dX9_isSo_57 (by decide) ?_
        have hy := Option.some.inj h
        rw [← hQz, ← hy]
        exact xr_i (v := (0 : Int32)) hx hb hr rfl hlk hK hw dX9_isSo_58

def bk_X9_tells_224  (rec_159_0 : Int32 × Int64 × Int32 × Ob → Option (Int64 × Ob)) (v1 : Int32) (v7 : Int64) (v9 : Int32) (o_me : Ob) : Option (Int64 × Ob) :=
  zlt (v9 + (1 : Int32)) fun x17 =>
  rec_159_0 (v1, v7, x17, o_me)
def bk_X9_tells_222  (rec_159_0 : Int32 × Int64 × Int32 × Ob → Option (Int64 × Ob)) (v1 : Int32) (v9 : Int32) (s0 : Int64) (o_me : Ob) : Option (Int64 × Ob) :=
  bk_X9_tells_224  rec_159_0 v1 s0 v9 o_me
def lb_X9_tells_159   (rec_159_0 : Int32 × Int64 × Int32 × Ob → Option (Int64 × Ob)) (v1 : Int32) (v7 : Int64) (v9 : Int32) (o_me : Ob) : Option (Int64 × Ob) :=
  zgd (zin ((gI o_me 34) + (1 : Int32)) 5484) <|
  if (gA o_me 3 ((gI o_me 34) + (1 : Int32)).toNatClampNeg) ≤ v9 then
  (some (v7, o_me))
  else
  (zlt (((gI o_me 34) + (2 : Int32)) + ((8 : Int32) * v9)) fun x15 =>
  zgd (zin x15 5484) <|
  if (gA o_me 3 x15.toNatClampNeg) = v1 then
  ((f_X9_isSo o_me x15).bind fun z18 =>
  if z18.1 = (0 : Int32) then
  (bk_X9_tells_224  rec_159_0 v1 v7 v9 z18.2)
  else
  (if v1 = (3 : Int32) then
  (bk_X9_tells_222  rec_159_0 v1 v9 (1 : Int64) z18.2)
  else
  (bk_X9_tells_222  rec_159_0 v1 v9 (gL z18.2 40) z18.2)))
  else
  (bk_X9_tells_224  rec_159_0 v1 v7 v9 o_me))
def lp_X9_tells_159   : Nat → (Int32 × Int64 × Int32 × Ob) → Option (Int64 × Ob) := zit (fun rec a => lb_X9_tells_159   rec a.1 a.2.1 a.2.2.1 a.2.2.2)
def f_X9_tells (o_me : Ob) (p0 : Int32) (p1 : Int32) (p2 : Int32) (p3 : Int32) (p4 : Int64) : Option (Int64 × Ob) :=
  if (gA o_me 3 (3 : Int32).toNatClampNeg) = (-1 : Int32) then
  (some (p4, o_me))
  else
  (zlt (sI o_me 34 ((84 : Int32) + ((900 : Int32) * (gA o_me 3 (3 : Int32).toNatClampNeg)))) fun o1 =>
  zlt (tM o1 35 (1 : Int32).toNatClampNeg p1.toInt64) fun o2 =>
  zlt (tM o2 35 (2 : Int32).toNatClampNeg p2.toInt64) fun o3 =>
  zgd (zin (((36 : Int32) + ((4 : Int32) * p1)) + p2) 5484) <|
  zlt (tM o3 35 (3 : Int32).toNatClampNeg ((gA o3 3 (((36 : Int32) + ((4 : Int32) * p1)) + p2).toNatClampNeg).toInt64)) fun o5 =>
  zgd (zin ((8 : Int32) + p1) 5484) <|
  zlt (tM o5 35 (4 : Int32).toNatClampNeg ((gA o5 3 ((8 : Int32) + p1).toNatClampNeg).toInt64)) fun o7 =>
  zgd (zin ((15 : Int32) + p1) 5484) <|
  zlt (tM o7 35 (5 : Int32).toNatClampNeg ((gA o7 3 ((15 : Int32) + p1).toNatClampNeg).toInt64)) fun o9 =>
  zlt (tM o9 35 (6 : Int32).toNatClampNeg p3.toInt64) fun o10 =>
  zlt (tM o10 35 (7 : Int32).toNatClampNeg ((gA o10 3 (7 : Int32).toNatClampNeg).toInt64)) fun o11 =>
  zlt (tM o11 35 (8 : Int32).toNatClampNeg ((gA o11 3 (4 : Int32).toNatClampNeg).toInt64)) fun o12 =>
  zlt (tM o12 35 (9 : Int32).toNatClampNeg ((gA o12 3 (6 : Int32).toNatClampNeg).toInt64)) fun o13 =>
  lp_X9_tells_159   zfu (p0, p4, (0 : Int32), o13))
set_option maxHeartbeats 4000000 in
set_option maxRecDepth 100000 in
theorem m_X9_tells (l : Launch) (dC : Nat → ClassId) (dI : Nat → Nat → Nat) (sz : Nat) (h_me : Nat) (q_me : Nat → Nat) (k_me : Nat → ClassId) (o_me : Ob) (p0 : Int32) (p1 : Int32) (p2 : Int32) (p3 : Int32) (p4 : Int64) (y : Int64 × Ob) (h : f_X9_tells o_me p0 p1 p2 p3 p4 = some y) : CL l yX9_tells cX9_tells 11 (some .long) ({ frames := 4, cells := 0, slots := 0, locals := 93 } : Room) dC dI sz [.ref h_me, .int p0, .int p1, .int p2, .int p3, .long p4] [wX9 h_me q_me k_me o_me] [tX9 k_me] y.1 [wX9 h_me q_me k_me y.2] := by
  refine CC_of (by decide) (Nat.le_of_ble_eq_true rfl) ?_
  intro p e s m below meth c A ls hx hb hml hr hlk hnm hown hts hX hK hP hD hA hl
  have hl : lv_has ls 11 [(0, .ref h_me), (1, .int p0), (2, .int p1), (3, .int p2), (4, .int p3), (5, .long p4)] := hl
  have hown : s.vm.findClass RX9 = some m.cls := hown
  have hw : Wd dC dI A s.heap [wX9 h_me q_me k_me o_me] s.heap [] := ⟨hP, hD, va_S.rf⟩
  generalize hQz : (MQ below (QL dC dI (fun r (_ : Unit) => r = y.1) (fun _ => Jn [wX9 h_me q_me k_me y.2]) (fun _ => Jt [tX9 k_me]) A) ([.ref h_me, .int p0, .int p1, .int p2, .int p3, .long p4] : List Value).toArray s 0 0 A) = Qz
  clear hP hD hnm
  have bk_224_1 : ∀ (rec_159_0 : Int32 × Int64 × Int32 × Ob → Option (Int64 × Ob)) (hrec_159_0 : ∀ (v1 : Int32) (v7 : Int64) (v9 : Int32) (o_me : Ob) (H : Heap) (locs : List Loc) (ls : Array Slot), rec_159_0 (v1, v7, v9, o_me) = some y → Wd dC dI A s.heap [wX9 h_me q_me k_me o_me] H locs → lv_has ls 11 [(0, .ref h_me), (1, .int v1), (7, .long v7), (9, .int v9)] → W p l e ({ frames := 4, cells := 0, slots := 0, locals := 93 } : Room) s m ([.ref h_me, .int p0, .int p1, .int p2, .int p3, .long p4] : List Value).toArray below meth c H locs 0 0 Qz (F0 m 159 ls [])), ∀ (v1 : Int32) (v7 : Int64) (v9 : Int32) (o_me : Ob) (H : Heap) (locs : List Loc) (ls : Array Slot), bk_X9_tells_224  rec_159_0 v1 v7 v9 o_me = some y → Wd dC dI A s.heap [wX9 h_me q_me k_me o_me] H locs → lv_has ls 11 [(0, .ref h_me), (1, .int v1), (7, .long v7), (9, .int v9)] → W p l e ({ frames := 4, cells := 0, slots := 0, locals := 93 } : Room) s m ([.ref h_me, .int p0, .int p1, .int p2, .int p3, .long p4] : List Value).toArray below meth c H locs 0 0 Qz (F0 m 224 ls []) := by
    intro rec_159_0 hrec_159_0
    intro v1 v7 v9 o_me H locs ls h hw hl
    unfold bk_X9_tells_224 at h
    obtain ⟨x17, ex17, h⟩ := z_lt h
    refine lv_iinc (v := x17) (lv' := [(9, .int x17), (0, .ref h_me), (1, .int v1), (7, .long v7)]) hx hb dX9_tells_224 hl (k := 3) rfl ((congrArg (v9 + ·) (show Int32.ofInt 1 = (1 : Int32) from by decide)).trans ex17.symm) (by decide) rfl (fun ls hl => ?_)
    refine lv_goto (tgt := 159) hx hb dX9_tells_227 (by decide) ?_
    exact hrec_159_0 v1 v7 x17 o_me _ _ _ h hw (lv_sub hl [1, 2, 3, 0] rfl)
  have bk_222_2 : ∀ (rec_159_0 : Int32 × Int64 × Int32 × Ob → Option (Int64 × Ob)) (hrec_159_0 : ∀ (v1 : Int32) (v7 : Int64) (v9 : Int32) (o_me : Ob) (H : Heap) (locs : List Loc) (ls : Array Slot), rec_159_0 (v1, v7, v9, o_me) = some y → Wd dC dI A s.heap [wX9 h_me q_me k_me o_me] H locs → lv_has ls 11 [(0, .ref h_me), (1, .int v1), (7, .long v7), (9, .int v9)] → W p l e ({ frames := 4, cells := 0, slots := 0, locals := 93 } : Room) s m ([.ref h_me, .int p0, .int p1, .int p2, .int p3, .long p4] : List Value).toArray below meth c H locs 0 0 Qz (F0 m 159 ls [])), ∀ (v1 : Int32) (v9 : Int32) (s0 : Int64) (o_me : Ob) (H : Heap) (locs : List Loc) (ls : Array Slot), bk_X9_tells_222  rec_159_0 v1 v9 s0 o_me = some y → Wd dC dI A s.heap [wX9 h_me q_me k_me o_me] H locs → lv_has ls 11 [(0, .ref h_me), (1, .int v1), (9, .int v9)] → W p l e ({ frames := 4, cells := 0, slots := 0, locals := 93 } : Room) s m ([.ref h_me, .int p0, .int p1, .int p2, .int p3, .long p4] : List Value).toArray below meth c H locs 0 0 Qz (F0 m 222 ls [.long s0]) := by
    intro rec_159_0 hrec_159_0
    intro v1 v9 s0 o_me H locs ls h hw hl
    unfold bk_X9_tells_222 at h
    refine lv_lstore (lv' := [(7, .long s0), (0, .ref h_me), (1, .int v1), (9, .int v9)]) hx hb dX9_tells_222 hl (by decide) rfl (fun ls hl => ?_)
    exact bk_224_1 rec_159_0 hrec_159_0 v1 s0 v9 o_me _ _ _ h hw (lv_sub hl [1, 2, 0, 3] rfl)
  have lp_159_0 : ∀ (N : Nat), ∀ (v1 : Int32) (v7 : Int64) (v9 : Int32) (o_me : Ob) (H : Heap) (locs : List Loc) (ls : Array Slot), lp_X9_tells_159   N (v1, v7, v9, o_me) = some y → Wd dC dI A s.heap [wX9 h_me q_me k_me o_me] H locs → lv_has ls 11 [(0, .ref h_me), (1, .int v1), (7, .long v7), (9, .int v9)] → W p l e ({ frames := 4, cells := 0, slots := 0, locals := 93 } : Room) s m ([.ref h_me, .int p0, .int p1, .int p2, .int p3, .long p4] : List Value).toArray below meth c H locs 0 0 Qz (F0 m 159 ls []) := by
    intro N
    induction N with
    | zero =>
      intro v1 v7 v9 o_me H locs ls h hw hl
      exact absurd (show (none : Option (Int64 × Ob)) = some y from h) (by simp)
    | succ N ih =>
      intro v1 v7 v9 o_me H locs ls h hw hl
      have h : lb_X9_tells_159   (lp_X9_tells_159   N) v1 v7 v9 o_me = some y := h
      unfold lb_X9_tells_159 at h
      refine lv_iload hx hb dX9_tells_159 (lv_at hl 3 rfl) ?_
      refine lv_aload_n hx hb dX9_tells_161 rfl (lv_at hl 0 rfl) ?_
      refine fgX9_3 hx hb hts hown hK hw 0 rfl kw1179 dX9_tells_162 ?_
      refine lv_aload_n hx hb dX9_tells_165 rfl (lv_at hl 0 rfl) ?_
      refine fgX9_34 hx hb hts hown hK hw 0 rfl kw1210 dX9_tells_166 ?_
      refine lv_iconst (v := 1) hx hb dX9_tells_169 (by decide) ?_
      refine lv_iadd hx hb dX9_tells_170 ?_
      obtain ⟨g14, h⟩ := z_gd h
      refine faX9_3 hx hb hK hw 0 rfl rfl g14 dX9_tells_171 ?_
      refine lv_icmp_ge (tgt := 230) hx hb dX9_tells_172 (by decide) (fun c => ?_) (fun c => ?_)
      · have h := z_t h c
        refine lv_lload hx hb dX9_tells_230 (lv_at hl 2 rfl) ?_
        have hy := Option.some.inj h
        rw [← hQz, ← hy]
        exact xr_l (v := v7) hx hb hr hlk hK hw dX9_tells_232
      · have h := z_f h c
        refine lv_aload_n hx hb dX9_tells_175 rfl (lv_at hl 0 rfl) ?_
        refine fgX9_34 hx hb hts hown hK hw 0 rfl kw1210 dX9_tells_176 ?_
        refine lv_iconst (v := 2) hx hb dX9_tells_179 (by decide) ?_
        refine lv_iadd hx hb dX9_tells_180 ?_
        refine lv_bipush (v := 8) hx hb dX9_tells_181 (by decide) ?_
        refine lv_iload hx hb dX9_tells_183 (lv_at hl 3 rfl) ?_
        refine lv_imul hx hb dX9_tells_185 ?_
        refine lv_iadd hx hb dX9_tells_186 ?_
        obtain ⟨x15, ex15, h⟩ := z_lt h
        refine lv_fi (v := x15) ex15.symm ?_
        refine lv_istore (lv' := [(10, .int x15), (0, .ref h_me), (1, .int v1), (7, .long v7), (9, .int v9)]) hx hb dX9_tells_187 hl (by decide) rfl (fun ls hl => ?_)
        refine lv_aload_n hx hb dX9_tells_189 rfl (lv_at hl 1 rfl) ?_
        refine fgX9_3 hx hb hts hown hK hw 0 rfl kw1179 dX9_tells_190 ?_
        refine lv_iload hx hb dX9_tells_193 (lv_at hl 0 rfl) ?_
        obtain ⟨g16, h⟩ := z_gd h
        refine faX9_3 hx hb hK hw 0 rfl rfl g16 dX9_tells_195 ?_
        refine lv_iload_n hx hb dX9_tells_196 rfl (lv_at hl 2 rfl) ?_
        refine lv_icmp_ne (tgt := 224) hx hb dX9_tells_197 (by decide) (fun c => ?_) (fun c => ?_)
        · have h := z_f h c
          exact bk_224_1 (lp_X9_tells_159   N) ih v1 v7 v9 o_me _ _ _ h hw (lv_sub hl [1, 2, 3, 4] rfl)
        · have h := z_t h c
          refine lv_aload_n hx hb dX9_tells_200 rfl (lv_at hl 1 rfl) ?_
          refine lv_iload hx hb dX9_tells_201 (lv_at hl 0 rfl) ?_
          obtain ⟨z18, ez18, h⟩ := z_bd h
          refine xj_i (xrV (As := [.int x15]) (rest := []) ⟨hx, hb, hml, hown, hts⟩ (m_X9_isSo l dC dI _ h_me q_me k_me o_me x15 z18 ez18) kw1419 kw1416 kw1418 kw45 kw120 hd_X9_isSo ⟨rfl, rfl⟩ rfl rfl ⟨rfl, rfl⟩ hX hK hw [0] (by decide) rfl rfl rfl rfl rfl hl.1 rfl rfl dX9_tells_203) hw hA [0] (by decide) rfl rfl (fun H locs hw => ?_)
          have hw : Wd dC dI A s.heap [wX9 h_me q_me k_me z18.2] H locs := hw
          refine lv_if_eq (tgt := 224) hx hb dX9_tells_206 (by decide) (fun c => ?_) (fun c => ?_)
          · have h := z_t h c
            exact bk_224_1 (lp_X9_tells_159   N) ih v1 v7 v9 z18.2 _ _ _ h hw (lv_sub hl [1, 2, 3, 4] rfl)
          · have h := z_f h c
            refine lv_iload_n hx hb dX9_tells_209 rfl (lv_at hl 2 rfl) ?_
            refine lv_iconst (v := 3) hx hb dX9_tells_210 (by decide) ?_
            refine lv_icmp_ne (tgt := 218) hx hb dX9_tells_211 (by decide) (fun c => ?_) (fun c => ?_)
            · have h := z_f h c
              refine lv_aload_n hx hb dX9_tells_218 rfl (lv_at hl 1 rfl) ?_
              refine fgX9_40 hx hb hts hown hK hw 0 rfl kw1216 dX9_tells_219 ?_
              exact bk_222_2 (lp_X9_tells_159   N) ih v1 v9 (gL z18.2 40) z18.2 _ _ _ h hw (lv_sub hl [1, 2, 4] rfl)
            · have h := z_t h c
              refine lv_lconst (v := 1) hx hb dX9_tells_214 (by decide) ?_
              refine lv_goto (tgt := 222) hx hb dX9_tells_215 (by decide) ?_
              exact bk_222_2 (lp_X9_tells_159   N) ih v1 v9 (1 : Int64) z18.2 _ _ _ h hw (lv_sub hl [1, 2, 4] rfl)
  unfold f_X9_tells at h
  refine lv_aload_n hx hb dX9_tells_0 rfl (lv_at hl 0 rfl) ?_
  refine fgX9_3 hx hb hts hown hK hw 0 rfl kw1179 dX9_tells_1 ?_
  refine lv_iconst (v := 3) hx hb dX9_tells_4 (by decide) ?_
  refine faX9_3 hx hb hK hw 0 rfl rfl (by decide) dX9_tells_5 ?_
  refine lv_iconst (v := (-1)) hx hb dX9_tells_6 (by decide) ?_
  refine lv_icmp_ne (tgt := 13) hx hb dX9_tells_7 (by decide) (fun c => ?_) (fun c => ?_)
  · have h := z_f h c
    refine lv_aload_n hx hb dX9_tells_13 rfl (lv_at hl 0 rfl) ?_
    refine lv_bipush (v := 84) hx hb dX9_tells_14 (by decide) ?_
    refine lv_sipush (v := 900) hx hb dX9_tells_16 (by decide) ?_
    refine lv_aload_n hx hb dX9_tells_19 rfl (lv_at hl 0 rfl) ?_
    refine fgX9_3 hx hb hts hown hK hw 0 rfl kw1179 dX9_tells_20 ?_
    refine lv_iconst (v := 3) hx hb dX9_tells_23 (by decide) ?_
    refine faX9_3 hx hb hK hw 0 rfl rfl (by decide) dX9_tells_24 ?_
    refine lv_imul hx hb dX9_tells_25 ?_
    refine lv_iadd hx hb dX9_tells_26 ?_
    refine fpX9_34 hx hb hts hown hK hw 0 rfl kw1210 dX9_tells_27 (fun H locs hw => ?_)
    obtain ⟨o1, eo1, h⟩ := z_lt h
    have hw : Wd dC dI A s.heap [wX9 h_me q_me k_me o1] H locs := by rw [eo1]; exact hw
    refine lv_aload_n hx hb dX9_tells_30 rfl (lv_at hl 0 rfl) ?_
    refine fgX9_35 hx hb hts hown hK hw 0 rfl kw1211 dX9_tells_31 ?_
    refine lv_iconst (v := 1) hx hb dX9_tells_34 (by decide) ?_
    refine lv_iload_n hx hb dX9_tells_35 rfl (lv_at hl 2 rfl) ?_
    refine lv_i2l hx hb dX9_tells_36 rfl ?_
    refine fbX9_35 hx hb hK hw 0 rfl rfl (by decide) dX9_tells_37 (fun H locs hw => ?_)
    obtain ⟨o2, eo2, h⟩ := z_lt h
    have hw : Wd dC dI A s.heap [wX9 h_me q_me k_me o2] H locs := by rw [eo2]; exact hw
    refine lv_aload_n hx hb dX9_tells_38 rfl (lv_at hl 0 rfl) ?_
    refine fgX9_35 hx hb hts hown hK hw 0 rfl kw1211 dX9_tells_39 ?_
    refine lv_iconst (v := 2) hx hb dX9_tells_42 (by decide) ?_
    refine lv_iload_n hx hb dX9_tells_43 rfl (lv_at hl 3 rfl) ?_
    refine lv_i2l hx hb dX9_tells_44 rfl ?_
    refine fbX9_35 hx hb hK hw 0 rfl rfl (by decide) dX9_tells_45 (fun H locs hw => ?_)
    obtain ⟨o3, eo3, h⟩ := z_lt h
    have hw : Wd dC dI A s.heap [wX9 h_me q_me k_me o3] H locs := by rw [eo3]; exact hw
    refine lv_aload_n hx hb dX9_tells_46 rfl (lv_at hl 0 rfl) ?_
    refine fgX9_35 hx hb hts hown hK hw 0 rfl kw1211 dX9_tells_47 ?_
    refine lv_iconst (v := 3) hx hb dX9_tells_50 (by decide) ?_
    refine lv_aload_n hx hb dX9_tells_51 rfl (lv_at hl 0 rfl) ?_
    refine fgX9_3 hx hb hts hown hK hw 0 rfl kw1179 dX9_tells_52 ?_
    refine lv_bipush (v := 36) hx hb dX9_tells_55 (by decide) ?_
    refine lv_iconst (v := 4) hx hb dX9_tells_57 (by decide) ?_
    refine lv_iload_n hx hb dX9_tells_58 rfl (lv_at hl 2 rfl) ?_
    refine lv_imul hx hb dX9_tells_59 ?_
    refine lv_iadd hx hb dX9_tells_60 ?_
    refine lv_iload_n hx hb dX9_tells_61 rfl (lv_at hl 3 rfl) ?_
    refine lv_iadd hx hb dX9_tells_62 ?_
    obtain ⟨g4, h⟩ := z_gd h
    refine faX9_3 hx hb hK hw 0 rfl rfl g4 dX9_tells_63 ?_
    refine lv_i2l hx hb dX9_tells_64 rfl ?_
    refine fbX9_35 hx hb hK hw 0 rfl rfl (by decide) dX9_tells_65 (fun H locs hw => ?_)
    obtain ⟨o5, eo5, h⟩ := z_lt h
    have hw : Wd dC dI A s.heap [wX9 h_me q_me k_me o5] H locs := by rw [eo5]; exact hw
    refine lv_aload_n hx hb dX9_tells_66 rfl (lv_at hl 0 rfl) ?_
    refine fgX9_35 hx hb hts hown hK hw 0 rfl kw1211 dX9_tells_67 ?_
    refine lv_iconst (v := 4) hx hb dX9_tells_70 (by decide) ?_
    refine lv_aload_n hx hb dX9_tells_71 rfl (lv_at hl 0 rfl) ?_
    refine fgX9_3 hx hb hts hown hK hw 0 rfl kw1179 dX9_tells_72 ?_
    refine lv_bipush (v := 8) hx hb dX9_tells_75 (by decide) ?_
    refine lv_iload_n hx hb dX9_tells_77 rfl (lv_at hl 2 rfl) ?_
    refine lv_iadd hx hb dX9_tells_78 ?_
    obtain ⟨g6, h⟩ := z_gd h
    refine faX9_3 hx hb hK hw 0 rfl rfl g6 dX9_tells_79 ?_
    refine lv_i2l hx hb dX9_tells_80 rfl ?_
    refine fbX9_35 hx hb hK hw 0 rfl rfl (by decide) dX9_tells_81 (fun H locs hw => ?_)
    obtain ⟨o7, eo7, h⟩ := z_lt h
    have hw : Wd dC dI A s.heap [wX9 h_me q_me k_me o7] H locs := by rw [eo7]; exact hw
    refine lv_aload_n hx hb dX9_tells_82 rfl (lv_at hl 0 rfl) ?_
    refine fgX9_35 hx hb hts hown hK hw 0 rfl kw1211 dX9_tells_83 ?_
    refine lv_iconst (v := 5) hx hb dX9_tells_86 (by decide) ?_
    refine lv_aload_n hx hb dX9_tells_87 rfl (lv_at hl 0 rfl) ?_
    refine fgX9_3 hx hb hts hown hK hw 0 rfl kw1179 dX9_tells_88 ?_
    refine lv_bipush (v := 15) hx hb dX9_tells_91 (by decide) ?_
    refine lv_iload_n hx hb dX9_tells_93 rfl (lv_at hl 2 rfl) ?_
    refine lv_iadd hx hb dX9_tells_94 ?_
    obtain ⟨g8, h⟩ := z_gd h
    refine faX9_3 hx hb hK hw 0 rfl rfl g8 dX9_tells_95 ?_
    refine lv_i2l hx hb dX9_tells_96 rfl ?_
    refine fbX9_35 hx hb hK hw 0 rfl rfl (by decide) dX9_tells_97 (fun H locs hw => ?_)
    obtain ⟨o9, eo9, h⟩ := z_lt h
    have hw : Wd dC dI A s.heap [wX9 h_me q_me k_me o9] H locs := by rw [eo9]; exact hw
    refine lv_aload_n hx hb dX9_tells_98 rfl (lv_at hl 0 rfl) ?_
    refine fgX9_35 hx hb hts hown hK hw 0 rfl kw1211 dX9_tells_99 ?_
    refine lv_bipush (v := 6) hx hb dX9_tells_102 (by decide) ?_
    refine lv_iload hx hb dX9_tells_104 (lv_at hl 4 rfl) ?_
    refine lv_i2l hx hb dX9_tells_106 rfl ?_
    refine fbX9_35 hx hb hK hw 0 rfl rfl (by decide) dX9_tells_107 (fun H locs hw => ?_)
    obtain ⟨o10, eo10, h⟩ := z_lt h
    have hw : Wd dC dI A s.heap [wX9 h_me q_me k_me o10] H locs := by rw [eo10]; exact hw
    refine lv_aload_n hx hb dX9_tells_108 rfl (lv_at hl 0 rfl) ?_
    refine fgX9_35 hx hb hts hown hK hw 0 rfl kw1211 dX9_tells_109 ?_
    refine lv_bipush (v := 7) hx hb dX9_tells_112 (by decide) ?_
    refine lv_aload_n hx hb dX9_tells_114 rfl (lv_at hl 0 rfl) ?_
    refine fgX9_3 hx hb hts hown hK hw 0 rfl kw1179 dX9_tells_115 ?_
    refine lv_bipush (v := 7) hx hb dX9_tells_118 (by decide) ?_
    refine faX9_3 hx hb hK hw 0 rfl rfl (by decide) dX9_tells_120 ?_
    refine lv_i2l hx hb dX9_tells_121 rfl ?_
    refine fbX9_35 hx hb hK hw 0 rfl rfl (by decide) dX9_tells_122 (fun H locs hw => ?_)
    obtain ⟨o11, eo11, h⟩ := z_lt h
    have hw : Wd dC dI A s.heap [wX9 h_me q_me k_me o11] H locs := by rw [eo11]; exact hw
    refine lv_aload_n hx hb dX9_tells_123 rfl (lv_at hl 0 rfl) ?_
    refine fgX9_35 hx hb hts hown hK hw 0 rfl kw1211 dX9_tells_124 ?_
    refine lv_bipush (v := 8) hx hb dX9_tells_127 (by decide) ?_
    refine lv_aload_n hx hb dX9_tells_129 rfl (lv_at hl 0 rfl) ?_
    refine fgX9_3 hx hb hts hown hK hw 0 rfl kw1179 dX9_tells_130 ?_
    refine lv_iconst (v := 4) hx hb dX9_tells_133 (by decide) ?_
    refine faX9_3 hx hb hK hw 0 rfl rfl (by decide) dX9_tells_134 ?_
    refine lv_i2l hx hb dX9_tells_135 rfl ?_
    refine fbX9_35 hx hb hK hw 0 rfl rfl (by decide) dX9_tells_136 (fun H locs hw => ?_)
    obtain ⟨o12, eo12, h⟩ := z_lt h
    have hw : Wd dC dI A s.heap [wX9 h_me q_me k_me o12] H locs := by rw [eo12]; exact hw
    refine lv_aload_n hx hb dX9_tells_137 rfl (lv_at hl 0 rfl) ?_
    refine fgX9_35 hx hb hts hown hK hw 0 rfl kw1211 dX9_tells_138 ?_
    refine lv_bipush (v := 9) hx hb dX9_tells_141 (by decide) ?_
    refine lv_aload_n hx hb dX9_tells_143 rfl (lv_at hl 0 rfl) ?_
    refine fgX9_3 hx hb hts hown hK hw 0 rfl kw1179 dX9_tells_144 ?_
    refine lv_bipush (v := 6) hx hb dX9_tells_147 (by decide) ?_
    refine faX9_3 hx hb hK hw 0 rfl rfl (by decide) dX9_tells_149 ?_
    refine lv_i2l hx hb dX9_tells_150 rfl ?_
    refine fbX9_35 hx hb hK hw 0 rfl rfl (by decide) dX9_tells_151 (fun H locs hw => ?_)
    obtain ⟨o13, eo13, h⟩ := z_lt h
    have hw : Wd dC dI A s.heap [wX9 h_me q_me k_me o13] H locs := by rw [eo13]; exact hw
    refine lv_lload hx hb dX9_tells_152 (lv_at hl 5 rfl) ?_
    refine lv_lstore (lv' := [(7, .long p4), (0, .ref h_me), (1, .int p0), (2, .int p1), (3, .int p2), (4, .int p3), (5, .long p4)]) hx hb dX9_tells_154 hl (by decide) rfl (fun ls hl => ?_)
    refine lv_iconst (v := 0) hx hb dX9_tells_156 (by decide) ?_
    refine lv_istore (lv' := [(9, .int (0 : Int32)), (7, .long p4), (0, .ref h_me), (1, .int p0), (2, .int p1), (3, .int p2), (4, .int p3), (5, .long p4)]) hx hb dX9_tells_157 hl (by decide) rfl (fun ls hl => ?_)
    exact lp_159_0  zfu p0 p4 (0 : Int32) o13 _ _ _ h hw (lv_sub hl [2, 3, 1, 0] rfl)
  · have h := z_t h c
    refine lv_lload hx hb dX9_tells_10 (lv_at hl 5 rfl) ?_
    have hy := Option.some.inj h
    rw [← hQz, ← hy]
    exact xr_l (v := p4) hx hb hr hlk hK hw dX9_tells_12

def f_X9_isBarred (o_me : Ob) (p0 : Int32) (p1 : Int32) : Option (Int32 × Ob) :=
  (f_X9_tells o_me (3 : Int32) p0 p1 (-1 : Int32) (0 : Int64)).bind fun z1 =>
  if (lg_cmp z1.1 (1 : Int64)) = (0 : Int32) then
  (some ((1 : Int32), z1.2))
  else
  (some ((0 : Int32), z1.2))
set_option maxHeartbeats 4000000 in
set_option maxRecDepth 100000 in
theorem m_X9_isBarred (l : Launch) (dC : Nat → ClassId) (dI : Nat → Nat → Nat) (sz : Nat) (h_me : Nat) (q_me : Nat → Nat) (k_me : Nat → ClassId) (o_me : Ob) (p0 : Int32) (p1 : Int32) (y : Int32 × Ob) (h : f_X9_isBarred o_me p0 p1 = some y) : CI l yX9_isBarred cX9_isBarred 3 (some .boolean) ({ frames := 5, cells := 0, slots := 0, locals := 123 } : Room) dC dI sz [.ref h_me, .int p0, .int p1] [wX9 h_me q_me k_me o_me] [tX9 k_me] y.1 [wX9 h_me q_me k_me y.2] := by
  refine CC_of (by decide) (Nat.le_of_ble_eq_true rfl) ?_
  intro p e s m below meth c A ls hx hb hml hr hlk hnm hown hts hX hK hP hD hA hl
  have hl : lv_has ls 3 [(0, .ref h_me), (1, .int p0), (2, .int p1)] := hl
  have hown : s.vm.findClass RX9 = some m.cls := hown
  have hw : Wd dC dI A s.heap [wX9 h_me q_me k_me o_me] s.heap [] := ⟨hP, hD, va_S.rf⟩
  generalize hQz : (MQ below (QI dC dI (fun r (_ : Unit) => r = y.1) (fun _ => Jn [wX9 h_me q_me k_me y.2]) (fun _ => Jt [tX9 k_me]) A) ([.ref h_me, .int p0, .int p1] : List Value).toArray s 0 0 A) = Qz
  clear hP hD hnm
  unfold f_X9_isBarred at h
  refine lv_aload_n hx hb dX9_isBarred_0 rfl (lv_at hl 0 rfl) ?_
  refine lv_iconst (v := 3) hx hb dX9_isBarred_1 (by decide) ?_
  refine lv_iload_n hx hb dX9_isBarred_2 rfl (lv_at hl 1 rfl) ?_
  refine lv_iload_n hx hb dX9_isBarred_3 rfl (lv_at hl 2 rfl) ?_
  refine lv_iconst (v := (-1)) hx hb dX9_isBarred_4 (by decide) ?_
  refine lv_lconst (v := 0) hx hb dX9_isBarred_5 (by decide) ?_
  obtain ⟨z1, ez1, h⟩ := z_bd h
  refine xj_l (xrV (As := [.int (3 : Int32), .int p0, .int p1, .int (-1 : Int32), .long (0 : Int64)]) (rest := []) ⟨hx, hb, hml, hown, hts⟩ (m_X9_tells l dC dI _ h_me q_me k_me o_me (3 : Int32) p0 p1 (-1 : Int32) (0 : Int64) z1 ez1) kw1415 kw1412 kw1414 kw44 kw120 hd_X9_tells ⟨rfl, rfl⟩ rfl rfl ⟨rfl, rfl⟩ hX hK hw [0] (by decide) rfl rfl rfl rfl rfl hl.1 rfl rfl dX9_isBarred_6) hw hA [0] (by decide) rfl rfl (fun H locs hw => ?_)
  have hw : Wd dC dI A s.heap [wX9 h_me q_me k_me z1.2] H locs := hw
  refine lv_lconst (v := 1) hx hb dX9_isBarred_9 (by decide) ?_
  refine W.lcmp hx hb dX9_isBarred_10 ?_
  refine lv_if_ne (tgt := 18) hx hb dX9_isBarred_11 (by decide) (fun c => ?_) (fun c => ?_)
  · have h := z_f h c
    refine lv_iconst (v := 0) hx hb dX9_isBarred_18 (by decide) ?_
    have hy := Option.some.inj h
    rw [← hQz, ← hy]
    exact xr_i (v := (0 : Int32)) hx hb hr rfl hlk hK hw dX9_isBarred_19
  · have h := z_t h c
    refine lv_iconst (v := 1) hx hb dX9_isBarred_14 (by decide) ?_
    refine lv_goto (tgt := 19) hx hb dX9_isBarred_15 (by decide) ?_
    have hy := Option.some.inj h
    rw [← hQz, ← hy]
    exact xr_i (v := (1 : Int32)) hx hb hr rfl hlk hK hw dX9_isBarred_19

def f_X9_within (p0 : Int64) (p1 : Int32) (p2 : Int32) : Option (Int32) :=
  if (0 : Int32) ≤ (lg_cmp p0 p1.toInt64) then
  (if (lg_cmp p0 p2.toInt64) ≤ (0 : Int32) then
  (some p0.toInt32)
  else
  (some p2))
  else
  (some p1)
set_option maxHeartbeats 4000000 in
set_option maxRecDepth 100000 in
theorem m_X9_within (l : Launch) (dC : Nat → ClassId) (dI : Nat → Nat → Nat) (sz : Nat)  (p0 : Int64) (p1 : Int32) (p2 : Int32) (y : Int32) (h : f_X9_within p0 p1 p2 = some y) : CI l yX9_within cX9_within 4 (some .int) ({ frames := 0, cells := 0, slots := 0, locals := 0 } : Room) dC dI sz [.long p0, .int p1, .int p2] [] [] y [] := by
  refine CC_of (by decide) (Nat.le_of_ble_eq_true rfl) ?_
  intro p e s m below meth c A ls hx hb hml hr hlk hnm hown hts hX hK hP hD hA hl
  have hl : lv_has ls 4 [(0, .long p0), (2, .int p1), (3, .int p2)] := hl
  have hown : s.vm.findClass RX9 = some m.cls := hown
  have hw : Wd dC dI A s.heap [] s.heap [] := ⟨hP, hD, va_S.rf⟩
  generalize hQz : (MQ below (QI dC dI (fun r (_ : Unit) => r = y) (fun _ => Jn []) (fun _ => Jt []) A) ([.long p0, .int p1, .int p2] : List Value).toArray s 0 0 A) = Qz
  clear hP hD hnm
  unfold f_X9_within at h
  refine lv_lload_n hx hb dX9_within_0 rfl (lv_at hl 0 rfl) ?_
  refine lv_iload_n hx hb dX9_within_1 rfl (lv_at hl 1 rfl) ?_
  refine lv_i2l hx hb dX9_within_2 rfl ?_
  refine W.lcmp hx hb dX9_within_3 ?_
  refine lv_if_ge (tgt := 11) hx hb dX9_within_4 (by decide) (fun c => ?_) (fun c => ?_)
  · have h := z_t h c
    refine lv_lload_n hx hb dX9_within_11 rfl (lv_at hl 0 rfl) ?_
    refine lv_iload_n hx hb dX9_within_12 rfl (lv_at hl 2 rfl) ?_
    refine lv_i2l hx hb dX9_within_13 rfl ?_
    refine W.lcmp hx hb dX9_within_14 ?_
    refine lv_if_le (tgt := 22) hx hb dX9_within_15 (by decide) (fun c => ?_) (fun c => ?_)
    · have h := z_t h c
      refine lv_lload_n hx hb dX9_within_22 rfl (lv_at hl 0 rfl) ?_
      refine lv_l2i hx hb dX9_within_23 rfl ?_
      have hy := Option.some.inj h
      rw [← hQz, ← hy]
      exact xr_i (v := p0.toInt32) hx hb hr rfl hlk hK hw dX9_within_24
    · have h := z_f h c
      refine lv_iload_n hx hb dX9_within_18 rfl (lv_at hl 2 rfl) ?_
      refine lv_goto (tgt := 24) hx hb dX9_within_19 (by decide) ?_
      have hy := Option.some.inj h
      rw [← hQz, ← hy]
      exact xr_i (v := p2) hx hb hr rfl hlk hK hw dX9_within_24
  · have h := z_f h c
    refine lv_iload_n hx hb dX9_within_7 rfl (lv_at hl 1 rfl) ?_
    refine lv_goto (tgt := 24) hx hb dX9_within_8 (by decide) ?_
    have hy := Option.some.inj h
    rw [← hQz, ← hy]
    exact xr_i (v := p1) hx hb hr rfl hlk hK hw dX9_within_24

def f_X9_runsOf (o_me : Ob) (p0 : Int32) (p1 : Int32) : Option (Int32 × Ob) :=
  zgd (zin (((36 : Int32) + ((4 : Int32) * p0)) + p1) 5484) <|
  (f_X9_tells o_me (0 : Int32) p0 p1 (-1 : Int32) ((gA o_me 3 (((36 : Int32) + ((4 : Int32) * p0)) + p1).toNatClampNeg).toInt64)).bind fun z2 =>
  (f_X9_within z2.1 (0 : Int32) (99 : Int32)).bind fun z3 =>
  some (z3, z2.2)
set_option maxHeartbeats 4000000 in
set_option maxRecDepth 100000 in
theorem m_X9_runsOf (l : Launch) (dC : Nat → ClassId) (dI : Nat → Nat → Nat) (sz : Nat) (h_me : Nat) (q_me : Nat → Nat) (k_me : Nat → ClassId) (o_me : Ob) (p0 : Int32) (p1 : Int32) (y : Int32 × Ob) (h : f_X9_runsOf o_me p0 p1 = some y) : CI l yX9_runsOf cX9_runsOf 3 (some .int) ({ frames := 5, cells := 0, slots := 0, locals := 123 } : Room) dC dI sz [.ref h_me, .int p0, .int p1] [wX9 h_me q_me k_me o_me] [tX9 k_me] y.1 [wX9 h_me q_me k_me y.2] := by
  refine CC_of (by decide) (Nat.le_of_ble_eq_true rfl) ?_
  intro p e s m below meth c A ls hx hb hml hr hlk hnm hown hts hX hK hP hD hA hl
  have hl : lv_has ls 3 [(0, .ref h_me), (1, .int p0), (2, .int p1)] := hl
  have hown : s.vm.findClass RX9 = some m.cls := hown
  have hw : Wd dC dI A s.heap [wX9 h_me q_me k_me o_me] s.heap [] := ⟨hP, hD, va_S.rf⟩
  generalize hQz : (MQ below (QI dC dI (fun r (_ : Unit) => r = y.1) (fun _ => Jn [wX9 h_me q_me k_me y.2]) (fun _ => Jt [tX9 k_me]) A) ([.ref h_me, .int p0, .int p1] : List Value).toArray s 0 0 A) = Qz
  clear hP hD hnm
  unfold f_X9_runsOf at h
  refine lv_aload_n hx hb dX9_runsOf_0 rfl (lv_at hl 0 rfl) ?_
  refine lv_iconst (v := 0) hx hb dX9_runsOf_1 (by decide) ?_
  refine lv_iload_n hx hb dX9_runsOf_2 rfl (lv_at hl 1 rfl) ?_
  refine lv_iload_n hx hb dX9_runsOf_3 rfl (lv_at hl 2 rfl) ?_
  refine lv_iconst (v := (-1)) hx hb dX9_runsOf_4 (by decide) ?_
  refine lv_aload_n hx hb dX9_runsOf_5 rfl (lv_at hl 0 rfl) ?_
  refine fgX9_3 hx hb hts hown hK hw 0 rfl kw1179 dX9_runsOf_6 ?_
  refine lv_bipush (v := 36) hx hb dX9_runsOf_9 (by decide) ?_
  refine lv_iconst (v := 4) hx hb dX9_runsOf_11 (by decide) ?_
  refine lv_iload_n hx hb dX9_runsOf_12 rfl (lv_at hl 1 rfl) ?_
  refine lv_imul hx hb dX9_runsOf_13 ?_
  refine lv_iadd hx hb dX9_runsOf_14 ?_
  refine lv_iload_n hx hb dX9_runsOf_15 rfl (lv_at hl 2 rfl) ?_
  refine lv_iadd hx hb dX9_runsOf_16 ?_
  obtain ⟨g1, h⟩ := z_gd h
  refine faX9_3 hx hb hK hw 0 rfl rfl g1 dX9_runsOf_17 ?_
  refine lv_i2l hx hb dX9_runsOf_18 rfl ?_
  obtain ⟨z2, ez2, h⟩ := z_bd h
  refine xj_l (xrV (As := [.int (0 : Int32), .int p0, .int p1, .int (-1 : Int32), .long ((gA o_me 3 (((36 : Int32) + ((4 : Int32) * p0)) + p1).toNatClampNeg).toInt64)]) (rest := []) ⟨hx, hb, hml, hown, hts⟩ (m_X9_tells l dC dI _ h_me q_me k_me o_me (0 : Int32) p0 p1 (-1 : Int32) ((gA o_me 3 (((36 : Int32) + ((4 : Int32) * p0)) + p1).toNatClampNeg).toInt64) z2 ez2) kw1415 kw1412 kw1414 kw44 kw120 hd_X9_tells ⟨rfl, rfl⟩ rfl rfl ⟨rfl, rfl⟩ hX hK hw [0] (by decide) rfl rfl rfl rfl rfl hl.1 rfl rfl dX9_runsOf_19) hw hA [0] (by decide) rfl rfl (fun H locs hw => ?_)
  have hw : Wd dC dI A s.heap [wX9 h_me q_me k_me z2.2] H locs := hw
  refine lv_iconst (v := 0) hx hb dX9_runsOf_22 (by decide) ?_
  refine lv_bipush (v := 99) hx hb dX9_runsOf_23 (by decide) ?_
  obtain ⟨z3, ez3, h⟩ := z_bd h
  refine xj_i (xrS (As := [.long z2.1, .int (0 : Int32), .int (99 : Int32)]) (rest := []) ⟨hx, hb, hml, hown, hts⟩ (m_X9_within l dC dI _  z2.1 (0 : Int32) (99 : Int32) z3 ez3) kw1433 kw1431 kw1432 kw120 hd_X9_within ⟨rfl, rfl⟩ rfl rfl ⟨rfl, rfl⟩ hX hK hw [] (by decide) rfl rfl hl.1 rfl rfl dX9_runsOf_25) hw hA [] (by decide) rfl rfl (fun H locs hw => ?_)
  have hy := Option.some.inj h
  rw [← hQz, ← hy]
  exact xr_i (v := z3) hx hb hr rfl hlk hK hw dX9_runsOf_28

def bk_X9_layPlaces_119  (rec_7_0 : Int32 × Int32 × Ob → Option (Ob)) (v1 : Int32) (v2 : Int32) (o_me : Ob) : Option (Ob) :=
  zlt (v2 + (1 : Int32)) fun x3 =>
  rec_7_0 (v1, x3, o_me)
def bk_X9_layPlaces_102  (rec_7_0 : Int32 × Int32 × Ob → Option (Ob)) (v1 : Int32) (v2 : Int32) (v3 : Int32) (o_me : Ob) : Option (Ob) :=
  zgd (zin v3 7) <|
  zlt (tA o_me 42 v3.toNatClampNeg v2) fun o10 =>
  zlt (sI o10 43 ((gI o10 43) + (1 : Int32))) fun o11 =>
  bk_X9_layPlaces_119  rec_7_0 v1 v2 o11
def lb_X9_layPlaces_56  (rec_7_0 : Int32 × Int32 × Ob → Option (Ob)) (rec_56_2 : Int32 × Int32 × Int32 × Ob → Option (Ob)) (v1 : Int32) (v2 : Int32) (v3 : Int32) (o_me : Ob) : Option (Ob) :=
  if v3 ≤ (0 : Int32) then
  (bk_X9_layPlaces_102  rec_7_0 v1 v2 v3 o_me)
  else
  (zgd (zin (v3 - (1 : Int32)) 7) <|
  zgd (zin (gA o_me 42 (v3 - (1 : Int32)).toNatClampNeg) 7) <|
  zgd (zin v2 7) <|
  if (gA o_me 41 v2.toNatClampNeg) ≤ (gA o_me 41 (gA o_me 42 (v3 - (1 : Int32)).toNatClampNeg).toNatClampNeg) then
  (bk_X9_layPlaces_102  rec_7_0 v1 v2 v3 o_me)
  else
  (zgd (zin (v3 - (1 : Int32)) 7) <|
  zgd (zin v3 7) <|
  zlt (tA o_me 42 v3.toNatClampNeg (gA o_me 42 (v3 - (1 : Int32)).toNatClampNeg)) fun o17 =>
  zlt (v3 + (-1 : Int32)) fun x18 =>
  rec_56_2 (v1, v2, x18, o17)))
def lp_X9_layPlaces_56  (rec_7_0 : Int32 × Int32 × Ob → Option (Ob)) : Nat → (Int32 × Int32 × Int32 × Ob) → Option (Ob) := zit (fun rec a => lb_X9_layPlaces_56  rec_7_0 rec a.1 a.2.1 a.2.2.1 a.2.2.2)
def lb_X9_layPlaces_7   (rec_7_0 : Int32 × Int32 × Ob → Option (Ob)) (v1 : Int32) (v2 : Int32) (o_me : Ob) : Option (Ob) :=
  if (gA o_me 3 (0 : Int32).toNatClampNeg) ≤ v2 then
  (some o_me)
  else
  (zgd (zin ((22 : Int32) + v2) 5484) <|
  if (gA o_me 3 ((22 : Int32) + v2).toNatClampNeg) = (1 : Int32) then
  ((f_X9_isBarred o_me v2 v1).bind fun z4 =>
  if z4.1 = (0 : Int32) then
  ((f_X9_runsOf z4.2 v2 v1).bind fun z5 =>
  zgd (zin v2 7) <|
  zlt (tA z5.2 41 v2.toNatClampNeg z5.1) fun o7 =>
  zlt (gI o7 43) fun x8 =>
  lp_X9_layPlaces_56  rec_7_0 zfu (v1, v2, x8, o7))
  else
  (bk_X9_layPlaces_119  rec_7_0 v1 v2 z4.2))
  else
  (bk_X9_layPlaces_119  rec_7_0 v1 v2 o_me))
def lp_X9_layPlaces_7   : Nat → (Int32 × Int32 × Ob) → Option (Ob) := zit (fun rec a => lb_X9_layPlaces_7   rec a.1 a.2.1 a.2.2)
def f_X9_layPlaces (o_me : Ob) (p0 : Int32) : Option (Ob) :=
  zlt (sI o_me 43 (0 : Int32)) fun o1 =>
  lp_X9_layPlaces_7   zfu (p0, (0 : Int32), o1)
set_option maxHeartbeats 4000000 in
set_option maxRecDepth 100000 in
theorem m_X9_layPlaces (l : Launch) (dC : Nat → ClassId) (dI : Nat → Nat → Nat) (sz : Nat) (h_me : Nat) (q_me : Nat → Nat) (k_me : Nat → ClassId) (o_me : Ob) (p0 : Int32) (y : Ob) (h : f_X9_layPlaces o_me p0 = some y) : CV l yX9_layPlaces cX9_layPlaces 4 none ({ frames := 6, cells := 0, slots := 0, locals := 145 } : Room) dC dI sz [.ref h_me, .int p0] [wX9 h_me q_me k_me o_me] [tX9 k_me] [wX9 h_me q_me k_me y] := by
  refine CC_of (by decide) (Nat.le_of_ble_eq_true rfl) ?_
  intro p e s m below meth c A ls hx hb hml hr hlk hnm hown hts hX hK hP hD hA hl
  have hl : lv_has ls 4 [(0, .ref h_me), (1, .int p0)] := hl
  have hown : s.vm.findClass RX9 = some m.cls := hown
  have hw : Wd dC dI A s.heap [wX9 h_me q_me k_me o_me] s.heap [] := ⟨hP, hD, va_S.rf⟩
  generalize hQz : (MQ below (QV dC dI (fun (_ : Unit) => True) (fun _ => Jn [wX9 h_me q_me k_me y]) (fun _ => Jt [tX9 k_me]) A) ([.ref h_me, .int p0] : List Value).toArray s 0 0 A) = Qz
  clear hP hD hnm
  have bk_119_1 : ∀ (rec_7_0 : Int32 × Int32 × Ob → Option (Ob)) (hrec_7_0 : ∀ (v1 : Int32) (v2 : Int32) (o_me : Ob) (H : Heap) (locs : List Loc) (ls : Array Slot), rec_7_0 (v1, v2, o_me) = some y → Wd dC dI A s.heap [wX9 h_me q_me k_me o_me] H locs → lv_has ls 4 [(0, .ref h_me), (1, .int v1), (2, .int v2)] → W p l e ({ frames := 6, cells := 0, slots := 0, locals := 145 } : Room) s m ([.ref h_me, .int p0] : List Value).toArray below meth c H locs 0 0 Qz (F0 m 7 ls [])), ∀ (v1 : Int32) (v2 : Int32) (o_me : Ob) (H : Heap) (locs : List Loc) (ls : Array Slot), bk_X9_layPlaces_119  rec_7_0 v1 v2 o_me = some y → Wd dC dI A s.heap [wX9 h_me q_me k_me o_me] H locs → lv_has ls 4 [(0, .ref h_me), (1, .int v1), (2, .int v2)] → W p l e ({ frames := 6, cells := 0, slots := 0, locals := 145 } : Room) s m ([.ref h_me, .int p0] : List Value).toArray below meth c H locs 0 0 Qz (F0 m 119 ls []) := by
    intro rec_7_0 hrec_7_0
    intro v1 v2 o_me H locs ls h hw hl
    unfold bk_X9_layPlaces_119 at h
    obtain ⟨x3, ex3, h⟩ := z_lt h
    refine lv_iinc (v := x3) (lv' := [(2, .int x3), (0, .ref h_me), (1, .int v1)]) hx hb dX9_layPlaces_119 hl (k := 2) rfl ((congrArg (v2 + ·) (show Int32.ofInt 1 = (1 : Int32) from by decide)).trans ex3.symm) (by decide) rfl (fun ls hl => ?_)
    refine lv_goto (tgt := 7) hx hb dX9_layPlaces_122 (by decide) ?_
    exact hrec_7_0 v1 x3 o_me _ _ _ h hw (lv_sub hl [1, 2, 0] rfl)
  have bk_102_3 : ∀ (rec_7_0 : Int32 × Int32 × Ob → Option (Ob)) (hrec_7_0 : ∀ (v1 : Int32) (v2 : Int32) (o_me : Ob) (H : Heap) (locs : List Loc) (ls : Array Slot), rec_7_0 (v1, v2, o_me) = some y → Wd dC dI A s.heap [wX9 h_me q_me k_me o_me] H locs → lv_has ls 4 [(0, .ref h_me), (1, .int v1), (2, .int v2)] → W p l e ({ frames := 6, cells := 0, slots := 0, locals := 145 } : Room) s m ([.ref h_me, .int p0] : List Value).toArray below meth c H locs 0 0 Qz (F0 m 7 ls [])), ∀ (v1 : Int32) (v2 : Int32) (v3 : Int32) (o_me : Ob) (H : Heap) (locs : List Loc) (ls : Array Slot), bk_X9_layPlaces_102  rec_7_0 v1 v2 v3 o_me = some y → Wd dC dI A s.heap [wX9 h_me q_me k_me o_me] H locs → lv_has ls 4 [(0, .ref h_me), (1, .int v1), (2, .int v2), (3, .int v3)] → W p l e ({ frames := 6, cells := 0, slots := 0, locals := 145 } : Room) s m ([.ref h_me, .int p0] : List Value).toArray below meth c H locs 0 0 Qz (F0 m 102 ls []) := by
    intro rec_7_0 hrec_7_0
    intro v1 v2 v3 o_me H locs ls h hw hl
    unfold bk_X9_layPlaces_102 at h
    refine lv_aload_n hx hb dX9_layPlaces_102 rfl (lv_at hl 0 rfl) ?_
    refine fgX9_42 hx hb hts hown hK hw 0 rfl kw1218 dX9_layPlaces_103 ?_
    refine lv_iload_n hx hb dX9_layPlaces_106 rfl (lv_at hl 3 rfl) ?_
    refine lv_iload_n hx hb dX9_layPlaces_107 rfl (lv_at hl 2 rfl) ?_
    obtain ⟨g9, h⟩ := z_gd h
    refine fbX9_42 hx hb hK hw 0 rfl rfl g9 dX9_layPlaces_108 (fun H locs hw => ?_)
    obtain ⟨o10, eo10, h⟩ := z_lt h
    have hw : Wd dC dI A s.heap [wX9 h_me q_me k_me o10] H locs := by rw [eo10]; exact hw
    refine lv_aload_n hx hb dX9_layPlaces_109 rfl (lv_at hl 0 rfl) ?_
    refine lv_dup hx hb dX9_layPlaces_110 rfl ?_
    refine fgX9_43 hx hb hts hown hK hw 0 rfl kw1219 dX9_layPlaces_111 ?_
    refine lv_iconst (v := 1) hx hb dX9_layPlaces_114 (by decide) ?_
    refine lv_iadd hx hb dX9_layPlaces_115 ?_
    refine fpX9_43 hx hb hts hown hK hw 0 rfl kw1219 dX9_layPlaces_116 (fun H locs hw => ?_)
    obtain ⟨o11, eo11, h⟩ := z_lt h
    have hw : Wd dC dI A s.heap [wX9 h_me q_me k_me o11] H locs := by rw [eo11]; exact hw
    exact bk_119_1 rec_7_0 hrec_7_0 v1 v2 o11 _ _ _ h hw (lv_sub hl [0, 1, 2] rfl)
  have lp_56_2 : ∀ (rec_7_0 : Int32 × Int32 × Ob → Option (Ob)) (hrec_7_0 : ∀ (v1 : Int32) (v2 : Int32) (o_me : Ob) (H : Heap) (locs : List Loc) (ls : Array Slot), rec_7_0 (v1, v2, o_me) = some y → Wd dC dI A s.heap [wX9 h_me q_me k_me o_me] H locs → lv_has ls 4 [(0, .ref h_me), (1, .int v1), (2, .int v2)] → W p l e ({ frames := 6, cells := 0, slots := 0, locals := 145 } : Room) s m ([.ref h_me, .int p0] : List Value).toArray below meth c H locs 0 0 Qz (F0 m 7 ls [])) (N : Nat), ∀ (v1 : Int32) (v2 : Int32) (v3 : Int32) (o_me : Ob) (H : Heap) (locs : List Loc) (ls : Array Slot), lp_X9_layPlaces_56  rec_7_0 N (v1, v2, v3, o_me) = some y → Wd dC dI A s.heap [wX9 h_me q_me k_me o_me] H locs → lv_has ls 4 [(0, .ref h_me), (1, .int v1), (2, .int v2), (3, .int v3)] → W p l e ({ frames := 6, cells := 0, slots := 0, locals := 145 } : Room) s m ([.ref h_me, .int p0] : List Value).toArray below meth c H locs 0 0 Qz (F0 m 56 ls []) := by
    intro rec_7_0 hrec_7_0
    intro N
    induction N with
    | zero =>
      intro v1 v2 v3 o_me H locs ls h hw hl
      exact absurd (show (none : Option (Ob)) = some y from h) (by simp)
    | succ N ih =>
      intro v1 v2 v3 o_me H locs ls h hw hl
      have h : lb_X9_layPlaces_56  rec_7_0 (lp_X9_layPlaces_56  rec_7_0 N) v1 v2 v3 o_me = some y := h
      unfold lb_X9_layPlaces_56 at h
      refine lv_iload_n hx hb dX9_layPlaces_56 rfl (lv_at hl 3 rfl) ?_
      refine lv_if_le (tgt := 102) hx hb dX9_layPlaces_57 (by decide) (fun c => ?_) (fun c => ?_)
      · have h := z_t h c
        exact bk_102_3 rec_7_0 hrec_7_0 v1 v2 v3 o_me _ _ _ h hw (lv_sub hl [0, 1, 2, 3] rfl)
      · have h := z_f h c
        refine lv_aload_n hx hb dX9_layPlaces_60 rfl (lv_at hl 0 rfl) ?_
        refine fgX9_41 hx hb hts hown hK hw 0 rfl kw1217 dX9_layPlaces_61 ?_
        refine lv_aload_n hx hb dX9_layPlaces_64 rfl (lv_at hl 0 rfl) ?_
        refine fgX9_42 hx hb hts hown hK hw 0 rfl kw1218 dX9_layPlaces_65 ?_
        refine lv_iload_n hx hb dX9_layPlaces_68 rfl (lv_at hl 3 rfl) ?_
        refine lv_iconst (v := 1) hx hb dX9_layPlaces_69 (by decide) ?_
        refine lv_isub hx hb dX9_layPlaces_70 ?_
        obtain ⟨g12, h⟩ := z_gd h
        refine faX9_42 hx hb hK hw 0 rfl rfl g12 dX9_layPlaces_71 ?_
        obtain ⟨g13, h⟩ := z_gd h
        refine faX9_41 hx hb hK hw 0 rfl rfl g13 dX9_layPlaces_72 ?_
        refine lv_aload_n hx hb dX9_layPlaces_73 rfl (lv_at hl 0 rfl) ?_
        refine fgX9_41 hx hb hts hown hK hw 0 rfl kw1217 dX9_layPlaces_74 ?_
        refine lv_iload_n hx hb dX9_layPlaces_77 rfl (lv_at hl 2 rfl) ?_
        obtain ⟨g14, h⟩ := z_gd h
        refine faX9_41 hx hb hK hw 0 rfl rfl g14 dX9_layPlaces_78 ?_
        refine lv_icmp_ge (tgt := 102) hx hb dX9_layPlaces_79 (by decide) (fun c => ?_) (fun c => ?_)
        · have h := z_t h c
          exact bk_102_3 rec_7_0 hrec_7_0 v1 v2 v3 o_me _ _ _ h hw (lv_sub hl [0, 1, 2, 3] rfl)
        · have h := z_f h c
          refine lv_aload_n hx hb dX9_layPlaces_82 rfl (lv_at hl 0 rfl) ?_
          refine fgX9_42 hx hb hts hown hK hw 0 rfl kw1218 dX9_layPlaces_83 ?_
          refine lv_iload_n hx hb dX9_layPlaces_86 rfl (lv_at hl 3 rfl) ?_
          refine lv_aload_n hx hb dX9_layPlaces_87 rfl (lv_at hl 0 rfl) ?_
          refine fgX9_42 hx hb hts hown hK hw 0 rfl kw1218 dX9_layPlaces_88 ?_
          refine lv_iload_n hx hb dX9_layPlaces_91 rfl (lv_at hl 3 rfl) ?_
          refine lv_iconst (v := 1) hx hb dX9_layPlaces_92 (by decide) ?_
          refine lv_isub hx hb dX9_layPlaces_93 ?_
          obtain ⟨g15, h⟩ := z_gd h
          refine faX9_42 hx hb hK hw 0 rfl rfl g15 dX9_layPlaces_94 ?_
          obtain ⟨g16, h⟩ := z_gd h
          refine fbX9_42 hx hb hK hw 0 rfl rfl g16 dX9_layPlaces_95 (fun H locs hw => ?_)
          obtain ⟨o17, eo17, h⟩ := z_lt h
          have hw : Wd dC dI A s.heap [wX9 h_me q_me k_me o17] H locs := by rw [eo17]; exact hw
          obtain ⟨x18, ex18, h⟩ := z_lt h
          refine lv_iinc (v := x18) (lv' := [(3, .int x18), (0, .ref h_me), (1, .int v1), (2, .int v2)]) hx hb dX9_layPlaces_96 hl (k := 3) rfl ((congrArg (v3 + ·) (show Int32.ofInt (-1) = (-1 : Int32) from by decide)).trans ex18.symm) (by decide) rfl (fun ls hl => ?_)
          refine lv_goto (tgt := 56) hx hb dX9_layPlaces_99 (by decide) ?_
          exact ih v1 v2 x18 o17 _ _ _ h hw (lv_sub hl [1, 2, 3, 0] rfl)
  have lp_7_0 : ∀ (N : Nat), ∀ (v1 : Int32) (v2 : Int32) (o_me : Ob) (H : Heap) (locs : List Loc) (ls : Array Slot), lp_X9_layPlaces_7   N (v1, v2, o_me) = some y → Wd dC dI A s.heap [wX9 h_me q_me k_me o_me] H locs → lv_has ls 4 [(0, .ref h_me), (1, .int v1), (2, .int v2)] → W p l e ({ frames := 6, cells := 0, slots := 0, locals := 145 } : Room) s m ([.ref h_me, .int p0] : List Value).toArray below meth c H locs 0 0 Qz (F0 m 7 ls []) := by
    intro N
    induction N with
    | zero =>
      intro v1 v2 o_me H locs ls h hw hl
      exact absurd (show (none : Option (Ob)) = some y from h) (by simp)
    | succ N ih =>
      intro v1 v2 o_me H locs ls h hw hl
      have h : lb_X9_layPlaces_7   (lp_X9_layPlaces_7   N) v1 v2 o_me = some y := h
      unfold lb_X9_layPlaces_7 at h
      refine lv_iload_n hx hb dX9_layPlaces_7 rfl (lv_at hl 2 rfl) ?_
      refine lv_aload_n hx hb dX9_layPlaces_8 rfl (lv_at hl 0 rfl) ?_
      refine fgX9_3 hx hb hts hown hK hw 0 rfl kw1179 dX9_layPlaces_9 ?_
      refine lv_iconst (v := 0) hx hb dX9_layPlaces_12 (by decide) ?_
      refine faX9_3 hx hb hK hw 0 rfl rfl (by decide) dX9_layPlaces_13 ?_
      refine lv_icmp_ge (tgt := 125) hx hb dX9_layPlaces_14 (by decide) (fun c => ?_) (fun c => ?_)
      · have h := z_t h c
        have hy := Option.some.inj h
        rw [← hQz, ← hy]
        exact xr_v hx hb hr hlk hK hw dX9_layPlaces_125
      · have h := z_f h c
        refine lv_aload_n hx hb dX9_layPlaces_17 rfl (lv_at hl 0 rfl) ?_
        refine fgX9_3 hx hb hts hown hK hw 0 rfl kw1179 dX9_layPlaces_18 ?_
        refine lv_bipush (v := 22) hx hb dX9_layPlaces_21 (by decide) ?_
        refine lv_iload_n hx hb dX9_layPlaces_23 rfl (lv_at hl 2 rfl) ?_
        refine lv_iadd hx hb dX9_layPlaces_24 ?_
        obtain ⟨g2, h⟩ := z_gd h
        refine faX9_3 hx hb hK hw 0 rfl rfl g2 dX9_layPlaces_25 ?_
        refine lv_iconst (v := 1) hx hb dX9_layPlaces_26 (by decide) ?_
        refine lv_icmp_ne (tgt := 119) hx hb dX9_layPlaces_27 (by decide) (fun c => ?_) (fun c => ?_)
        · have h := z_f h c
          exact bk_119_1 (lp_X9_layPlaces_7   N) ih v1 v2 o_me _ _ _ h hw (lv_sub hl [0, 1, 2] rfl)
        · have h := z_t h c
          refine lv_aload_n hx hb dX9_layPlaces_30 rfl (lv_at hl 0 rfl) ?_
          refine lv_iload_n hx hb dX9_layPlaces_31 rfl (lv_at hl 2 rfl) ?_
          refine lv_iload_n hx hb dX9_layPlaces_32 rfl (lv_at hl 1 rfl) ?_
          obtain ⟨z4, ez4, h⟩ := z_bd h
          refine xj_i (xrV (As := [.int v2, .int v1]) (rest := []) ⟨hx, hb, hml, hown, hts⟩ (m_X9_isBarred l dC dI _ h_me q_me k_me o_me v2 v1 z4 ez4) kw1437 kw1434 kw1436 kw48 kw120 hd_X9_isBarred ⟨rfl, rfl⟩ rfl rfl ⟨rfl, rfl⟩ hX hK hw [0] (by decide) rfl rfl rfl rfl rfl hl.1 rfl rfl dX9_layPlaces_33) hw hA [0] (by decide) rfl rfl (fun H locs hw => ?_)
          have hw : Wd dC dI A s.heap [wX9 h_me q_me k_me z4.2] H locs := hw
          refine lv_if_ne (tgt := 119) hx hb dX9_layPlaces_36 (by decide) (fun c => ?_) (fun c => ?_)
          · have h := z_f h c
            exact bk_119_1 (lp_X9_layPlaces_7   N) ih v1 v2 z4.2 _ _ _ h hw (lv_sub hl [0, 1, 2] rfl)
          · have h := z_t h c
            refine lv_aload_n hx hb dX9_layPlaces_39 rfl (lv_at hl 0 rfl) ?_
            refine fgX9_41 hx hb hts hown hK hw 0 rfl kw1217 dX9_layPlaces_40 ?_
            refine lv_iload_n hx hb dX9_layPlaces_43 rfl (lv_at hl 2 rfl) ?_
            refine lv_aload_n hx hb dX9_layPlaces_44 rfl (lv_at hl 0 rfl) ?_
            refine lv_iload_n hx hb dX9_layPlaces_45 rfl (lv_at hl 2 rfl) ?_
            refine lv_iload_n hx hb dX9_layPlaces_46 rfl (lv_at hl 1 rfl) ?_
            obtain ⟨z5, ez5, h⟩ := z_bd h
            refine xj_i (xrV (As := [.int v2, .int v1]) (rest := [.int v2, .ref (q_me 41)]) ⟨hx, hb, hml, hown, hts⟩ (m_X9_runsOf l dC dI _ h_me q_me k_me z4.2 v2 v1 z5 ez5) kw1411 kw1408 kw1410 kw43 kw120 hd_X9_runsOf ⟨rfl, rfl⟩ rfl rfl ⟨rfl, rfl⟩ hX hK hw [0] (by decide) rfl rfl rfl rfl rfl hl.1 rfl rfl dX9_layPlaces_47) hw hA [0] (by decide) rfl rfl (fun H locs hw => ?_)
            have hw : Wd dC dI A s.heap [wX9 h_me q_me k_me z5.2] H locs := hw
            obtain ⟨g6, h⟩ := z_gd h
            refine fbX9_41 hx hb hK hw 0 rfl rfl g6 dX9_layPlaces_50 (fun H locs hw => ?_)
            obtain ⟨o7, eo7, h⟩ := z_lt h
            have hw : Wd dC dI A s.heap [wX9 h_me q_me k_me o7] H locs := by rw [eo7]; exact hw
            refine lv_aload_n hx hb dX9_layPlaces_51 rfl (lv_at hl 0 rfl) ?_
            refine fgX9_43 hx hb hts hown hK hw 0 rfl kw1219 dX9_layPlaces_52 ?_
            obtain ⟨x8, ex8, h⟩ := z_lt h
            refine lv_fi (v := x8) ex8.symm ?_
            refine lv_istore_n (lv' := [(3, .int x8), (0, .ref h_me), (1, .int v1), (2, .int v2)]) hx hb dX9_layPlaces_55 rfl hl (by decide) rfl (fun ls hl => ?_)
            exact lp_56_2 (lp_X9_layPlaces_7   N) ih zfu v1 v2 x8 o7 _ _ _ h hw (lv_sub hl [1, 2, 3, 0] rfl)
  unfold f_X9_layPlaces at h
  refine lv_aload_n hx hb dX9_layPlaces_0 rfl (lv_at hl 0 rfl) ?_
  refine lv_iconst (v := 0) hx hb dX9_layPlaces_1 (by decide) ?_
  refine fpX9_43 hx hb hts hown hK hw 0 rfl kw1219 dX9_layPlaces_2 (fun H locs hw => ?_)
  obtain ⟨o1, eo1, h⟩ := z_lt h
  have hw : Wd dC dI A s.heap [wX9 h_me q_me k_me o1] H locs := by rw [eo1]; exact hw
  refine lv_iconst (v := 0) hx hb dX9_layPlaces_5 (by decide) ?_
  refine lv_istore_n (lv' := [(2, .int (0 : Int32)), (0, .ref h_me), (1, .int p0)]) hx hb dX9_layPlaces_6 rfl hl (by decide) rfl (fun ls hl => ?_)
  exact lp_7_0  zfu p0 (0 : Int32) o1 _ _ _ h hw (lv_sub hl [1, 2, 0] rfl)

