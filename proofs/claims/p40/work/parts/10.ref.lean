def f_X9_in (p0 : Int64) (p1 : Int64) (p2 : Int64) : Option (Int32) :=
  if (lg_cmp p0 p1) < (0 : Int32) then
  (some (0 : Int32))
  else
  (if (0 : Int32) < (lg_cmp p0 p2) then
  (some (0 : Int32))
  else
  (some (1 : Int32)))
set_option maxHeartbeats 4000000 in
set_option maxRecDepth 100000 in
theorem m_X9_in (l : Launch) (dC : Nat → ClassId) (dI : Nat → Nat → Nat) (sz : Nat)  (p0 : Int64) (p1 : Int64) (p2 : Int64) (y : Int32) (h : f_X9_in p0 p1 p2 = some y) : CI l yX9_in cX9_in 6 (some .boolean) ({ frames := 0, cells := 0, slots := 0, locals := 0 } : Room) dC dI sz [.long p0, .long p1, .long p2] [] [] y [] := by
  refine CC_of (by decide) (Nat.le_of_ble_eq_true rfl) ?_
  intro p e s m below meth c A ls hx hb hml hr hlk hnm hown hts hX hK hP hD hA hl
  have hl : lv_has ls 6 [(0, .long p0), (2, .long p1), (4, .long p2)] := hl
  have hown : s.vm.findClass RX9 = some m.cls := hown
  have hw : Wd dC dI A s.heap [] s.heap [] := ⟨hP, hD, va_S.rf⟩
  generalize hQz : (MQ below (QI dC dI (fun r (_ : Unit) => r = y) (fun _ => Jn []) (fun _ => Jt []) A) ([.long p0, .long p1, .long p2] : List Value).toArray s 0 0 A) = Qz
  clear hP hD hnm
  unfold f_X9_in at h
  refine lv_lload_n hx hb dX9_in_0 rfl (lv_at hl 0 rfl) ?_
  refine lv_lload_n hx hb dX9_in_1 rfl (lv_at hl 1 rfl) ?_
  refine W.lcmp hx hb dX9_in_2 ?_
  refine lv_if_lt (tgt := 17) hx hb dX9_in_3 (by decide) (fun c => ?_) (fun c => ?_)
  · have h := z_t h c
    refine lv_iconst (v := 0) hx hb dX9_in_17 (by decide) ?_
    have hy := Option.some.inj h
    rw [← hQz, ← hy]
    exact xr_i (v := (0 : Int32)) hx hb hr rfl hlk hK hw dX9_in_18
  · have h := z_f h c
    refine lv_lload_n hx hb dX9_in_6 rfl (lv_at hl 0 rfl) ?_
    refine lv_lload hx hb dX9_in_7 (lv_at hl 2 rfl) ?_
    refine W.lcmp hx hb dX9_in_9 ?_
    refine lv_if_gt (tgt := 17) hx hb dX9_in_10 (by decide) (fun c => ?_) (fun c => ?_)
    · have h := z_t h c
      refine lv_iconst (v := 0) hx hb dX9_in_17 (by decide) ?_
      have hy := Option.some.inj h
      rw [← hQz, ← hy]
      exact xr_i (v := (0 : Int32)) hx hb hr rfl hlk hK hw dX9_in_18
    · have h := z_f h c
      refine lv_iconst (v := 1) hx hb dX9_in_13 (by decide) ?_
      refine lv_goto (tgt := 18) hx hb dX9_in_14 (by decide) ?_
      have hy := Option.some.inj h
      rw [← hQz, ← hy]
      exact xr_i (v := (1 : Int32)) hx hb hr rfl hlk hK hw dX9_in_18

def f_X9_isRace (p0 : Int32) : Option (Int32) :=
  (f_X9_in p0.toInt64 (0 : Int64) (3 : Int64)).bind fun z1 =>
  zgd (zbo z1) <|
  some z1
set_option maxHeartbeats 4000000 in
set_option maxRecDepth 100000 in
theorem m_X9_isRace (l : Launch) (dC : Nat → ClassId) (dI : Nat → Nat → Nat) (sz : Nat)  (p0 : Int32) (y : Int32) (h : f_X9_isRace p0 = some y) : CI l yX9_isRace cX9_isRace 1 (some .boolean) ({ frames := 1, cells := 0, slots := 0, locals := 25 } : Room) dC dI sz [.int p0] [] [] y [] := by
  refine CC_of (by decide) (Nat.le_of_ble_eq_true rfl) ?_
  intro p e s m below meth c A ls hx hb hml hr hlk hnm hown hts hX hK hP hD hA hl
  have hl : lv_has ls 1 [(0, .int p0)] := hl
  have hown : s.vm.findClass RX9 = some m.cls := hown
  have hw : Wd dC dI A s.heap [] s.heap [] := ⟨hP, hD, va_S.rf⟩
  generalize hQz : (MQ below (QI dC dI (fun r (_ : Unit) => r = y) (fun _ => Jn []) (fun _ => Jt []) A) ([.int p0] : List Value).toArray s 0 0 A) = Qz
  clear hP hD hnm
  unfold f_X9_isRace at h
  refine lv_iload_n hx hb dX9_isRace_0 rfl (lv_at hl 0 rfl) ?_
  refine lv_i2l hx hb dX9_isRace_1 rfl ?_
  refine lv_lconst (v := 0) hx hb dX9_isRace_2 (by decide) ?_
  refine lv_ldc2 (v := 3) hx hb hown (hts _ kw1445) dX9_isRace_3 ?_
  obtain ⟨z1, ez1, h⟩ := z_bd h
  refine xj_i (xrS (As := [.long p0.toInt64, .long (0 : Int64), .long (3 : Int64)]) (rest := []) ⟨hx, hb, hml, hown, hts⟩ (m_X9_in l dC dI _  p0.toInt64 (0 : Int64) (3 : Int64) z1 ez1) kw1385 kw1383 kw1384 kw120 hd_X9_in ⟨rfl, rfl⟩ rfl rfl ⟨rfl, rfl⟩ hX hK hw [] (by decide) rfl rfl hl.1 rfl rfl dX9_isRace_6) hw hA [] (by decide) rfl rfl (fun H locs hw => ?_)
  obtain ⟨g2, h⟩ := z_gd h
  have hy := Option.some.inj h
  rw [← hQz, ← hy]
  exact xr_i (v := z1) hx hb hr (z_nar g2) hlk hK hw dX9_isRace_9

def bk_X9_reckon_72   (v2 : Int64) (v4 : Int64) (s0 : Int32) (o_me : Ob) : Option (Int64 × Ob) :=
  zgd (zbo s0) <|
  zlt (sI o_me 38 s0) fun o3 =>
  if (gI o3 38) = (0 : Int32) then
  (zgd (decide (¬ v4 = 0)) <|
  some (v2 / v4, o3))
  else
  (some ((0 : Int64), o3))
def bk_X9_reckon_104   (v2 : Int64) (v4 : Int64) (s0 : Int32) (o_me : Ob) : Option (Int64 × Ob) :=
  zgd (zbo s0) <|
  zlt (sI o_me 38 s0) fun o6 =>
  if (gI o6 38) = (0 : Int32) then
  (zgd (decide (¬ v4 = 0)) <|
  some (v2 - v2 / v4 * v4, o6))
  else
  (some ((0 : Int64), o6))
def f_X9_reckon (o_me : Ob) (p0 : Int32) (p1 : Int64) (p2 : Int64) : Option (Int64 × Ob) :=
  if p0 = (20 : Int32) then
  (some (p1 + p2, o_me))
  else
  (if p0 = (21 : Int32) then
  (some (p1 - p2, o_me))
  else
  (if p0 = (22 : Int32) then
  (some (p1 * p2, o_me))
  else
  (if p0 = (23 : Int32) then
  (if (lg_cmp p2 (0 : Int64)) = (0 : Int32) then
  (bk_X9_reckon_72   p1 p2 (1 : Int32) o_me)
  else
  (bk_X9_reckon_72   p1 p2 (0 : Int32) o_me))
  else
  (if p0 = (24 : Int32) then
  (if (lg_cmp p2 (0 : Int64)) = (0 : Int32) then
  (bk_X9_reckon_104   p1 p2 (1 : Int32) o_me)
  else
  (bk_X9_reckon_104   p1 p2 (0 : Int32) o_me))
  else
  (if p0 = (25 : Int32) then
  (if (0 : Int32) ≤ (lg_cmp p1 p2) then
  (some ((0 : Int64), o_me))
  else
  (some ((1 : Int64), o_me)))
  else
  (if p0 = (26 : Int32) then
  (if (lg_cmp p1 p2) ≤ (0 : Int32) then
  (some ((0 : Int64), o_me))
  else
  (some ((1 : Int64), o_me)))
  else
  (if (lg_cmp p1 p2) = (0 : Int32) then
  (some ((1 : Int64), o_me))
  else
  (some ((0 : Int64), o_me)))))))))
set_option maxHeartbeats 4000000 in
set_option maxRecDepth 100000 in
theorem m_X9_reckon (l : Launch) (dC : Nat → ClassId) (dI : Nat → Nat → Nat) (sz : Nat) (h_me : Nat) (q_me : Nat → Nat) (k_me : Nat → ClassId) (o_me : Ob) (p0 : Int32) (p1 : Int64) (p2 : Int64) (y : Int64 × Ob) (h : f_X9_reckon o_me p0 p1 p2 = some y) : CL l yX9_reckon cX9_reckon 6 (some .long) ({ frames := 0, cells := 0, slots := 0, locals := 0 } : Room) dC dI sz [.ref h_me, .int p0, .long p1, .long p2] [wX9 h_me q_me k_me o_me] [tX9 k_me] y.1 [wX9 h_me q_me k_me y.2] := by
  refine CC_of (by decide) (Nat.le_of_ble_eq_true rfl) ?_
  intro p e s m below meth c A ls hx hb hml hr hlk hnm hown hts hX hK hP hD hA hl
  have hl : lv_has ls 6 [(0, .ref h_me), (1, .int p0), (2, .long p1), (4, .long p2)] := hl
  have hown : s.vm.findClass RX9 = some m.cls := hown
  have hw : Wd dC dI A s.heap [wX9 h_me q_me k_me o_me] s.heap [] := ⟨hP, hD, va_S.rf⟩
  generalize hQz : (MQ below (QL dC dI (fun r (_ : Unit) => r = y.1) (fun _ => Jn [wX9 h_me q_me k_me y.2]) (fun _ => Jt [tX9 k_me]) A) ([.ref h_me, .int p0, .long p1, .long p2] : List Value).toArray s 0 0 A) = Qz
  clear hP hD hnm
  have bk_72_0 : ∀ (v2 : Int64) (v4 : Int64) (s0 : Int32) (o_me : Ob) (H : Heap) (locs : List Loc) (ls : Array Slot), bk_X9_reckon_72   v2 v4 s0 o_me = some y → Wd dC dI A s.heap [wX9 h_me q_me k_me o_me] H locs → lv_has ls 6 [(0, .ref h_me), (2, .long v2), (4, .long v4)] → W p l e ({ frames := 0, cells := 0, slots := 0, locals := 0 } : Room) s m ([.ref h_me, .int p0, .long p1, .long p2] : List Value).toArray below meth c H locs 0 0 Qz (F0 m 72 ls [.int s0, .ref h_me]) := by
    intro v2 v4 s0 o_me H locs ls h hw hl
    unfold bk_X9_reckon_72 at h
    obtain ⟨g2, h⟩ := z_gd h
    refine fpX9_38 hx hb hts hown hK hw 0 rfl kw1214 g2 dX9_reckon_72 (fun H locs hw => ?_)
    obtain ⟨o3, eo3, h⟩ := z_lt h
    have hw : Wd dC dI A s.heap [wX9 h_me q_me k_me o3] H locs := by rw [eo3]; exact hw
    refine lv_aload_n hx hb dX9_reckon_75 rfl (lv_at hl 0 rfl) ?_
    refine fgX9_38 hx hb hts hown hK hw 0 rfl kw1214 dX9_reckon_76 ?_
    refine lv_if_eq (tgt := 86) hx hb dX9_reckon_79 (by decide) (fun c => ?_) (fun c => ?_)
    · have h := z_t h c
      refine lv_lload_n hx hb dX9_reckon_86 rfl (lv_at hl 1 rfl) ?_
      refine lv_lload hx hb dX9_reckon_87 (lv_at hl 2 rfl) ?_
      obtain ⟨g4, h⟩ := z_gd h
      refine lv_ldiv hx hb dX9_reckon_89 (of_decide_eq_true g4) ?_
      have hy := Option.some.inj h
      rw [← hQz, ← hy]
      exact xr_l (v := v2 / v4) hx hb hr hlk hK hw dX9_reckon_90
    · have h := z_f h c
      refine lv_lconst (v := 0) hx hb dX9_reckon_82 (by decide) ?_
      refine lv_goto (tgt := 90) hx hb dX9_reckon_83 (by decide) ?_
      have hy := Option.some.inj h
      rw [← hQz, ← hy]
      exact xr_l (v := (0 : Int64)) hx hb hr hlk hK hw dX9_reckon_90
  have bk_104_1 : ∀ (v2 : Int64) (v4 : Int64) (s0 : Int32) (o_me : Ob) (H : Heap) (locs : List Loc) (ls : Array Slot), bk_X9_reckon_104   v2 v4 s0 o_me = some y → Wd dC dI A s.heap [wX9 h_me q_me k_me o_me] H locs → lv_has ls 6 [(0, .ref h_me), (2, .long v2), (4, .long v4)] → W p l e ({ frames := 0, cells := 0, slots := 0, locals := 0 } : Room) s m ([.ref h_me, .int p0, .long p1, .long p2] : List Value).toArray below meth c H locs 0 0 Qz (F0 m 104 ls [.int s0, .ref h_me]) := by
    intro v2 v4 s0 o_me H locs ls h hw hl
    unfold bk_X9_reckon_104 at h
    obtain ⟨g5, h⟩ := z_gd h
    refine fpX9_38 hx hb hts hown hK hw 0 rfl kw1214 g5 dX9_reckon_104 (fun H locs hw => ?_)
    obtain ⟨o6, eo6, h⟩ := z_lt h
    have hw : Wd dC dI A s.heap [wX9 h_me q_me k_me o6] H locs := by rw [eo6]; exact hw
    refine lv_aload_n hx hb dX9_reckon_107 rfl (lv_at hl 0 rfl) ?_
    refine fgX9_38 hx hb hts hown hK hw 0 rfl kw1214 dX9_reckon_108 ?_
    refine lv_if_eq (tgt := 118) hx hb dX9_reckon_111 (by decide) (fun c => ?_) (fun c => ?_)
    · have h := z_t h c
      refine lv_lload_n hx hb dX9_reckon_118 rfl (lv_at hl 1 rfl) ?_
      refine lv_lload hx hb dX9_reckon_119 (lv_at hl 2 rfl) ?_
      obtain ⟨g7, h⟩ := z_gd h
      refine lv_lrem hx hb dX9_reckon_121 (of_decide_eq_true g7) ?_
      have hy := Option.some.inj h
      rw [← hQz, ← hy]
      exact xr_l (v := v2 - v2 / v4 * v4) hx hb hr hlk hK hw dX9_reckon_122
    · have h := z_f h c
      refine lv_lconst (v := 0) hx hb dX9_reckon_114 (by decide) ?_
      refine lv_goto (tgt := 122) hx hb dX9_reckon_115 (by decide) ?_
      have hy := Option.some.inj h
      rw [← hQz, ← hy]
      exact xr_l (v := (0 : Int64)) hx hb hr hlk hK hw dX9_reckon_122
  unfold f_X9_reckon at h
  refine lv_iload_n hx hb dX9_reckon_0 rfl (lv_at hl 1 rfl) ?_
  rcases (show p0.toInt = 20 ∨ p0.toInt = 21 ∨ p0.toInt = 22 ∨ p0.toInt = 23 ∨ p0.toInt = 24 ∨ p0.toInt = 25 ∨ p0.toInt = 26 ∨ (p0.toInt < 20 ∨ 26 < p0.toInt) by omega) with c1 | c1 | c1 | c1 | c1 | c1 | c1 | c1
  · skip
    have ec1 : p0 = (20 : Int32) := Int32.toInt_inj.mp (c1.trans (by decide))
    have h := z_t h ec1
    refine lv_fi (v := 20) ec1 ?_
    refine lv_tableIn (tgt := 44) hx hb dX9_reckon_1 (by decide) (by decide) rfl (by decide) ?_
    refine lv_lload_n hx hb dX9_reckon_44 rfl (lv_at hl 2 rfl) ?_
    refine lv_lload hx hb dX9_reckon_45 (lv_at hl 3 rfl) ?_
    refine lv_ladd hx hb dX9_reckon_47 ?_
    have hy := Option.some.inj h
    rw [← hQz, ← hy]
    exact xr_l (v := p1 + p2) hx hb hr hlk hK hw dX9_reckon_48
  · skip
    have h := z_f h (fun e9 => by rw [e9] at c1; revert c1; decide)
    have ec1 : p0 = (21 : Int32) := Int32.toInt_inj.mp (c1.trans (by decide))
    have h := z_t h ec1
    refine lv_fi (v := 21) ec1 ?_
    refine lv_tableIn (tgt := 49) hx hb dX9_reckon_1 (by decide) (by decide) rfl (by decide) ?_
    refine lv_lload_n hx hb dX9_reckon_49 rfl (lv_at hl 2 rfl) ?_
    refine lv_lload hx hb dX9_reckon_50 (lv_at hl 3 rfl) ?_
    refine lv_lsub hx hb dX9_reckon_52 ?_
    have hy := Option.some.inj h
    rw [← hQz, ← hy]
    exact xr_l (v := p1 - p2) hx hb hr hlk hK hw dX9_reckon_53
  · skip
    have h := z_f h (fun e9 => by rw [e9] at c1; revert c1; decide)
    have h := z_f h (fun e9 => by rw [e9] at c1; revert c1; decide)
    have ec1 : p0 = (22 : Int32) := Int32.toInt_inj.mp (c1.trans (by decide))
    have h := z_t h ec1
    refine lv_fi (v := 22) ec1 ?_
    refine lv_tableIn (tgt := 54) hx hb dX9_reckon_1 (by decide) (by decide) rfl (by decide) ?_
    refine lv_lload_n hx hb dX9_reckon_54 rfl (lv_at hl 2 rfl) ?_
    refine lv_lload hx hb dX9_reckon_55 (lv_at hl 3 rfl) ?_
    refine lv_lmul hx hb dX9_reckon_57 ?_
    have hy := Option.some.inj h
    rw [← hQz, ← hy]
    exact xr_l (v := p1 * p2) hx hb hr hlk hK hw dX9_reckon_58
  · skip
    have h := z_f h (fun e9 => by rw [e9] at c1; revert c1; decide)
    have h := z_f h (fun e9 => by rw [e9] at c1; revert c1; decide)
    have h := z_f h (fun e9 => by rw [e9] at c1; revert c1; decide)
    have ec1 : p0 = (23 : Int32) := Int32.toInt_inj.mp (c1.trans (by decide))
    have h := z_t h ec1
    refine lv_fi (v := 23) ec1 ?_
    refine lv_tableIn (tgt := 59) hx hb dX9_reckon_1 (by decide) (by decide) rfl (by decide) ?_
    refine lv_aload_n hx hb dX9_reckon_59 rfl (lv_at hl 0 rfl) ?_
    refine lv_lload hx hb dX9_reckon_60 (lv_at hl 3 rfl) ?_
    refine lv_lconst (v := 0) hx hb dX9_reckon_62 (by decide) ?_
    refine W.lcmp hx hb dX9_reckon_63 ?_
    refine lv_if_ne (tgt := 71) hx hb dX9_reckon_64 (by decide) (fun c => ?_) (fun c => ?_)
    · have h := z_f h c
      refine lv_iconst (v := 0) hx hb dX9_reckon_71 (by decide) ?_
      exact bk_72_0  p1 p2 (0 : Int32) o_me _ _ _ h hw (lv_sub hl [0, 2, 3] rfl)
    · have h := z_t h c
      refine lv_iconst (v := 1) hx hb dX9_reckon_67 (by decide) ?_
      refine lv_goto (tgt := 72) hx hb dX9_reckon_68 (by decide) ?_
      exact bk_72_0  p1 p2 (1 : Int32) o_me _ _ _ h hw (lv_sub hl [0, 2, 3] rfl)
  · skip
    have h := z_f h (fun e9 => by rw [e9] at c1; revert c1; decide)
    have h := z_f h (fun e9 => by rw [e9] at c1; revert c1; decide)
    have h := z_f h (fun e9 => by rw [e9] at c1; revert c1; decide)
    have h := z_f h (fun e9 => by rw [e9] at c1; revert c1; decide)
    have ec1 : p0 = (24 : Int32) := Int32.toInt_inj.mp (c1.trans (by decide))
    have h := z_t h ec1
    refine lv_fi (v := 24) ec1 ?_
    refine lv_tableIn (tgt := 91) hx hb dX9_reckon_1 (by decide) (by decide) rfl (by decide) ?_
    refine lv_aload_n hx hb dX9_reckon_91 rfl (lv_at hl 0 rfl) ?_
    refine lv_lload hx hb dX9_reckon_92 (lv_at hl 3 rfl) ?_
    refine lv_lconst (v := 0) hx hb dX9_reckon_94 (by decide) ?_
    refine W.lcmp hx hb dX9_reckon_95 ?_
    refine lv_if_ne (tgt := 103) hx hb dX9_reckon_96 (by decide) (fun c => ?_) (fun c => ?_)
    · have h := z_f h c
      refine lv_iconst (v := 0) hx hb dX9_reckon_103 (by decide) ?_
      exact bk_104_1  p1 p2 (0 : Int32) o_me _ _ _ h hw (lv_sub hl [0, 2, 3] rfl)
    · have h := z_t h c
      refine lv_iconst (v := 1) hx hb dX9_reckon_99 (by decide) ?_
      refine lv_goto (tgt := 104) hx hb dX9_reckon_100 (by decide) ?_
      exact bk_104_1  p1 p2 (1 : Int32) o_me _ _ _ h hw (lv_sub hl [0, 2, 3] rfl)
  · skip
    have h := z_f h (fun e9 => by rw [e9] at c1; revert c1; decide)
    have h := z_f h (fun e9 => by rw [e9] at c1; revert c1; decide)
    have h := z_f h (fun e9 => by rw [e9] at c1; revert c1; decide)
    have h := z_f h (fun e9 => by rw [e9] at c1; revert c1; decide)
    have h := z_f h (fun e9 => by rw [e9] at c1; revert c1; decide)
    have ec1 : p0 = (25 : Int32) := Int32.toInt_inj.mp (c1.trans (by decide))
    have h := z_t h ec1
    refine lv_fi (v := 25) ec1 ?_
    refine lv_tableIn (tgt := 123) hx hb dX9_reckon_1 (by decide) (by decide) rfl (by decide) ?_
    refine lv_lload_n hx hb dX9_reckon_123 rfl (lv_at hl 2 rfl) ?_
    refine lv_lload hx hb dX9_reckon_124 (lv_at hl 3 rfl) ?_
    refine W.lcmp hx hb dX9_reckon_126 ?_
    refine lv_if_ge (tgt := 134) hx hb dX9_reckon_127 (by decide) (fun c => ?_) (fun c => ?_)
    · have h := z_t h c
      refine lv_lconst (v := 0) hx hb dX9_reckon_134 (by decide) ?_
      have hy := Option.some.inj h
      rw [← hQz, ← hy]
      exact xr_l (v := (0 : Int64)) hx hb hr hlk hK hw dX9_reckon_135
    · have h := z_f h c
      refine lv_lconst (v := 1) hx hb dX9_reckon_130 (by decide) ?_
      refine lv_goto (tgt := 135) hx hb dX9_reckon_131 (by decide) ?_
      have hy := Option.some.inj h
      rw [← hQz, ← hy]
      exact xr_l (v := (1 : Int64)) hx hb hr hlk hK hw dX9_reckon_135
  · skip
    have h := z_f h (fun e9 => by rw [e9] at c1; revert c1; decide)
    have h := z_f h (fun e9 => by rw [e9] at c1; revert c1; decide)
    have h := z_f h (fun e9 => by rw [e9] at c1; revert c1; decide)
    have h := z_f h (fun e9 => by rw [e9] at c1; revert c1; decide)
    have h := z_f h (fun e9 => by rw [e9] at c1; revert c1; decide)
    have h := z_f h (fun e9 => by rw [e9] at c1; revert c1; decide)
    have ec1 : p0 = (26 : Int32) := Int32.toInt_inj.mp (c1.trans (by decide))
    have h := z_t h ec1
    refine lv_fi (v := 26) ec1 ?_
    refine lv_tableIn (tgt := 136) hx hb dX9_reckon_1 (by decide) (by decide) rfl (by decide) ?_
    refine lv_lload_n hx hb dX9_reckon_136 rfl (lv_at hl 2 rfl) ?_
    refine lv_lload hx hb dX9_reckon_137 (lv_at hl 3 rfl) ?_
    refine W.lcmp hx hb dX9_reckon_139 ?_
    refine lv_if_le (tgt := 147) hx hb dX9_reckon_140 (by decide) (fun c => ?_) (fun c => ?_)
    · have h := z_t h c
      refine lv_lconst (v := 0) hx hb dX9_reckon_147 (by decide) ?_
      have hy := Option.some.inj h
      rw [← hQz, ← hy]
      exact xr_l (v := (0 : Int64)) hx hb hr hlk hK hw dX9_reckon_148
    · have h := z_f h c
      refine lv_lconst (v := 1) hx hb dX9_reckon_143 (by decide) ?_
      refine lv_goto (tgt := 148) hx hb dX9_reckon_144 (by decide) ?_
      have hy := Option.some.inj h
      rw [← hQz, ← hy]
      exact xr_l (v := (1 : Int64)) hx hb hr hlk hK hw dX9_reckon_148
  · skip
    have h := z_f h (fun e9 => by rw [e9] at c1; revert c1; decide)
    have h := z_f h (fun e9 => by rw [e9] at c1; revert c1; decide)
    have h := z_f h (fun e9 => by rw [e9] at c1; revert c1; decide)
    have h := z_f h (fun e9 => by rw [e9] at c1; revert c1; decide)
    have h := z_f h (fun e9 => by rw [e9] at c1; revert c1; decide)
    have h := z_f h (fun e9 => by rw [e9] at c1; revert c1; decide)
    have h := z_f h (fun e9 => by rw [e9] at c1; revert c1; decide)
    refine lv_tableOut (tgt := 149) hx hb dX9_reckon_1 c1 (by decide) ?_
    refine lv_lload_n hx hb dX9_reckon_149 rfl (lv_at hl 2 rfl) ?_
    refine lv_lload hx hb dX9_reckon_150 (lv_at hl 3 rfl) ?_
    refine W.lcmp hx hb dX9_reckon_152 ?_
    refine lv_if_ne (tgt := 160) hx hb dX9_reckon_153 (by decide) (fun c => ?_) (fun c => ?_)
    · have h := z_f h c
      refine lv_lconst (v := 0) hx hb dX9_reckon_160 (by decide) ?_
      have hy := Option.some.inj h
      rw [← hQz, ← hy]
      exact xr_l (v := (0 : Int64)) hx hb hr hlk hK hw dX9_reckon_161
    · have h := z_t h c
      refine lv_lconst (v := 1) hx hb dX9_reckon_156 (by decide) ?_
      refine lv_goto (tgt := 161) hx hb dX9_reckon_157 (by decide) ?_
      have hy := Option.some.inj h
      rw [← hQz, ← hy]
      exact xr_l (v := (1 : Int64)) hx hb hr hlk hK hw dX9_reckon_161

def f_X9_isPerson (o_me : Ob) (p0 : Int32) : Option (Int32) :=
  (f_X9_in p0.toInt64 (0 : Int64) (((gA o_me 3 (0 : Int32).toNatClampNeg).toInt64) - (1 : Int64))).bind fun z1 =>
  zgd (zbo z1) <|
  some z1
set_option maxHeartbeats 4000000 in
set_option maxRecDepth 100000 in
theorem m_X9_isPerson (l : Launch) (dC : Nat → ClassId) (dI : Nat → Nat → Nat) (sz : Nat) (h_me : Nat) (q_me : Nat → Nat) (k_me : Nat → ClassId) (o_me : Ob) (p0 : Int32) (y : Int32) (h : f_X9_isPerson o_me p0 = some y) : CI l yX9_isPerson cX9_isPerson 2 (some .boolean) ({ frames := 1, cells := 0, slots := 0, locals := 25 } : Room) dC dI sz [.ref h_me, .int p0] [wX9 h_me q_me k_me o_me] [tX9 k_me] y [wX9 h_me q_me k_me o_me] := by
  refine CC_of (by decide) (Nat.le_of_ble_eq_true rfl) ?_
  intro p e s m below meth c A ls hx hb hml hr hlk hnm hown hts hX hK hP hD hA hl
  have hl : lv_has ls 2 [(0, .ref h_me), (1, .int p0)] := hl
  have hown : s.vm.findClass RX9 = some m.cls := hown
  have hw : Wd dC dI A s.heap [wX9 h_me q_me k_me o_me] s.heap [] := ⟨hP, hD, va_S.rf⟩
  generalize hQz : (MQ below (QI dC dI (fun r (_ : Unit) => r = y) (fun _ => Jn [wX9 h_me q_me k_me o_me]) (fun _ => Jt [tX9 k_me]) A) ([.ref h_me, .int p0] : List Value).toArray s 0 0 A) = Qz
  clear hP hD hnm
  unfold f_X9_isPerson at h
  refine lv_iload_n hx hb dX9_isPerson_0 rfl (lv_at hl 1 rfl) ?_
  refine lv_i2l hx hb dX9_isPerson_1 rfl ?_
  refine lv_lconst (v := 0) hx hb dX9_isPerson_2 (by decide) ?_
  refine lv_aload_n hx hb dX9_isPerson_3 rfl (lv_at hl 0 rfl) ?_
  refine fgX9_3 hx hb hts hown hK hw 0 rfl kw1179 dX9_isPerson_4 ?_
  refine lv_iconst (v := 0) hx hb dX9_isPerson_7 (by decide) ?_
  refine faX9_3 hx hb hK hw 0 rfl rfl (by decide) dX9_isPerson_8 ?_
  refine lv_i2l hx hb dX9_isPerson_9 rfl ?_
  refine lv_lconst (v := 1) hx hb dX9_isPerson_10 (by decide) ?_
  refine lv_lsub hx hb dX9_isPerson_11 ?_
  obtain ⟨z1, ez1, h⟩ := z_bd h
  refine xj_i (xrS (As := [.long p0.toInt64, .long (0 : Int64), .long (((gA o_me 3 (0 : Int32).toNatClampNeg).toInt64) - (1 : Int64))]) (rest := []) ⟨hx, hb, hml, hown, hts⟩ (m_X9_in l dC dI _  p0.toInt64 (0 : Int64) (((gA o_me 3 (0 : Int32).toNatClampNeg).toInt64) - (1 : Int64)) z1 ez1) kw1385 kw1383 kw1384 kw120 hd_X9_in ⟨rfl, rfl⟩ rfl rfl ⟨rfl, rfl⟩ hX hK hw [] (by decide) rfl rfl hl.1 rfl rfl dX9_isPerson_12) hw hA [] (by decide) rfl rfl (fun H locs hw => ?_)
  obtain ⟨g2, h⟩ := z_gd h
  have hy := Option.some.inj h
  rw [← hQz, ← hy]
  exact xr_i (v := z1) hx hb hr (z_nar g2) hlk hK hw dX9_isPerson_15

def bk_X9_reckonAll_368   (s0 : Int64) (o_me : Ob) : Option (Ob) :=
  zlt (sL o_me 39 s0) fun o2 =>
  some o2
def bk_X9_reckonAll_353   (v3 : Int32) (o_me : Ob) : Option (Ob) :=
  if v3 ≤ (0 : Int32) then
  (bk_X9_reckonAll_368   (0 : Int64) o_me)
  else
  (bk_X9_reckonAll_368   (gM o_me 37 (0 : Int32).toNatClampNeg) o_me)
def bk_X9_reckonAll_350  (rec_10_0 : Int32 × Int32 × Int32 × Ob → Option (Ob)) (v2 : Int32) (v3 : Int32) (v4 : Int32) (o_me : Ob) : Option (Ob) :=
  rec_10_0 (v2, v3, v4, o_me)
def bk_X9_reckonAll_336  (rec_10_0 : Int32 × Int32 × Int32 × Ob → Option (Ob)) (v2 : Int32) (v3 : Int32) (v4 : Int32) (v6 : Int32) (s0 : Int64) (s1 : Int64) (o_me : Ob) : Option (Ob) :=
  if (lg_cmp s1 s0) = (0 : Int32) then
  (bk_X9_reckonAll_350  rec_10_0 v2 v3 v6 o_me)
  else
  (zlt (v3 + (-1 : Int32)) fun x7 =>
  bk_X9_reckonAll_350  rec_10_0 v2 x7 v4 o_me)
def bk_X9_reckonAll_282  (rec_10_0 : Int32 × Int32 × Int32 × Ob → Option (Ob)) (v2 : Int32) (v3 : Int32) (v4 : Int32) (s0 : Int32) (o_me : Ob) : Option (Ob) :=
  zgd (zbo s0) <|
  zlt (sI o_me 38 s0) fun o18 =>
  bk_X9_reckonAll_350  rec_10_0 v2 v3 v4 o18
def bk_X9_reckonAll_277  (rec_10_0 : Int32 × Int32 × Int32 × Ob → Option (Ob)) (v2 : Int32) (v3 : Int32) (v4 : Int32) (o_me : Ob) : Option (Ob) :=
  bk_X9_reckonAll_282  rec_10_0 v2 v3 v4 (1 : Int32) o_me
def bk_X9_reckonAll_204  (rec_10_0 : Int32 × Int32 × Int32 × Ob → Option (Ob)) (v2 : Int32) (v3 : Int32) (v4 : Int32) (s0 : Int64) (s1 : Int32) (o_me : Ob) : Option (Ob) :=
  zgd (zin s1 400) <|
  zlt (tM o_me 37 s1.toNatClampNeg s0) fun o24 =>
  zlt (v3 + (1 : Int32)) fun x25 =>
  bk_X9_reckonAll_350  rec_10_0 v2 x25 v4 o24
def bk_X9_reckonAll_95  (rec_10_0 : Int32 × Int32 × Int32 × Ob → Option (Ob)) (v2 : Int32) (v3 : Int32) (v4 : Int32) (v5 : Int32) (s0 : Int32) (o_me : Ob) : Option (Ob) :=
  zlt (v4 + (1 : Int32)) fun x5 =>
  if (20 : Int32) ≤ v5 then
  (if (28 : Int32) ≤ v5 then
  (if v5 = (28 : Int32) then
  (zgd (zin (v3 - (1 : Int32)) 400) <|
  zgd (zin (v3 - (1 : Int32)) 400) <|
  zlt (tM o_me 37 (v3 - (1 : Int32)).toNatClampNeg ((1 : Int64) - (gM o_me 37 (v3 - (1 : Int32)).toNatClampNeg))) fun o10 =>
  bk_X9_reckonAll_350  rec_10_0 v2 v3 x5 o10)
  else
  (zgd (zin (v3 - (1 : Int32)) 400) <|
  if v5 = (29 : Int32) then
  (bk_X9_reckonAll_336  rec_10_0 v2 v3 x5 s0 (0 : Int64) (gM o_me 37 (v3 - (1 : Int32)).toNatClampNeg) o_me)
  else
  (bk_X9_reckonAll_336  rec_10_0 v2 v3 x5 s0 (1 : Int64) (gM o_me 37 (v3 - (1 : Int32)).toNatClampNeg) o_me)))
  else
  (zlt (v3 + (-1 : Int32)) fun x11 =>
  zgd (zin (x11 - (1 : Int32)) 400) <|
  zgd (zin x11 400) <|
  (f_X9_reckon o_me v5 (gM o_me 37 (x11 - (1 : Int32)).toNatClampNeg) (gM o_me 37 x11.toNatClampNeg)).bind fun z14 =>
  zgd (zin (x11 - (1 : Int32)) 400) <|
  zlt (tM z14.2 37 (x11 - (1 : Int32)).toNatClampNeg z14.1) fun o16 =>
  if (gI o16 38) = (0 : Int32) then
  (zgd (zin (x11 - (1 : Int32)) 400) <|
  (f_X9_in (gM o16 37 (x11 - (1 : Int32)).toNatClampNeg) (-1000000000 : Int64) (1000000000 : Int64)).bind fun z20 =>
  if z20 = (0 : Int32) then
  (bk_X9_reckonAll_277  rec_10_0 v2 x11 x5 o16)
  else
  (bk_X9_reckonAll_282  rec_10_0 v2 x11 x5 (0 : Int32) o16))
  else
  (bk_X9_reckonAll_277  rec_10_0 v2 x11 x5 o16)))
  else
  (if v5 = (0 : Int32) then
  (bk_X9_reckonAll_204  rec_10_0 v2 v3 x5 s0.toInt64 v3 o_me)
  else
  (if (gI o_me 20) = (0 : Int32) then
  (zgd (zin v5 13) <|
  bk_X9_reckonAll_204  rec_10_0 v2 v3 x5 (gM o_me 35 v5.toNatClampNeg) v3 o_me)
  else
  (if (6 : Int32) ≤ v5 then
  ((f_X9_isPerson o_me s0).bind fun z21 =>
  if z21 = (0 : Int32) then
  (bk_X9_reckonAll_204  rec_10_0 v2 v3 x5 (-1 : Int64) v3 o_me)
  else
  (if v5 = (6 : Int32) then
  (zgd (zin ((15 : Int32) + s0) 5484) <|
  bk_X9_reckonAll_204  rec_10_0 v2 v3 x5 ((gA o_me 3 ((15 : Int32) + s0).toNatClampNeg).toInt64) v3 o_me)
  else
  (zgd (zin ((8 : Int32) + s0) 5484) <|
  bk_X9_reckonAll_204  rec_10_0 v2 v3 x5 ((gA o_me 3 ((8 : Int32) + s0).toNatClampNeg).toInt64) v3 o_me)))
  else
  (zgd (zin v5 13) <|
  bk_X9_reckonAll_204  rec_10_0 v2 v3 x5 (gM o_me 36 v5.toNatClampNeg) v3 o_me))))
def bk_X9_reckonAll_57  (rec_10_0 : Int32 × Int32 × Int32 × Ob → Option (Ob)) (v2 : Int32) (v3 : Int32) (v4 : Int32) (s0 : Int32) (o_me : Ob) : Option (Ob) :=
  if (gI o_me 20) = (0 : Int32) then
  (zgd (zin ((((gI o_me 34) + (98 : Int32)) + ((2 : Int32) * v4)) + (1 : Int32)) 5484) <|
  bk_X9_reckonAll_95  rec_10_0 v2 v3 v4 s0 (gA o_me 3 ((((gI o_me 34) + (98 : Int32)) + ((2 : Int32) * v4)) + (1 : Int32)).toNatClampNeg) o_me)
  else
  (zgd (zin v4 400) <|
  bk_X9_reckonAll_95  rec_10_0 v2 v3 v4 s0 (gA o_me 25 v4.toNatClampNeg) o_me)
def lb_X9_reckonAll_10   (rec_10_0 : Int32 × Int32 × Int32 × Ob → Option (Ob)) (v2 : Int32) (v3 : Int32) (v4 : Int32) (o_me : Ob) : Option (Ob) :=
  if v2 ≤ v4 then
  (bk_X9_reckonAll_353   v3 o_me)
  else
  (if (gI o_me 38) = (0 : Int32) then
  (if (gI o_me 20) = (0 : Int32) then
  (zgd (zin (((gI o_me 34) + (98 : Int32)) + ((2 : Int32) * v4)) 5484) <|
  bk_X9_reckonAll_57  rec_10_0 v2 v3 v4 (gA o_me 3 (((gI o_me 34) + (98 : Int32)) + ((2 : Int32) * v4)).toNatClampNeg) o_me)
  else
  (zgd (zin v4 400) <|
  bk_X9_reckonAll_57  rec_10_0 v2 v3 v4 (gA o_me 24 v4.toNatClampNeg) o_me))
  else
  (bk_X9_reckonAll_353   v3 o_me))
def lp_X9_reckonAll_10   : Nat → (Int32 × Int32 × Int32 × Ob) → Option (Ob) := zit (fun rec a => lb_X9_reckonAll_10   rec a.1 a.2.1 a.2.2.1 a.2.2.2)
def f_X9_reckonAll (o_me : Ob) (p0 : Int32) (p1 : Int32) : Option (Ob) :=
  zlt (sI o_me 38 (0 : Int32)) fun o1 =>
  lp_X9_reckonAll_10   zfu (p1, (0 : Int32), p0, o1)
set_option maxHeartbeats 4000000 in
set_option maxRecDepth 100000 in
theorem m_X9_reckonAll (l : Launch) (dC : Nat → ClassId) (dI : Nat → Nat → Nat) (sz : Nat) (h_me : Nat) (q_me : Nat → Nat) (k_me : Nat → ClassId) (o_me : Ob) (p0 : Int32) (p1 : Int32) (y : Ob) (h : f_X9_reckonAll o_me p0 p1 = some y) : CV l yX9_reckonAll cX9_reckonAll 7 none ({ frames := 2, cells := 0, slots := 0, locals := 46 } : Room) dC dI sz [.ref h_me, .int p0, .int p1] [wX9 h_me q_me k_me o_me] [tX9 k_me] [wX9 h_me q_me k_me y] := by
  refine CC_of (by decide) (Nat.le_of_ble_eq_true rfl) ?_
  intro p e s m below meth c A ls hx hb hml hr hlk hnm hown hts hX hK hP hD hA hl
  have hl : lv_has ls 7 [(0, .ref h_me), (1, .int p0), (2, .int p1)] := hl
  have hown : s.vm.findClass RX9 = some m.cls := hown
  have hw : Wd dC dI A s.heap [wX9 h_me q_me k_me o_me] s.heap [] := ⟨hP, hD, va_S.rf⟩
  generalize hQz : (MQ below (QV dC dI (fun (_ : Unit) => True) (fun _ => Jn [wX9 h_me q_me k_me y]) (fun _ => Jt [tX9 k_me]) A) ([.ref h_me, .int p0, .int p1] : List Value).toArray s 0 0 A) = Qz
  clear hP hD hnm
  have bk_368_2 : ∀ (s0 : Int64) (o_me : Ob) (H : Heap) (locs : List Loc) (ls : Array Slot), bk_X9_reckonAll_368   s0 o_me = some y → Wd dC dI A s.heap [wX9 h_me q_me k_me o_me] H locs → lv_has ls 7 [] → W p l e ({ frames := 2, cells := 0, slots := 0, locals := 46 } : Room) s m ([.ref h_me, .int p0, .int p1] : List Value).toArray below meth c H locs 0 0 Qz (F0 m 368 ls [.long s0, .ref h_me]) := by
    intro s0 o_me H locs ls h hw hl
    unfold bk_X9_reckonAll_368 at h
    refine fpX9_39 hx hb hts hown hK hw 0 rfl kw1215 dX9_reckonAll_368 (fun H locs hw => ?_)
    obtain ⟨o2, eo2, h⟩ := z_lt h
    have hw : Wd dC dI A s.heap [wX9 h_me q_me k_me o2] H locs := by rw [eo2]; exact hw
    have hy := Option.some.inj h
    rw [← hQz, ← hy]
    exact xr_v hx hb hr hlk hK hw dX9_reckonAll_371
  have bk_353_1 : ∀ (v3 : Int32) (o_me : Ob) (H : Heap) (locs : List Loc) (ls : Array Slot), bk_X9_reckonAll_353   v3 o_me = some y → Wd dC dI A s.heap [wX9 h_me q_me k_me o_me] H locs → lv_has ls 7 [(0, .ref h_me), (3, .int v3)] → W p l e ({ frames := 2, cells := 0, slots := 0, locals := 46 } : Room) s m ([.ref h_me, .int p0, .int p1] : List Value).toArray below meth c H locs 0 0 Qz (F0 m 353 ls []) := by
    intro v3 o_me H locs ls h hw hl
    unfold bk_X9_reckonAll_353 at h
    refine lv_aload_n hx hb dX9_reckonAll_353 rfl (lv_at hl 0 rfl) ?_
    refine lv_iload_n hx hb dX9_reckonAll_354 rfl (lv_at hl 1 rfl) ?_
    refine lv_if_le (tgt := 367) hx hb dX9_reckonAll_355 (by decide) (fun c => ?_) (fun c => ?_)
    · have h := z_t h c
      refine lv_lconst (v := 0) hx hb dX9_reckonAll_367 (by decide) ?_
      exact bk_368_2  (0 : Int64) o_me _ _ _ h hw (lv_sub hl [] rfl)
    · have h := z_f h c
      refine lv_aload_n hx hb dX9_reckonAll_358 rfl (lv_at hl 0 rfl) ?_
      refine fgX9_37 hx hb hts hown hK hw 0 rfl kw1213 dX9_reckonAll_359 ?_
      refine lv_iconst (v := 0) hx hb dX9_reckonAll_362 (by decide) ?_
      refine faX9_37 hx hb hK hw 0 rfl rfl (by decide) dX9_reckonAll_363 ?_
      refine lv_goto (tgt := 368) hx hb dX9_reckonAll_364 (by decide) ?_
      exact bk_368_2  (gM o_me 37 (0 : Int32).toNatClampNeg) o_me _ _ _ h hw (lv_sub hl [] rfl)
  have bk_350_6 : ∀ (rec_10_0 : Int32 × Int32 × Int32 × Ob → Option (Ob)) (hrec_10_0 : ∀ (v2 : Int32) (v3 : Int32) (v4 : Int32) (o_me : Ob) (H : Heap) (locs : List Loc) (ls : Array Slot), rec_10_0 (v2, v3, v4, o_me) = some y → Wd dC dI A s.heap [wX9 h_me q_me k_me o_me] H locs → lv_has ls 7 [(0, .ref h_me), (2, .int v2), (3, .int v3), (4, .int v4)] → W p l e ({ frames := 2, cells := 0, slots := 0, locals := 46 } : Room) s m ([.ref h_me, .int p0, .int p1] : List Value).toArray below meth c H locs 0 0 Qz (F0 m 10 ls [])), ∀ (v2 : Int32) (v3 : Int32) (v4 : Int32) (o_me : Ob) (H : Heap) (locs : List Loc) (ls : Array Slot), bk_X9_reckonAll_350  rec_10_0 v2 v3 v4 o_me = some y → Wd dC dI A s.heap [wX9 h_me q_me k_me o_me] H locs → lv_has ls 7 [(0, .ref h_me), (2, .int v2), (3, .int v3), (4, .int v4)] → W p l e ({ frames := 2, cells := 0, slots := 0, locals := 46 } : Room) s m ([.ref h_me, .int p0, .int p1] : List Value).toArray below meth c H locs 0 0 Qz (F0 m 350 ls []) := by
    intro rec_10_0 hrec_10_0
    intro v2 v3 v4 o_me H locs ls h hw hl
    unfold bk_X9_reckonAll_350 at h
    refine lv_goto (tgt := 10) hx hb dX9_reckonAll_350 (by decide) ?_
    exact hrec_10_0 v2 v3 v4 o_me _ _ _ h hw (lv_sub hl [0, 1, 2, 3] rfl)
  have bk_336_5 : ∀ (rec_10_0 : Int32 × Int32 × Int32 × Ob → Option (Ob)) (hrec_10_0 : ∀ (v2 : Int32) (v3 : Int32) (v4 : Int32) (o_me : Ob) (H : Heap) (locs : List Loc) (ls : Array Slot), rec_10_0 (v2, v3, v4, o_me) = some y → Wd dC dI A s.heap [wX9 h_me q_me k_me o_me] H locs → lv_has ls 7 [(0, .ref h_me), (2, .int v2), (3, .int v3), (4, .int v4)] → W p l e ({ frames := 2, cells := 0, slots := 0, locals := 46 } : Room) s m ([.ref h_me, .int p0, .int p1] : List Value).toArray below meth c H locs 0 0 Qz (F0 m 10 ls [])), ∀ (v2 : Int32) (v3 : Int32) (v4 : Int32) (v6 : Int32) (s0 : Int64) (s1 : Int64) (o_me : Ob) (H : Heap) (locs : List Loc) (ls : Array Slot), bk_X9_reckonAll_336  rec_10_0 v2 v3 v4 v6 s0 s1 o_me = some y → Wd dC dI A s.heap [wX9 h_me q_me k_me o_me] H locs → lv_has ls 7 [(0, .ref h_me), (2, .int v2), (3, .int v3), (4, .int v4), (6, .int v6)] → W p l e ({ frames := 2, cells := 0, slots := 0, locals := 46 } : Room) s m ([.ref h_me, .int p0, .int p1] : List Value).toArray below meth c H locs 0 0 Qz (F0 m 336 ls [.long s0, .long s1]) := by
    intro rec_10_0 hrec_10_0
    intro v2 v3 v4 v6 s0 s1 o_me H locs ls h hw hl
    unfold bk_X9_reckonAll_336 at h
    refine W.lcmp hx hb dX9_reckonAll_336 ?_
    refine lv_if_ne (tgt := 347) hx hb dX9_reckonAll_337 (by decide) (fun c => ?_) (fun c => ?_)
    · have h := z_f h c
      obtain ⟨x7, ex7, h⟩ := z_lt h
      refine lv_iinc (v := x7) (lv' := [(3, .int x7), (0, .ref h_me), (2, .int v2), (4, .int v4), (6, .int v6)]) hx hb dX9_reckonAll_347 hl (k := 2) rfl ((congrArg (v3 + ·) (show Int32.ofInt (-1) = (-1 : Int32) from by decide)).trans ex7.symm) (by decide) rfl (fun ls hl => ?_)
      exact bk_350_6 rec_10_0 hrec_10_0 v2 x7 v4 o_me _ _ _ h hw (lv_sub hl [1, 2, 0, 3] rfl)
    · have h := z_t h c
      refine lv_iload hx hb dX9_reckonAll_340 (lv_at hl 4 rfl) ?_
      refine lv_istore (lv' := [(4, .int v6), (0, .ref h_me), (2, .int v2), (3, .int v3), (6, .int v6)]) hx hb dX9_reckonAll_342 hl (by decide) rfl (fun ls hl => ?_)
      refine lv_goto (tgt := 350) hx hb dX9_reckonAll_344 (by decide) ?_
      exact bk_350_6 rec_10_0 hrec_10_0 v2 v3 v6 o_me _ _ _ h hw (lv_sub hl [1, 2, 3, 0] rfl)
  have bk_282_8 : ∀ (rec_10_0 : Int32 × Int32 × Int32 × Ob → Option (Ob)) (hrec_10_0 : ∀ (v2 : Int32) (v3 : Int32) (v4 : Int32) (o_me : Ob) (H : Heap) (locs : List Loc) (ls : Array Slot), rec_10_0 (v2, v3, v4, o_me) = some y → Wd dC dI A s.heap [wX9 h_me q_me k_me o_me] H locs → lv_has ls 7 [(0, .ref h_me), (2, .int v2), (3, .int v3), (4, .int v4)] → W p l e ({ frames := 2, cells := 0, slots := 0, locals := 46 } : Room) s m ([.ref h_me, .int p0, .int p1] : List Value).toArray below meth c H locs 0 0 Qz (F0 m 10 ls [])), ∀ (v2 : Int32) (v3 : Int32) (v4 : Int32) (s0 : Int32) (o_me : Ob) (H : Heap) (locs : List Loc) (ls : Array Slot), bk_X9_reckonAll_282  rec_10_0 v2 v3 v4 s0 o_me = some y → Wd dC dI A s.heap [wX9 h_me q_me k_me o_me] H locs → lv_has ls 7 [(0, .ref h_me), (2, .int v2), (3, .int v3), (4, .int v4)] → W p l e ({ frames := 2, cells := 0, slots := 0, locals := 46 } : Room) s m ([.ref h_me, .int p0, .int p1] : List Value).toArray below meth c H locs 0 0 Qz (F0 m 282 ls [.int s0, .ref h_me]) := by
    intro rec_10_0 hrec_10_0
    intro v2 v3 v4 s0 o_me H locs ls h hw hl
    unfold bk_X9_reckonAll_282 at h
    obtain ⟨g17, h⟩ := z_gd h
    refine fpX9_38 hx hb hts hown hK hw 0 rfl kw1214 g17 dX9_reckonAll_282 (fun H locs hw => ?_)
    obtain ⟨o18, eo18, h⟩ := z_lt h
    have hw : Wd dC dI A s.heap [wX9 h_me q_me k_me o18] H locs := by rw [eo18]; exact hw
    refine lv_goto (tgt := 350) hx hb dX9_reckonAll_285 (by decide) ?_
    exact bk_350_6 rec_10_0 hrec_10_0 v2 v3 v4 o18 _ _ _ h hw (lv_sub hl [0, 1, 2, 3] rfl)
  have bk_277_7 : ∀ (rec_10_0 : Int32 × Int32 × Int32 × Ob → Option (Ob)) (hrec_10_0 : ∀ (v2 : Int32) (v3 : Int32) (v4 : Int32) (o_me : Ob) (H : Heap) (locs : List Loc) (ls : Array Slot), rec_10_0 (v2, v3, v4, o_me) = some y → Wd dC dI A s.heap [wX9 h_me q_me k_me o_me] H locs → lv_has ls 7 [(0, .ref h_me), (2, .int v2), (3, .int v3), (4, .int v4)] → W p l e ({ frames := 2, cells := 0, slots := 0, locals := 46 } : Room) s m ([.ref h_me, .int p0, .int p1] : List Value).toArray below meth c H locs 0 0 Qz (F0 m 10 ls [])), ∀ (v2 : Int32) (v3 : Int32) (v4 : Int32) (o_me : Ob) (H : Heap) (locs : List Loc) (ls : Array Slot), bk_X9_reckonAll_277  rec_10_0 v2 v3 v4 o_me = some y → Wd dC dI A s.heap [wX9 h_me q_me k_me o_me] H locs → lv_has ls 7 [(0, .ref h_me), (2, .int v2), (3, .int v3), (4, .int v4)] → W p l e ({ frames := 2, cells := 0, slots := 0, locals := 46 } : Room) s m ([.ref h_me, .int p0, .int p1] : List Value).toArray below meth c H locs 0 0 Qz (F0 m 277 ls [.ref h_me]) := by
    intro rec_10_0 hrec_10_0
    intro v2 v3 v4 o_me H locs ls h hw hl
    unfold bk_X9_reckonAll_277 at h
    refine lv_iconst (v := 1) hx hb dX9_reckonAll_277 (by decide) ?_
    refine lv_goto (tgt := 282) hx hb dX9_reckonAll_278 (by decide) ?_
    exact bk_282_8 rec_10_0 hrec_10_0 v2 v3 v4 (1 : Int32) o_me _ _ _ h hw (lv_sub hl [0, 1, 2, 3] rfl)
  have bk_204_9 : ∀ (rec_10_0 : Int32 × Int32 × Int32 × Ob → Option (Ob)) (hrec_10_0 : ∀ (v2 : Int32) (v3 : Int32) (v4 : Int32) (o_me : Ob) (H : Heap) (locs : List Loc) (ls : Array Slot), rec_10_0 (v2, v3, v4, o_me) = some y → Wd dC dI A s.heap [wX9 h_me q_me k_me o_me] H locs → lv_has ls 7 [(0, .ref h_me), (2, .int v2), (3, .int v3), (4, .int v4)] → W p l e ({ frames := 2, cells := 0, slots := 0, locals := 46 } : Room) s m ([.ref h_me, .int p0, .int p1] : List Value).toArray below meth c H locs 0 0 Qz (F0 m 10 ls [])), ∀ (v2 : Int32) (v3 : Int32) (v4 : Int32) (s0 : Int64) (s1 : Int32) (o_me : Ob) (H : Heap) (locs : List Loc) (ls : Array Slot), bk_X9_reckonAll_204  rec_10_0 v2 v3 v4 s0 s1 o_me = some y → Wd dC dI A s.heap [wX9 h_me q_me k_me o_me] H locs → lv_has ls 7 [(0, .ref h_me), (2, .int v2), (3, .int v3), (4, .int v4)] → W p l e ({ frames := 2, cells := 0, slots := 0, locals := 46 } : Room) s m ([.ref h_me, .int p0, .int p1] : List Value).toArray below meth c H locs 0 0 Qz (F0 m 204 ls [.long s0, .int s1, .ref (q_me 37)]) := by
    intro rec_10_0 hrec_10_0
    intro v2 v3 v4 s0 s1 o_me H locs ls h hw hl
    unfold bk_X9_reckonAll_204 at h
    obtain ⟨g23, h⟩ := z_gd h
    refine fbX9_37 hx hb hK hw 0 rfl rfl g23 dX9_reckonAll_204 (fun H locs hw => ?_)
    obtain ⟨o24, eo24, h⟩ := z_lt h
    have hw : Wd dC dI A s.heap [wX9 h_me q_me k_me o24] H locs := by rw [eo24]; exact hw
    obtain ⟨x25, ex25, h⟩ := z_lt h
    refine lv_iinc (v := x25) (lv' := [(3, .int x25), (0, .ref h_me), (2, .int v2), (4, .int v4)]) hx hb dX9_reckonAll_205 hl (k := 2) rfl ((congrArg (v3 + ·) (show Int32.ofInt 1 = (1 : Int32) from by decide)).trans ex25.symm) (by decide) rfl (fun ls hl => ?_)
    refine lv_goto (tgt := 350) hx hb dX9_reckonAll_208 (by decide) ?_
    exact bk_350_6 rec_10_0 hrec_10_0 v2 x25 v4 o24 _ _ _ h hw (lv_sub hl [1, 2, 0, 3] rfl)
  have bk_95_4 : ∀ (rec_10_0 : Int32 × Int32 × Int32 × Ob → Option (Ob)) (hrec_10_0 : ∀ (v2 : Int32) (v3 : Int32) (v4 : Int32) (o_me : Ob) (H : Heap) (locs : List Loc) (ls : Array Slot), rec_10_0 (v2, v3, v4, o_me) = some y → Wd dC dI A s.heap [wX9 h_me q_me k_me o_me] H locs → lv_has ls 7 [(0, .ref h_me), (2, .int v2), (3, .int v3), (4, .int v4)] → W p l e ({ frames := 2, cells := 0, slots := 0, locals := 46 } : Room) s m ([.ref h_me, .int p0, .int p1] : List Value).toArray below meth c H locs 0 0 Qz (F0 m 10 ls [])), ∀ (v2 : Int32) (v3 : Int32) (v4 : Int32) (v5 : Int32) (s0 : Int32) (o_me : Ob) (H : Heap) (locs : List Loc) (ls : Array Slot), bk_X9_reckonAll_95  rec_10_0 v2 v3 v4 v5 s0 o_me = some y → Wd dC dI A s.heap [wX9 h_me q_me k_me o_me] H locs → lv_has ls 7 [(0, .ref h_me), (2, .int v2), (3, .int v3), (4, .int v4), (5, .int v5)] → W p l e ({ frames := 2, cells := 0, slots := 0, locals := 46 } : Room) s m ([.ref h_me, .int p0, .int p1] : List Value).toArray below meth c H locs 0 0 Qz (F0 m 95 ls [.int s0]) := by
    intro rec_10_0 hrec_10_0
    intro v2 v3 v4 v5 s0 o_me H locs ls h hw hl
    unfold bk_X9_reckonAll_95 at h
    refine lv_istore (lv' := [(6, .int s0), (0, .ref h_me), (2, .int v2), (3, .int v3), (4, .int v4), (5, .int v5)]) hx hb dX9_reckonAll_95 hl (by decide) rfl (fun ls hl => ?_)
    obtain ⟨x5, ex5, h⟩ := z_lt h
    refine lv_iinc (v := x5) (lv' := [(4, .int x5), (6, .int s0), (0, .ref h_me), (2, .int v2), (3, .int v3), (5, .int v5)]) hx hb dX9_reckonAll_97 hl (k := 4) rfl ((congrArg (v4 + ·) (show Int32.ofInt 1 = (1 : Int32) from by decide)).trans ex5.symm) (by decide) rfl (fun ls hl => ?_)
    refine lv_iload hx hb dX9_reckonAll_100 (lv_at hl 5 rfl) ?_
    refine lv_bipush (v := 20) hx hb dX9_reckonAll_102 (by decide) ?_
    refine lv_icmp_ge (tgt := 211) hx hb dX9_reckonAll_104 (by decide) (fun c => ?_) (fun c => ?_)
    · have h := z_t h c
      refine lv_iload hx hb dX9_reckonAll_211 (lv_at hl 5 rfl) ?_
      refine lv_bipush (v := 28) hx hb dX9_reckonAll_213 (by decide) ?_
      refine lv_icmp_ge (tgt := 288) hx hb dX9_reckonAll_215 (by decide) (fun c => ?_) (fun c => ?_)
      · have h := z_t h c
        refine lv_iload hx hb dX9_reckonAll_288 (lv_at hl 5 rfl) ?_
        refine lv_bipush (v := 28) hx hb dX9_reckonAll_290 (by decide) ?_
        refine lv_icmp_ne (tgt := 316) hx hb dX9_reckonAll_292 (by decide) (fun c => ?_) (fun c => ?_)
        · have h := z_f h c
          refine lv_aload_n hx hb dX9_reckonAll_316 rfl (lv_at hl 2 rfl) ?_
          refine fgX9_37 hx hb hts hown hK hw 0 rfl kw1213 dX9_reckonAll_317 ?_
          refine lv_iload_n hx hb dX9_reckonAll_320 rfl (lv_at hl 4 rfl) ?_
          refine lv_iconst (v := 1) hx hb dX9_reckonAll_321 (by decide) ?_
          refine lv_isub hx hb dX9_reckonAll_322 ?_
          obtain ⟨g6, h⟩ := z_gd h
          refine faX9_37 hx hb hK hw 0 rfl rfl g6 dX9_reckonAll_323 ?_
          refine lv_iload hx hb dX9_reckonAll_324 (lv_at hl 5 rfl) ?_
          refine lv_bipush (v := 29) hx hb dX9_reckonAll_326 (by decide) ?_
          refine lv_icmp_ne (tgt := 335) hx hb dX9_reckonAll_328 (by decide) (fun c => ?_) (fun c => ?_)
          · have h := z_f h c
            refine lv_lconst (v := 1) hx hb dX9_reckonAll_335 (by decide) ?_
            exact bk_336_5 rec_10_0 hrec_10_0 v2 v3 x5 s0 (1 : Int64) (gM o_me 37 (v3 - (1 : Int32)).toNatClampNeg) o_me _ _ _ h hw (lv_sub hl [2, 3, 4, 0, 1] rfl)
          · have h := z_t h c
            refine lv_lconst (v := 0) hx hb dX9_reckonAll_331 (by decide) ?_
            refine lv_goto (tgt := 336) hx hb dX9_reckonAll_332 (by decide) ?_
            exact bk_336_5 rec_10_0 hrec_10_0 v2 v3 x5 s0 (0 : Int64) (gM o_me 37 (v3 - (1 : Int32)).toNatClampNeg) o_me _ _ _ h hw (lv_sub hl [2, 3, 4, 0, 1] rfl)
        · have h := z_t h c
          refine lv_aload_n hx hb dX9_reckonAll_295 rfl (lv_at hl 2 rfl) ?_
          refine fgX9_37 hx hb hts hown hK hw 0 rfl kw1213 dX9_reckonAll_296 ?_
          refine lv_iload_n hx hb dX9_reckonAll_299 rfl (lv_at hl 4 rfl) ?_
          refine lv_iconst (v := 1) hx hb dX9_reckonAll_300 (by decide) ?_
          refine lv_isub hx hb dX9_reckonAll_301 ?_
          refine lv_lconst (v := 1) hx hb dX9_reckonAll_302 (by decide) ?_
          refine lv_aload_n hx hb dX9_reckonAll_303 rfl (lv_at hl 2 rfl) ?_
          refine fgX9_37 hx hb hts hown hK hw 0 rfl kw1213 dX9_reckonAll_304 ?_
          refine lv_iload_n hx hb dX9_reckonAll_307 rfl (lv_at hl 4 rfl) ?_
          refine lv_iconst (v := 1) hx hb dX9_reckonAll_308 (by decide) ?_
          refine lv_isub hx hb dX9_reckonAll_309 ?_
          obtain ⟨g8, h⟩ := z_gd h
          refine faX9_37 hx hb hK hw 0 rfl rfl g8 dX9_reckonAll_310 ?_
          refine lv_lsub hx hb dX9_reckonAll_311 ?_
          obtain ⟨g9, h⟩ := z_gd h
          refine fbX9_37 hx hb hK hw 0 rfl rfl g9 dX9_reckonAll_312 (fun H locs hw => ?_)
          obtain ⟨o10, eo10, h⟩ := z_lt h
          have hw : Wd dC dI A s.heap [wX9 h_me q_me k_me o10] H locs := by rw [eo10]; exact hw
          refine lv_goto (tgt := 350) hx hb dX9_reckonAll_313 (by decide) ?_
          exact bk_350_6 rec_10_0 hrec_10_0 v2 v3 x5 o10 _ _ _ h hw (lv_sub hl [2, 3, 4, 0] rfl)
      · have h := z_f h c
        obtain ⟨x11, ex11, h⟩ := z_lt h
        refine lv_iinc (v := x11) (lv' := [(3, .int x11), (4, .int x5), (6, .int s0), (0, .ref h_me), (2, .int v2), (5, .int v5)]) hx hb dX9_reckonAll_218 hl (k := 4) rfl ((congrArg (v3 + ·) (show Int32.ofInt (-1) = (-1 : Int32) from by decide)).trans ex11.symm) (by decide) rfl (fun ls hl => ?_)
        refine lv_aload_n hx hb dX9_reckonAll_221 rfl (lv_at hl 3 rfl) ?_
        refine fgX9_37 hx hb hts hown hK hw 0 rfl kw1213 dX9_reckonAll_222 ?_
        refine lv_iload_n hx hb dX9_reckonAll_225 rfl (lv_at hl 0 rfl) ?_
        refine lv_iconst (v := 1) hx hb dX9_reckonAll_226 (by decide) ?_
        refine lv_isub hx hb dX9_reckonAll_227 ?_
        refine lv_aload_n hx hb dX9_reckonAll_228 rfl (lv_at hl 3 rfl) ?_
        refine lv_iload hx hb dX9_reckonAll_229 (lv_at hl 5 rfl) ?_
        refine lv_aload_n hx hb dX9_reckonAll_231 rfl (lv_at hl 3 rfl) ?_
        refine fgX9_37 hx hb hts hown hK hw 0 rfl kw1213 dX9_reckonAll_232 ?_
        refine lv_iload_n hx hb dX9_reckonAll_235 rfl (lv_at hl 0 rfl) ?_
        refine lv_iconst (v := 1) hx hb dX9_reckonAll_236 (by decide) ?_
        refine lv_isub hx hb dX9_reckonAll_237 ?_
        obtain ⟨g12, h⟩ := z_gd h
        refine faX9_37 hx hb hK hw 0 rfl rfl g12 dX9_reckonAll_238 ?_
        refine lv_aload_n hx hb dX9_reckonAll_239 rfl (lv_at hl 3 rfl) ?_
        refine fgX9_37 hx hb hts hown hK hw 0 rfl kw1213 dX9_reckonAll_240 ?_
        refine lv_iload_n hx hb dX9_reckonAll_243 rfl (lv_at hl 0 rfl) ?_
        obtain ⟨g13, h⟩ := z_gd h
        refine faX9_37 hx hb hK hw 0 rfl rfl g13 dX9_reckonAll_244 ?_
        obtain ⟨z14, ez14, h⟩ := z_bd h
        refine xj_l (xrV (As := [.int v5, .long (gM o_me 37 (x11 - (1 : Int32)).toNatClampNeg), .long (gM o_me 37 x11.toNatClampNeg)]) (rest := [.int (x11 - (1 : Int32)), .ref (q_me 37)]) ⟨hx, hb, hml, hown, hts⟩ (m_X9_reckon l dC dI _ h_me q_me k_me o_me v5 (gM o_me 37 (x11 - (1 : Int32)).toNatClampNeg) (gM o_me 37 x11.toNatClampNeg) z14 ez14) kw1428 kw1425 kw1427 kw47 kw120 hd_X9_reckon ⟨rfl, rfl⟩ rfl rfl ⟨rfl, rfl⟩ hX hK hw [0] (by decide) rfl rfl rfl rfl rfl hl.1 rfl rfl dX9_reckonAll_245) hw hA [0] (by decide) rfl rfl (fun H locs hw => ?_)
        have hw : Wd dC dI A s.heap [wX9 h_me q_me k_me z14.2] H locs := hw
        obtain ⟨g15, h⟩ := z_gd h
        refine fbX9_37 hx hb hK hw 0 rfl rfl g15 dX9_reckonAll_248 (fun H locs hw => ?_)
        obtain ⟨o16, eo16, h⟩ := z_lt h
        have hw : Wd dC dI A s.heap [wX9 h_me q_me k_me o16] H locs := by rw [eo16]; exact hw
        refine lv_aload_n hx hb dX9_reckonAll_249 rfl (lv_at hl 3 rfl) ?_
        refine lv_aload_n hx hb dX9_reckonAll_250 rfl (lv_at hl 3 rfl) ?_
        refine fgX9_38 hx hb hts hown hK hw 0 rfl kw1214 dX9_reckonAll_251 ?_
        refine lv_if_ne (tgt := 277) hx hb dX9_reckonAll_254 (by decide) (fun c => ?_) (fun c => ?_)
        · have h := z_f h c
          exact bk_277_7 rec_10_0 hrec_10_0 v2 x11 x5 o16 _ _ _ h hw (lv_sub hl [3, 4, 0, 1] rfl)
        · have h := z_t h c
          refine lv_aload_n hx hb dX9_reckonAll_257 rfl (lv_at hl 3 rfl) ?_
          refine fgX9_37 hx hb hts hown hK hw 0 rfl kw1213 dX9_reckonAll_258 ?_
          refine lv_iload_n hx hb dX9_reckonAll_261 rfl (lv_at hl 0 rfl) ?_
          refine lv_iconst (v := 1) hx hb dX9_reckonAll_262 (by decide) ?_
          refine lv_isub hx hb dX9_reckonAll_263 ?_
          obtain ⟨g19, h⟩ := z_gd h
          refine faX9_37 hx hb hK hw 0 rfl rfl g19 dX9_reckonAll_264 ?_
          refine lv_ldc2 (v := (-1000000000)) hx hb hown (hts _ kw1429) dX9_reckonAll_265 ?_
          refine lv_ldc2 (v := 1000000000) hx hb hown (hts _ kw1430) dX9_reckonAll_268 ?_
          obtain ⟨z20, ez20, h⟩ := z_bd h
          refine xj_i (xrS (As := [.long (gM o16 37 (x11 - (1 : Int32)).toNatClampNeg), .long (-1000000000 : Int64), .long (1000000000 : Int64)]) (rest := [.ref h_me]) ⟨hx, hb, hml, hown, hts⟩ (m_X9_in l dC dI _  (gM o16 37 (x11 - (1 : Int32)).toNatClampNeg) (-1000000000 : Int64) (1000000000 : Int64) z20 ez20) kw1385 kw1383 kw1384 kw120 hd_X9_in ⟨rfl, rfl⟩ rfl rfl ⟨rfl, rfl⟩ hX hK hw [] (by decide) rfl rfl hl.1 rfl rfl dX9_reckonAll_271) hw hA [] (by decide) rfl rfl (fun H locs hw => ?_)
          refine lv_if_ne (tgt := 281) hx hb dX9_reckonAll_274 (by decide) (fun c => ?_) (fun c => ?_)
          · have h := z_f h c
            refine lv_iconst (v := 0) hx hb dX9_reckonAll_281 (by decide) ?_
            exact bk_282_8 rec_10_0 hrec_10_0 v2 x11 x5 (0 : Int32) o16 _ _ _ h hw (lv_sub hl [3, 4, 0, 1] rfl)
          · have h := z_t h c
            exact bk_277_7 rec_10_0 hrec_10_0 v2 x11 x5 o16 _ _ _ h hw (lv_sub hl [3, 4, 0, 1] rfl)
    · have h := z_f h c
      refine lv_aload_n hx hb dX9_reckonAll_107 rfl (lv_at hl 2 rfl) ?_
      refine fgX9_37 hx hb hts hown hK hw 0 rfl kw1213 dX9_reckonAll_108 ?_
      refine lv_iload_n hx hb dX9_reckonAll_111 rfl (lv_at hl 4 rfl) ?_
      refine lv_iload hx hb dX9_reckonAll_112 (lv_at hl 5 rfl) ?_
      refine lv_if_ne (tgt := 123) hx hb dX9_reckonAll_114 (by decide) (fun c => ?_) (fun c => ?_)
      · have h := z_f h c
        refine lv_aload_n hx hb dX9_reckonAll_123 rfl (lv_at hl 2 rfl) ?_
        refine fgX9_20 hx hb hts hown hK hw 0 rfl kw1196 dX9_reckonAll_124 ?_
        refine lv_if_ne (tgt := 140) hx hb dX9_reckonAll_127 (by decide) (fun c => ?_) (fun c => ?_)
        · have h := z_f h c
          refine lv_iload hx hb dX9_reckonAll_140 (lv_at hl 5 rfl) ?_
          refine lv_bipush (v := 6) hx hb dX9_reckonAll_142 (by decide) ?_
          refine lv_icmp_ge (tgt := 157) hx hb dX9_reckonAll_144 (by decide) (fun c => ?_) (fun c => ?_)
          · have h := z_t h c
            refine lv_aload_n hx hb dX9_reckonAll_157 rfl (lv_at hl 2 rfl) ?_
            refine lv_iload hx hb dX9_reckonAll_158 (lv_at hl 1 rfl) ?_
            obtain ⟨z21, ez21, h⟩ := z_bd h
            refine xj_i (xrV (As := [.int s0]) (rest := [.int v3, .ref (q_me 37)]) ⟨hx, hb, hml, hown, hts⟩ (m_X9_isPerson l dC dI _ h_me q_me k_me o_me s0 z21 ez21) kw1402 kw1399 kw1401 kw42 kw120 hd_X9_isPerson ⟨rfl, rfl⟩ rfl rfl ⟨rfl, rfl⟩ hX hK hw [0] (by decide) rfl rfl rfl rfl rfl hl.1 rfl rfl dX9_reckonAll_160) hw hA [0] (by decide) rfl rfl (fun H locs hw => ?_)
            have hw : Wd dC dI A s.heap [wX9 h_me q_me k_me o_me] H locs := hw
            refine lv_if_ne (tgt := 172) hx hb dX9_reckonAll_163 (by decide) (fun c => ?_) (fun c => ?_)
            · have h := z_f h c
              refine lv_iload hx hb dX9_reckonAll_172 (lv_at hl 5 rfl) ?_
              refine lv_bipush (v := 6) hx hb dX9_reckonAll_174 (by decide) ?_
              refine lv_icmp_ne (tgt := 193) hx hb dX9_reckonAll_176 (by decide) (fun c => ?_) (fun c => ?_)
              · have h := z_f h c
                refine lv_aload_n hx hb dX9_reckonAll_193 rfl (lv_at hl 2 rfl) ?_
                refine fgX9_3 hx hb hts hown hK hw 0 rfl kw1179 dX9_reckonAll_194 ?_
                refine lv_bipush (v := 8) hx hb dX9_reckonAll_197 (by decide) ?_
                refine lv_iload hx hb dX9_reckonAll_199 (lv_at hl 1 rfl) ?_
                refine lv_iadd hx hb dX9_reckonAll_201 ?_
                obtain ⟨g22, h⟩ := z_gd h
                refine faX9_3 hx hb hK hw 0 rfl rfl g22 dX9_reckonAll_202 ?_
                refine lv_i2l hx hb dX9_reckonAll_203 rfl ?_
                exact bk_204_9 rec_10_0 hrec_10_0 v2 v3 x5 ((gA o_me 3 ((8 : Int32) + s0).toNatClampNeg).toInt64) v3 o_me _ _ _ h hw (lv_sub hl [2, 3, 4, 0] rfl)
              · have h := z_t h c
                refine lv_aload_n hx hb dX9_reckonAll_179 rfl (lv_at hl 2 rfl) ?_
                refine fgX9_3 hx hb hts hown hK hw 0 rfl kw1179 dX9_reckonAll_180 ?_
                refine lv_bipush (v := 15) hx hb dX9_reckonAll_183 (by decide) ?_
                refine lv_iload hx hb dX9_reckonAll_185 (lv_at hl 1 rfl) ?_
                refine lv_iadd hx hb dX9_reckonAll_187 ?_
                obtain ⟨g26, h⟩ := z_gd h
                refine faX9_3 hx hb hK hw 0 rfl rfl g26 dX9_reckonAll_188 ?_
                refine lv_i2l hx hb dX9_reckonAll_189 rfl ?_
                refine lv_goto (tgt := 204) hx hb dX9_reckonAll_190 (by decide) ?_
                exact bk_204_9 rec_10_0 hrec_10_0 v2 v3 x5 ((gA o_me 3 ((15 : Int32) + s0).toNatClampNeg).toInt64) v3 o_me _ _ _ h hw (lv_sub hl [2, 3, 4, 0] rfl)
            · have h := z_t h c
              refine lv_ldc2 (v := (-1)) hx hb hown (hts _ kw1424) dX9_reckonAll_166 ?_
              refine lv_goto (tgt := 204) hx hb dX9_reckonAll_169 (by decide) ?_
              exact bk_204_9 rec_10_0 hrec_10_0 v2 v3 x5 (-1 : Int64) v3 o_me _ _ _ h hw (lv_sub hl [2, 3, 4, 0] rfl)
          · have h := z_f h c
            refine lv_aload_n hx hb dX9_reckonAll_147 rfl (lv_at hl 2 rfl) ?_
            refine fgX9_36 hx hb hts hown hK hw 0 rfl kw1212 dX9_reckonAll_148 ?_
            refine lv_iload hx hb dX9_reckonAll_151 (lv_at hl 5 rfl) ?_
            obtain ⟨g27, h⟩ := z_gd h
            refine faX9_36 hx hb hK hw 0 rfl rfl g27 dX9_reckonAll_153 ?_
            refine lv_goto (tgt := 204) hx hb dX9_reckonAll_154 (by decide) ?_
            exact bk_204_9 rec_10_0 hrec_10_0 v2 v3 x5 (gM o_me 36 v5.toNatClampNeg) v3 o_me _ _ _ h hw (lv_sub hl [2, 3, 4, 0] rfl)
        · have h := z_t h c
          refine lv_aload_n hx hb dX9_reckonAll_130 rfl (lv_at hl 2 rfl) ?_
          refine fgX9_35 hx hb hts hown hK hw 0 rfl kw1211 dX9_reckonAll_131 ?_
          refine lv_iload hx hb dX9_reckonAll_134 (lv_at hl 5 rfl) ?_
          obtain ⟨g28, h⟩ := z_gd h
          refine faX9_35 hx hb hK hw 0 rfl rfl g28 dX9_reckonAll_136 ?_
          refine lv_goto (tgt := 204) hx hb dX9_reckonAll_137 (by decide) ?_
          exact bk_204_9 rec_10_0 hrec_10_0 v2 v3 x5 (gM o_me 35 v5.toNatClampNeg) v3 o_me _ _ _ h hw (lv_sub hl [2, 3, 4, 0] rfl)
      · have h := z_t h c
        refine lv_iload hx hb dX9_reckonAll_117 (lv_at hl 1 rfl) ?_
        refine lv_i2l hx hb dX9_reckonAll_119 rfl ?_
        refine lv_goto (tgt := 204) hx hb dX9_reckonAll_120 (by decide) ?_
        exact bk_204_9 rec_10_0 hrec_10_0 v2 v3 x5 s0.toInt64 v3 o_me _ _ _ h hw (lv_sub hl [2, 3, 4, 0] rfl)
  have bk_57_3 : ∀ (rec_10_0 : Int32 × Int32 × Int32 × Ob → Option (Ob)) (hrec_10_0 : ∀ (v2 : Int32) (v3 : Int32) (v4 : Int32) (o_me : Ob) (H : Heap) (locs : List Loc) (ls : Array Slot), rec_10_0 (v2, v3, v4, o_me) = some y → Wd dC dI A s.heap [wX9 h_me q_me k_me o_me] H locs → lv_has ls 7 [(0, .ref h_me), (2, .int v2), (3, .int v3), (4, .int v4)] → W p l e ({ frames := 2, cells := 0, slots := 0, locals := 46 } : Room) s m ([.ref h_me, .int p0, .int p1] : List Value).toArray below meth c H locs 0 0 Qz (F0 m 10 ls [])), ∀ (v2 : Int32) (v3 : Int32) (v4 : Int32) (s0 : Int32) (o_me : Ob) (H : Heap) (locs : List Loc) (ls : Array Slot), bk_X9_reckonAll_57  rec_10_0 v2 v3 v4 s0 o_me = some y → Wd dC dI A s.heap [wX9 h_me q_me k_me o_me] H locs → lv_has ls 7 [(0, .ref h_me), (2, .int v2), (3, .int v3), (4, .int v4)] → W p l e ({ frames := 2, cells := 0, slots := 0, locals := 46 } : Room) s m ([.ref h_me, .int p0, .int p1] : List Value).toArray below meth c H locs 0 0 Qz (F0 m 57 ls [.int s0]) := by
    intro rec_10_0 hrec_10_0
    intro v2 v3 v4 s0 o_me H locs ls h hw hl
    unfold bk_X9_reckonAll_57 at h
    refine lv_istore (lv' := [(5, .int s0), (0, .ref h_me), (2, .int v2), (3, .int v3), (4, .int v4)]) hx hb dX9_reckonAll_57 hl (by decide) rfl (fun ls hl => ?_)
    refine lv_aload_n hx hb dX9_reckonAll_59 rfl (lv_at hl 1 rfl) ?_
    refine fgX9_20 hx hb hts hown hK hw 0 rfl kw1196 dX9_reckonAll_60 ?_
    refine lv_if_eq (tgt := 76) hx hb dX9_reckonAll_63 (by decide) (fun c => ?_) (fun c => ?_)
    · have h := z_t h c
      refine lv_aload_n hx hb dX9_reckonAll_76 rfl (lv_at hl 1 rfl) ?_
      refine fgX9_3 hx hb hts hown hK hw 0 rfl kw1179 dX9_reckonAll_77 ?_
      refine lv_aload_n hx hb dX9_reckonAll_80 rfl (lv_at hl 1 rfl) ?_
      refine fgX9_34 hx hb hts hown hK hw 0 rfl kw1210 dX9_reckonAll_81 ?_
      refine lv_bipush (v := 98) hx hb dX9_reckonAll_84 (by decide) ?_
      refine lv_iadd hx hb dX9_reckonAll_86 ?_
      refine lv_iconst (v := 2) hx hb dX9_reckonAll_87 (by decide) ?_
      refine lv_iload hx hb dX9_reckonAll_88 (lv_at hl 4 rfl) ?_
      refine lv_imul hx hb dX9_reckonAll_90 ?_
      refine lv_iadd hx hb dX9_reckonAll_91 ?_
      refine lv_iconst (v := 1) hx hb dX9_reckonAll_92 (by decide) ?_
      refine lv_iadd hx hb dX9_reckonAll_93 ?_
      obtain ⟨g4, h⟩ := z_gd h
      refine faX9_3 hx hb hK hw 0 rfl rfl g4 dX9_reckonAll_94 ?_
      exact bk_95_4 rec_10_0 hrec_10_0 v2 v3 v4 s0 (gA o_me 3 ((((gI o_me 34) + (98 : Int32)) + ((2 : Int32) * v4)) + (1 : Int32)).toNatClampNeg) o_me _ _ _ h hw (lv_sub hl [1, 2, 3, 4, 0] rfl)
    · have h := z_f h c
      refine lv_aload_n hx hb dX9_reckonAll_66 rfl (lv_at hl 1 rfl) ?_
      refine fgX9_25 hx hb hts hown hK hw 0 rfl kw1201 dX9_reckonAll_67 ?_
      refine lv_iload hx hb dX9_reckonAll_70 (lv_at hl 4 rfl) ?_
      obtain ⟨g29, h⟩ := z_gd h
      refine faX9_25 hx hb hK hw 0 rfl rfl g29 dX9_reckonAll_72 ?_
      refine lv_goto (tgt := 95) hx hb dX9_reckonAll_73 (by decide) ?_
      exact bk_95_4 rec_10_0 hrec_10_0 v2 v3 v4 s0 (gA o_me 25 v4.toNatClampNeg) o_me _ _ _ h hw (lv_sub hl [1, 2, 3, 4, 0] rfl)
  have lp_10_0 : ∀ (N : Nat), ∀ (v2 : Int32) (v3 : Int32) (v4 : Int32) (o_me : Ob) (H : Heap) (locs : List Loc) (ls : Array Slot), lp_X9_reckonAll_10   N (v2, v3, v4, o_me) = some y → Wd dC dI A s.heap [wX9 h_me q_me k_me o_me] H locs → lv_has ls 7 [(0, .ref h_me), (2, .int v2), (3, .int v3), (4, .int v4)] → W p l e ({ frames := 2, cells := 0, slots := 0, locals := 46 } : Room) s m ([.ref h_me, .int p0, .int p1] : List Value).toArray below meth c H locs 0 0 Qz (F0 m 10 ls []) := by
    intro N
    induction N with
    | zero =>
      intro v2 v3 v4 o_me H locs ls h hw hl
      exact absurd (show (none : Option (Ob)) = some y from h) (by simp)
    | succ N ih =>
      intro v2 v3 v4 o_me H locs ls h hw hl
      have h : lb_X9_reckonAll_10   (lp_X9_reckonAll_10   N) v2 v3 v4 o_me = some y := h
      unfold lb_X9_reckonAll_10 at h
      refine lv_iload hx hb dX9_reckonAll_10 (lv_at hl 3 rfl) ?_
      refine lv_iload_n hx hb dX9_reckonAll_12 rfl (lv_at hl 1 rfl) ?_
      refine lv_icmp_ge (tgt := 353) hx hb dX9_reckonAll_13 (by decide) (fun c => ?_) (fun c => ?_)
      · have h := z_t h c
        exact bk_353_1  v3 o_me _ _ _ h hw (lv_sub hl [0, 2] rfl)
      · have h := z_f h c
        refine lv_aload_n hx hb dX9_reckonAll_16 rfl (lv_at hl 0 rfl) ?_
        refine fgX9_38 hx hb hts hown hK hw 0 rfl kw1214 dX9_reckonAll_17 ?_
        refine lv_if_ne (tgt := 353) hx hb dX9_reckonAll_20 (by decide) (fun c => ?_) (fun c => ?_)
        · have h := z_f h c
          exact bk_353_1  v3 o_me _ _ _ h hw (lv_sub hl [0, 2] rfl)
        · have h := z_t h c
          refine lv_aload_n hx hb dX9_reckonAll_23 rfl (lv_at hl 0 rfl) ?_
          refine fgX9_20 hx hb hts hown hK hw 0 rfl kw1196 dX9_reckonAll_24 ?_
          refine lv_if_eq (tgt := 40) hx hb dX9_reckonAll_27 (by decide) (fun c => ?_) (fun c => ?_)
          · have h := z_t h c
            refine lv_aload_n hx hb dX9_reckonAll_40 rfl (lv_at hl 0 rfl) ?_
            refine fgX9_3 hx hb hts hown hK hw 0 rfl kw1179 dX9_reckonAll_41 ?_
            refine lv_aload_n hx hb dX9_reckonAll_44 rfl (lv_at hl 0 rfl) ?_
            refine fgX9_34 hx hb hts hown hK hw 0 rfl kw1210 dX9_reckonAll_45 ?_
            refine lv_bipush (v := 98) hx hb dX9_reckonAll_48 (by decide) ?_
            refine lv_iadd hx hb dX9_reckonAll_50 ?_
            refine lv_iconst (v := 2) hx hb dX9_reckonAll_51 (by decide) ?_
            refine lv_iload hx hb dX9_reckonAll_52 (lv_at hl 3 rfl) ?_
            refine lv_imul hx hb dX9_reckonAll_54 ?_
            refine lv_iadd hx hb dX9_reckonAll_55 ?_
            obtain ⟨g3, h⟩ := z_gd h
            refine faX9_3 hx hb hK hw 0 rfl rfl g3 dX9_reckonAll_56 ?_
            exact bk_57_3 (lp_X9_reckonAll_10   N) ih v2 v3 v4 (gA o_me 3 (((gI o_me 34) + (98 : Int32)) + ((2 : Int32) * v4)).toNatClampNeg) o_me _ _ _ h hw (lv_sub hl [0, 1, 2, 3] rfl)
          · have h := z_f h c
            refine lv_aload_n hx hb dX9_reckonAll_30 rfl (lv_at hl 0 rfl) ?_
            refine fgX9_24 hx hb hts hown hK hw 0 rfl kw1200 dX9_reckonAll_31 ?_
            refine lv_iload hx hb dX9_reckonAll_34 (lv_at hl 3 rfl) ?_
            obtain ⟨g30, h⟩ := z_gd h
            refine faX9_24 hx hb hK hw 0 rfl rfl g30 dX9_reckonAll_36 ?_
            refine lv_goto (tgt := 57) hx hb dX9_reckonAll_37 (by decide) ?_
            exact bk_57_3 (lp_X9_reckonAll_10   N) ih v2 v3 v4 (gA o_me 24 v4.toNatClampNeg) o_me _ _ _ h hw (lv_sub hl [0, 1, 2, 3] rfl)
  unfold f_X9_reckonAll at h
  refine lv_aload_n hx hb dX9_reckonAll_0 rfl (lv_at hl 0 rfl) ?_
  refine lv_iconst (v := 0) hx hb dX9_reckonAll_1 (by decide) ?_
  refine fpX9_38 hx hb hts hown hK hw 0 rfl kw1214 (by decide) dX9_reckonAll_2 (fun H locs hw => ?_)
  obtain ⟨o1, eo1, h⟩ := z_lt h
  have hw : Wd dC dI A s.heap [wX9 h_me q_me k_me o1] H locs := by rw [eo1]; exact hw
  refine lv_iconst (v := 0) hx hb dX9_reckonAll_5 (by decide) ?_
  refine lv_istore_n (lv' := [(3, .int (0 : Int32)), (0, .ref h_me), (1, .int p0), (2, .int p1)]) hx hb dX9_reckonAll_6 rfl hl (by decide) rfl (fun ls hl => ?_)
  refine lv_iload_n hx hb dX9_reckonAll_7 rfl (lv_at hl 2 rfl) ?_
  refine lv_istore (lv' := [(4, .int p0), (3, .int (0 : Int32)), (0, .ref h_me), (1, .int p0), (2, .int p1)]) hx hb dX9_reckonAll_8 hl (by decide) rfl (fun ls hl => ?_)
  exact lp_10_0  zfu p1 (0 : Int32) p0 o1 _ _ _ h hw (lv_sub hl [2, 4, 1, 0] rfl)

def bk_X9_isSo_59   (v1 : Int32) (o_me : Ob) : Option (Int32 × Ob) :=
  zgd (zin v1 5484) <|
  if (gA o_me 3 v1.toNatClampNeg) = (3 : Int32) then
  (some ((1 : Int32), o_me))
  else
  (zgd (zin (v1 + (3 : Int32)) 5484) <|
  zgd (zin (v1 + (4 : Int32)) 5484) <|
  (f_X9_reckonAll o_me (gA o_me 3 (v1 + (3 : Int32)).toNatClampNeg) (gA o_me 3 (v1 + (4 : Int32)).toNatClampNeg)).bind fun z6 =>
  zlt (sL z6 40 (gL z6 39)) fun o7 =>
  if (gI o7 38) = (0 : Int32) then
  (some ((1 : Int32), o7))
  else
  (some ((0 : Int32), o7)))
def f_X9_isSo (o_me : Ob) (p0 : Int32) : Option (Int32 × Ob) :=
  zgd (zin (p0 + (5 : Int32)) 5484) <|
  zgd (zin (p0 + (6 : Int32)) 5484) <|
  if (gA o_me 3 (p0 + (6 : Int32)).toNatClampNeg) ≤ (gA o_me 3 (p0 + (5 : Int32)).toNatClampNeg) then
  (bk_X9_isSo_59   p0 o_me)
  else
  (zgd (zin (p0 + (5 : Int32)) 5484) <|
  zgd (zin (p0 + (6 : Int32)) 5484) <|
  (f_X9_reckonAll o_me (gA o_me 3 (p0 + (5 : Int32)).toNatClampNeg) (gA o_me 3 (p0 + (6 : Int32)).toNatClampNeg)).bind fun z10 =>
  if (gI z10 38) = (0 : Int32) then
  (if (lg_cmp (gL z10 39) (0 : Int64)) = (0 : Int32) then
  (some ((0 : Int32), z10))
  else
  (bk_X9_isSo_59   p0 z10))
  else
  (some ((0 : Int32), z10)))
set_option maxHeartbeats 4000000 in
set_option maxRecDepth 100000 in
theorem m_X9_isSo (l : Launch) (dC : Nat → ClassId) (dI : Nat → Nat → Nat) (sz : Nat) (h_me : Nat) (q_me : Nat → Nat) (k_me : Nat → ClassId) (o_me : Ob) (p0 : Int32) (y : Int32 × Ob) (h : f_X9_isSo o_me p0 = some y) : CI l yX9_isSo cX9_isSo 2 (some .boolean) ({ frames := 3, cells := 0, slots := 0, locals := 72 } : Room) dC dI sz [.ref h_me, .int p0] [wX9 h_me q_me k_me o_me] [tX9 k_me] y.1 [wX9 h_me q_me k_me y.2] := by
  refine CC_of (by decide) (Nat.le_of_ble_eq_true rfl) ?_
  intro p e s m below meth c A ls hx hb hml hr hlk hnm hown hts hX hK hP hD hA hl
  have hl : lv_has ls 2 [(0, .ref h_me), (1, .int p0)] := hl
  have hown : s.vm.findClass RX9 = some m.cls := hown
  have hw : Wd dC dI A s.heap [wX9 h_me q_me k_me o_me] s.heap [] := ⟨hP, hD, va_S.rf⟩
  generalize hQz : (MQ below (QI dC dI (fun r (_ : Unit) => r = y.1) (fun _ => Jn [wX9 h_me q_me k_me y.2]) (fun _ => Jt [tX9 k_me]) A) ([.ref h_me, .int p0] : List Value).toArray s 0 0 A) = Qz
  clear hP hD hnm
  have bk_59_0 : ∀ (v1 : Int32) (o_me : Ob) (H : Heap) (locs : List Loc) (ls : Array Slot), bk_X9_isSo_59   v1 o_me = some y → Wd dC dI A s.heap [wX9 h_me q_me k_me o_me] H locs → lv_has ls 2 [(0, .ref h_me), (1, .int v1)] → W p l e ({ frames := 3, cells := 0, slots := 0, locals := 72 } : Room) s m ([.ref h_me, .int p0] : List Value).toArray below meth c H locs 0 0 Qz (F0 m 59 ls []) := by
    intro v1 o_me H locs ls h hw hl
    unfold bk_X9_isSo_59 at h
    refine lv_aload_n hx hb dX9_isSo_59 rfl (lv_at hl 0 rfl) ?_
    refine fgX9_3 hx hb hts hown hK hw 0 rfl kw1179 dX9_isSo_60 ?_
    refine lv_iload_n hx hb dX9_isSo_63 rfl (lv_at hl 1 rfl) ?_
    obtain ⟨g3, h⟩ := z_gd h
    refine faX9_3 hx hb hK hw 0 rfl rfl g3 dX9_isSo_64 ?_
    refine lv_iconst (v := 3) hx hb dX9_isSo_65 (by decide) ?_
    refine lv_icmp_eq (tgt := 110) hx hb dX9_isSo_66 (by decide) (fun c => ?_) (fun c => ?_)
    · have h := z_t h c
      refine lv_iconst (v := 1) hx hb dX9_isSo_110 (by decide) ?_
      have hy := Option.some.inj h
      rw [← hQz, ← hy]
      exact xr_i (v := (1 : Int32)) hx hb hr rfl hlk hK hw dX9_isSo_111
    · have h := z_f h c
      refine lv_aload_n hx hb dX9_isSo_69 rfl (lv_at hl 0 rfl) ?_
      refine lv_aload_n hx hb dX9_isSo_70 rfl (lv_at hl 0 rfl) ?_
      refine fgX9_3 hx hb hts hown hK hw 0 rfl kw1179 dX9_isSo_71 ?_
      refine lv_iload_n hx hb dX9_isSo_74 rfl (lv_at hl 1 rfl) ?_
      refine lv_iconst (v := 3) hx hb dX9_isSo_75 (by decide) ?_
      refine lv_iadd hx hb dX9_isSo_76 ?_
      obtain ⟨g4, h⟩ := z_gd h
      refine faX9_3 hx hb hK hw 0 rfl rfl g4 dX9_isSo_77 ?_
      refine lv_aload_n hx hb dX9_isSo_78 rfl (lv_at hl 0 rfl) ?_
      refine fgX9_3 hx hb hts hown hK hw 0 rfl kw1179 dX9_isSo_79 ?_
      refine lv_iload_n hx hb dX9_isSo_82 rfl (lv_at hl 1 rfl) ?_
      refine lv_iconst (v := 4) hx hb dX9_isSo_83 (by decide) ?_
      refine lv_iadd hx hb dX9_isSo_84 ?_
      obtain ⟨g5, h⟩ := z_gd h
      refine faX9_3 hx hb hK hw 0 rfl rfl g5 dX9_isSo_85 ?_
      obtain ⟨z6, ez6, h⟩ := z_bd h
      refine xj_v (xrV (As := [.int (gA o_me 3 (v1 + (3 : Int32)).toNatClampNeg), .int (gA o_me 3 (v1 + (4 : Int32)).toNatClampNeg)]) (rest := []) ⟨hx, hb, hml, hown, hts⟩ (m_X9_reckonAll l dC dI _ h_me q_me k_me o_me (gA o_me 3 (v1 + (3 : Int32)).toNatClampNeg) (gA o_me 3 (v1 + (4 : Int32)).toNatClampNeg) z6 ez6) kw1423 kw1420 kw1422 kw46 kw120 hd_X9_reckonAll ⟨rfl, rfl⟩ rfl rfl ⟨rfl, rfl⟩ hX hK hw [0] (by decide) rfl rfl rfl rfl rfl hl.1 rfl rfl dX9_isSo_86) hw hA [0] (by decide) rfl rfl (fun H locs hw => ?_)
      have hw : Wd dC dI A s.heap [wX9 h_me q_me k_me z6] H locs := hw
      refine lv_aload_n hx hb dX9_isSo_89 rfl (lv_at hl 0 rfl) ?_
      refine lv_aload_n hx hb dX9_isSo_90 rfl (lv_at hl 0 rfl) ?_
      refine fgX9_39 hx hb hts hown hK hw 0 rfl kw1215 dX9_isSo_91 ?_
      refine fpX9_40 hx hb hts hown hK hw 0 rfl kw1216 dX9_isSo_94 (fun H locs hw => ?_)
      obtain ⟨o7, eo7, h⟩ := z_lt h
      have hw : Wd dC dI A s.heap [wX9 h_me q_me k_me o7] H locs := by rw [eo7]; exact hw
      refine lv_aload_n hx hb dX9_isSo_97 rfl (lv_at hl 0 rfl) ?_
      refine fgX9_38 hx hb hts hown hK hw 0 rfl kw1214 dX9_isSo_98 ?_
      refine lv_if_ne (tgt := 108) hx hb dX9_isSo_101 (by decide) (fun c => ?_) (fun c => ?_)
      · have h := z_f h c
        refine lv_iconst (v := 0) hx hb dX9_isSo_108 (by decide) ?_
        have hy := Option.some.inj h
        rw [← hQz, ← hy]
        exact xr_i (v := (0 : Int32)) hx hb hr rfl hlk hK hw dX9_isSo_109
      · have h := z_t h c
        refine lv_iconst (v := 1) hx hb dX9_isSo_104 (by decide) ?_
        refine lv_goto (tgt := 109) hx hb dX9_isSo_105 (by decide) ?_
        have hy := Option.some.inj h
        rw [← hQz, ← hy]
        exact xr_i (v := (1 : Int32)) hx hb hr rfl hlk hK hw dX9_isSo_109
  unfold f_X9_isSo at h
  refine lv_aload_n hx hb dX9_isSo_0 rfl (lv_at hl 0 rfl) ?_
  refine fgX9_3 hx hb hts hown hK hw 0 rfl kw1179 dX9_isSo_1 ?_
  refine lv_iload_n hx hb dX9_isSo_4 rfl (lv_at hl 1 rfl) ?_
  refine lv_iconst (v := 5) hx hb dX9_isSo_5 (by decide) ?_
  refine lv_iadd hx hb dX9_isSo_6 ?_
  obtain ⟨g1, h⟩ := z_gd h
  refine faX9_3 hx hb hK hw 0 rfl rfl g1 dX9_isSo_7 ?_
  refine lv_aload_n hx hb dX9_isSo_8 rfl (lv_at hl 0 rfl) ?_
  refine fgX9_3 hx hb hts hown hK hw 0 rfl kw1179 dX9_isSo_9 ?_
  refine lv_iload_n hx hb dX9_isSo_12 rfl (lv_at hl 1 rfl) ?_
  refine lv_bipush (v := 6) hx hb dX9_isSo_13 (by decide) ?_
  refine lv_iadd hx hb dX9_isSo_15 ?_
  obtain ⟨g2, h⟩ := z_gd h
  refine faX9_3 hx hb hK hw 0 rfl rfl g2 dX9_isSo_16 ?_
  refine lv_icmp_ge (tgt := 59) hx hb dX9_isSo_17 (by decide) (fun c => ?_) (fun c => ?_)
  · have h := z_t h c
    exact bk_59_0  p0 o_me _ _ _ h hw (lv_sub hl [0, 1] rfl)
  · have h := z_f h c
    refine lv_aload_n hx hb dX9_isSo_20 rfl (lv_at hl 0 rfl) ?_
    refine lv_aload_n hx hb dX9_isSo_21 rfl (lv_at hl 0 rfl) ?_
    refine fgX9_3 hx hb hts hown hK hw 0 rfl kw1179 dX9_isSo_22 ?_
    refine lv_iload_n hx hb dX9_isSo_25 rfl (lv_at hl 1 rfl) ?_
    refine lv_iconst (v := 5) hx hb dX9_isSo_26 (by decide) ?_
    refine lv_iadd hx hb dX9_isSo_27 ?_
    obtain ⟨g8, h⟩ := z_gd h
    refine faX9_3 hx hb hK hw 0 rfl rfl g8 dX9_isSo_28 ?_
    refine lv_aload_n hx hb dX9_isSo_29 rfl (lv_at hl 0 rfl) ?_
    refine fgX9_3 hx hb hts hown hK hw 0 rfl kw1179 dX9_isSo_30 ?_
    refine lv_iload_n hx hb dX9_isSo_33 rfl (lv_at hl 1 rfl) ?_
    refine lv_bipush (v := 6) hx hb dX9_isSo_34 (by decide) ?_
    refine lv_iadd hx hb dX9_isSo_36 ?_
    obtain ⟨g9, h⟩ := z_gd h
    refine faX9_3 hx hb hK hw 0 rfl rfl g9 dX9_isSo_37 ?_
    obtain ⟨z10, ez10, h⟩ := z_bd h
    refine xj_v (xrV (As := [.int (gA o_me 3 (p0 + (5 : Int32)).toNatClampNeg), .int (gA o_me 3 (p0 + (6 : Int32)).toNatClampNeg)]) (rest := []) ⟨hx, hb, hml, hown, hts⟩ (m_X9_reckonAll l dC dI _ h_me q_me k_me o_me (gA o_me 3 (p0 + (5 : Int32)).toNatClampNeg) (gA o_me 3 (p0 + (6 : Int32)).toNatClampNeg) z10 ez10) kw1423 kw1420 kw1422 kw46 kw120 hd_X9_reckonAll ⟨rfl, rfl⟩ rfl rfl ⟨rfl, rfl⟩ hX hK hw [0] (by decide) rfl rfl rfl rfl rfl hl.1 rfl rfl dX9_isSo_38) hw hA [0] (by decide) rfl rfl (fun H locs hw => ?_)
    have hw : Wd dC dI A s.heap [wX9 h_me q_me k_me z10] H locs := hw
    refine lv_aload_n hx hb dX9_isSo_41 rfl (lv_at hl 0 rfl) ?_
    refine fgX9_38 hx hb hts hown hK hw 0 rfl kw1214 dX9_isSo_42 ?_
    refine lv_if_ne (tgt := 57) hx hb dX9_isSo_45 (by decide) (fun c => ?_) (fun c => ?_)
    · have h := z_f h c
      refine lv_iconst (v := 0) hx hb dX9_isSo_57 (by decide) ?_
      have hy := Option.some.inj h
      rw [← hQz, ← hy]
      exact xr_i (v := (0 : Int32)) hx hb hr rfl hlk hK hw dX9_isSo_58
    · have h := z_t h c
      refine lv_aload_n hx hb dX9_isSo_48 rfl (lv_at hl 0 rfl) ?_
      refine fgX9_39 hx hb hts hown hK hw 0 rfl kw1215 dX9_isSo_49 ?_
      refine lv_lconst (v := 0) hx hb dX9_isSo_52 (by decide) ?_
      refine W.lcmp hx hb dX9_isSo_53 ?_
      refine lv_if_ne (tgt := 59) hx hb dX9_isSo_54 (by decide) (fun c => ?_) (fun c => ?_)
      · have h := z_f h c
        exact bk_59_0  p0 z10 _ _ _ h hw (lv_sub hl [0, 1] rfl)
      · have h := z_t h c
        refine lv_iconst (v := 0) hx hb dX9_isSo_57 (by decide) ?_
        have hy := Option.some.inj h
        rw [← hQz, ← hy]
        exact xr_i (v := (0 : Int32)) hx hb hr rfl hlk hK hw dX9_isSo_58

def bk_X9_tells_224  (rec_159_0 : Int32 × Int64 × Int32 × Ob → Option (Int64 × Ob)) (v1 : Int32) (v7 : Int64) (v9 : Int32) (o_me : Ob) : Option (Int64 × Ob) :=
  zlt (v9 + (1 : Int32)) fun x17 =>
  rec_159_0 (v1, v7, x17, o_me)
def bk_X9_tells_222  (rec_159_0 : Int32 × Int64 × Int32 × Ob → Option (Int64 × Ob)) (v1 : Int32) (v9 : Int32) (s0 : Int64) (o_me : Ob) : Option (Int64 × Ob) :=
  bk_X9_tells_224  rec_159_0 v1 s0 v9 o_me
def lb_X9_tells_159   (rec_159_0 : Int32 × Int64 × Int32 × Ob → Option (Int64 × Ob)) (v1 : Int32) (v7 : Int64) (v9 : Int32) (o_me : Ob) : Option (Int64 × Ob) :=
  zgd (zin ((gI o_me 34) + (1 : Int32)) 5484) <|
  if (gA o_me 3 ((gI o_me 34) + (1 : Int32)).toNatClampNeg) ≤ v9 then
  (some (v7, o_me))
  else
  (zlt (((gI o_me 34) + (2 : Int32)) + ((8 : Int32) * v9)) fun x15 =>
  zgd (zin x15 5484) <|
  if (gA o_me 3 x15.toNatClampNeg) = v1 then
  ((f_X9_isSo o_me x15).bind fun z18 =>
  if z18.1 = (0 : Int32) then
  (bk_X9_tells_224  rec_159_0 v1 v7 v9 z18.2)
  else
  (if v1 = (3 : Int32) then
  (bk_X9_tells_222  rec_159_0 v1 v9 (1 : Int64) z18.2)
  else
  (bk_X9_tells_222  rec_159_0 v1 v9 (gL z18.2 40) z18.2)))
  else
  (bk_X9_tells_224  rec_159_0 v1 v7 v9 o_me))
def lp_X9_tells_159   : Nat → (Int32 × Int64 × Int32 × Ob) → Option (Int64 × Ob) := zit (fun rec a => lb_X9_tells_159   rec a.1 a.2.1 a.2.2.1 a.2.2.2)
def f_X9_tells (o_me : Ob) (p0 : Int32) (p1 : Int32) (p2 : Int32) (p3 : Int32) (p4 : Int64) : Option (Int64 × Ob) :=
  if (gA o_me 3 (3 : Int32).toNatClampNeg) = (-1 : Int32) then
  (some (p4, o_me))
  else
  (zlt (sI o_me 34 ((84 : Int32) + ((900 : Int32) * (gA o_me 3 (3 : Int32).toNatClampNeg)))) fun o1 =>
  zlt (tM o1 35 (1 : Int32).toNatClampNeg p1.toInt64) fun o2 =>
  zlt (tM o2 35 (2 : Int32).toNatClampNeg p2.toInt64) fun o3 =>
  zgd (zin (((36 : Int32) + ((4 : Int32) * p1)) + p2) 5484) <|
  zlt (tM o3 35 (3 : Int32).toNatClampNeg ((gA o3 3 (((36 : Int32) + ((4 : Int32) * p1)) + p2).toNatClampNeg).toInt64)) fun o5 =>
  zgd (zin ((8 : Int32) + p1) 5484) <|
  zlt (tM o5 35 (4 : Int32).toNatClampNeg ((gA o5 3 ((8 : Int32) + p1).toNatClampNeg).toInt64)) fun o7 =>
  zgd (zin ((15 : Int32) + p1) 5484) <|
  zlt (tM o7 35 (5 : Int32).toNatClampNeg ((gA o7 3 ((15 : Int32) + p1).toNatClampNeg).toInt64)) fun o9 =>
  zlt (tM o9 35 (6 : Int32).toNatClampNeg p3.toInt64) fun o10 =>
  zlt (tM o10 35 (7 : Int32).toNatClampNeg ((gA o10 3 (7 : Int32).toNatClampNeg).toInt64)) fun o11 =>
  zlt (tM o11 35 (8 : Int32).toNatClampNeg ((gA o11 3 (4 : Int32).toNatClampNeg).toInt64)) fun o12 =>
  zlt (tM o12 35 (9 : Int32).toNatClampNeg ((gA o12 3 (6 : Int32).toNatClampNeg).toInt64)) fun o13 =>
  lp_X9_tells_159   zfu (p0, p4, (0 : Int32), o13))
set_option maxHeartbeats 4000000 in
set_option maxRecDepth 100000 in
theorem m_X9_tells (l : Launch) (dC : Nat → ClassId) (dI : Nat → Nat → Nat) (sz : Nat) (h_me : Nat) (q_me : Nat → Nat) (k_me : Nat → ClassId) (o_me : Ob) (p0 : Int32) (p1 : Int32) (p2 : Int32) (p3 : Int32) (p4 : Int64) (y : Int64 × Ob) (h : f_X9_tells o_me p0 p1 p2 p3 p4 = some y) : CL l yX9_tells cX9_tells 11 (some .long) ({ frames := 4, cells := 0, slots := 0, locals := 93 } : Room) dC dI sz [.ref h_me, .int p0, .int p1, .int p2, .int p3, .long p4] [wX9 h_me q_me k_me o_me] [tX9 k_me] y.1 [wX9 h_me q_me k_me y.2] := by
  refine CC_of (by decide) (Nat.le_of_ble_eq_true rfl) ?_
  intro p e s m below meth c A ls hx hb hml hr hlk hnm hown hts hX hK hP hD hA hl
  have hl : lv_has ls 11 [(0, .ref h_me), (1, .int p0), (2, .int p1), (3, .int p2), (4, .int p3), (5, .long p4)] := hl
  have hown : s.vm.findClass RX9 = some m.cls := hown
  have hw : Wd dC dI A s.heap [wX9 h_me q_me k_me o_me] s.heap [] := ⟨hP, hD, va_S.rf⟩
  generalize hQz : (MQ below (QL dC dI (fun r (_ : Unit) => r = y.1) (fun _ => Jn [wX9 h_me q_me k_me y.2]) (fun _ => Jt [tX9 k_me]) A) ([.ref h_me, .int p0, .int p1, .int p2, .int p3, .long p4] : List Value).toArray s 0 0 A) = Qz
  clear hP hD hnm
  have bk_224_1 : ∀ (rec_159_0 : Int32 × Int64 × Int32 × Ob → Option (Int64 × Ob)) (hrec_159_0 : ∀ (v1 : Int32) (v7 : Int64) (v9 : Int32) (o_me : Ob) (H : Heap) (locs : List Loc) (ls : Array Slot), rec_159_0 (v1, v7, v9, o_me) = some y → Wd dC dI A s.heap [wX9 h_me q_me k_me o_me] H locs → lv_has ls 11 [(0, .ref h_me), (1, .int v1), (7, .long v7), (9, .int v9)] → W p l e ({ frames := 4, cells := 0, slots := 0, locals := 93 } : Room) s m ([.ref h_me, .int p0, .int p1, .int p2, .int p3, .long p4] : List Value).toArray below meth c H locs 0 0 Qz (F0 m 159 ls [])), ∀ (v1 : Int32) (v7 : Int64) (v9 : Int32) (o_me : Ob) (H : Heap) (locs : List Loc) (ls : Array Slot), bk_X9_tells_224  rec_159_0 v1 v7 v9 o_me = some y → Wd dC dI A s.heap [wX9 h_me q_me k_me o_me] H locs → lv_has ls 11 [(0, .ref h_me), (1, .int v1), (7, .long v7), (9, .int v9)] → W p l e ({ frames := 4, cells := 0, slots := 0, locals := 93 } : Room) s m ([.ref h_me, .int p0, .int p1, .int p2, .int p3, .long p4] : List Value).toArray below meth c H locs 0 0 Qz (F0 m 224 ls []) := by
    intro rec_159_0 hrec_159_0
    intro v1 v7 v9 o_me H locs ls h hw hl
    unfold bk_X9_tells_224 at h
    obtain ⟨x17, ex17, h⟩ := z_lt h
    refine lv_iinc (v := x17) (lv' := [(9, .int x17), (0, .ref h_me), (1, .int v1), (7, .long v7)]) hx hb dX9_tells_224 hl (k := 3) rfl ((congrArg (v9 + ·) (show Int32.ofInt 1 = (1 : Int32) from by decide)).trans ex17.symm) (by decide) rfl (fun ls hl => ?_)
    refine lv_goto (tgt := 159) hx hb dX9_tells_227 (by decide) ?_
    exact hrec_159_0 v1 v7 x17 o_me _ _ _ h hw (lv_sub hl [1, 2, 3, 0] rfl)
  have bk_222_2 : ∀ (rec_159_0 : Int32 × Int64 × Int32 × Ob → Option (Int64 × Ob)) (hrec_159_0 : ∀ (v1 : Int32) (v7 : Int64) (v9 : Int32) (o_me : Ob) (H : Heap) (locs : List Loc) (ls : Array Slot), rec_159_0 (v1, v7, v9, o_me) = some y → Wd dC dI A s.heap [wX9 h_me q_me k_me o_me] H locs → lv_has ls 11 [(0, .ref h_me), (1, .int v1), (7, .long v7), (9, .int v9)] → W p l e ({ frames := 4, cells := 0, slots := 0, locals := 93 } : Room) s m ([.ref h_me, .int p0, .int p1, .int p2, .int p3, .long p4] : List Value).toArray below meth c H locs 0 0 Qz (F0 m 159 ls [])), ∀ (v1 : Int32) (v9 : Int32) (s0 : Int64) (o_me : Ob) (H : Heap) (locs : List Loc) (ls : Array Slot), bk_X9_tells_222  rec_159_0 v1 v9 s0 o_me = some y → Wd dC dI A s.heap [wX9 h_me q_me k_me o_me] H locs → lv_has ls 11 [(0, .ref h_me), (1, .int v1), (9, .int v9)] → W p l e ({ frames := 4, cells := 0, slots := 0, locals := 93 } : Room) s m ([.ref h_me, .int p0, .int p1, .int p2, .int p3, .long p4] : List Value).toArray below meth c H locs 0 0 Qz (F0 m 222 ls [.long s0]) := by
    intro rec_159_0 hrec_159_0
    intro v1 v9 s0 o_me H locs ls h hw hl
    unfold bk_X9_tells_222 at h
    refine lv_lstore (lv' := [(7, .long s0), (0, .ref h_me), (1, .int v1), (9, .int v9)]) hx hb dX9_tells_222 hl (by decide) rfl (fun ls hl => ?_)
    exact bk_224_1 rec_159_0 hrec_159_0 v1 s0 v9 o_me _ _ _ h hw (lv_sub hl [1, 2, 0, 3] rfl)
  have lp_159_0 : ∀ (N : Nat), ∀ (v1 : Int32) (v7 : Int64) (v9 : Int32) (o_me : Ob) (H : Heap) (locs : List Loc) (ls : Array Slot), lp_X9_tells_159   N (v1, v7, v9, o_me) = some y → Wd dC dI A s.heap [wX9 h_me q_me k_me o_me] H locs → lv_has ls 11 [(0, .ref h_me), (1, .int v1), (7, .long v7), (9, .int v9)] → W p l e ({ frames := 4, cells := 0, slots := 0, locals := 93 } : Room) s m ([.ref h_me, .int p0, .int p1, .int p2, .int p3, .long p4] : List Value).toArray below meth c H locs 0 0 Qz (F0 m 159 ls []) := by
    intro N
    induction N with
    | zero =>
      intro v1 v7 v9 o_me H locs ls h hw hl
      exact absurd (show (none : Option (Int64 × Ob)) = some y from h) (by simp)
    | succ N ih =>
      intro v1 v7 v9 o_me H locs ls h hw hl
      have h : lb_X9_tells_159   (lp_X9_tells_159   N) v1 v7 v9 o_me = some y := h
      unfold lb_X9_tells_159 at h
      refine lv_iload hx hb dX9_tells_159 (lv_at hl 3 rfl) ?_
      refine lv_aload_n hx hb dX9_tells_161 rfl (lv_at hl 0 rfl) ?_
      refine fgX9_3 hx hb hts hown hK hw 0 rfl kw1179 dX9_tells_162 ?_
      refine lv_aload_n hx hb dX9_tells_165 rfl (lv_at hl 0 rfl) ?_
      refine fgX9_34 hx hb hts hown hK hw 0 rfl kw1210 dX9_tells_166 ?_
      refine lv_iconst (v := 1) hx hb dX9_tells_169 (by decide) ?_
      refine lv_iadd hx hb dX9_tells_170 ?_
      obtain ⟨g14, h⟩ := z_gd h
      refine faX9_3 hx hb hK hw 0 rfl rfl g14 dX9_tells_171 ?_
      refine lv_icmp_ge (tgt := 230) hx hb dX9_tells_172 (by decide) (fun c => ?_) (fun c => ?_)
      · have h := z_t h c
        refine lv_lload hx hb dX9_tells_230 (lv_at hl 2 rfl) ?_
        have hy := Option.some.inj h
        rw [← hQz, ← hy]
        exact xr_l (v := v7) hx hb hr hlk hK hw dX9_tells_232
      · have h := z_f h c
        refine lv_aload_n hx hb dX9_tells_175 rfl (lv_at hl 0 rfl) ?_
        refine fgX9_34 hx hb hts hown hK hw 0 rfl kw1210 dX9_tells_176 ?_
        refine lv_iconst (v := 2) hx hb dX9_tells_179 (by decide) ?_
        refine lv_iadd hx hb dX9_tells_180 ?_
        refine lv_bipush (v := 8) hx hb dX9_tells_181 (by decide) ?_
        refine lv_iload hx hb dX9_tells_183 (lv_at hl 3 rfl) ?_
        refine lv_imul hx hb dX9_tells_185 ?_
        refine lv_iadd hx hb dX9_tells_186 ?_
        obtain ⟨x15, ex15, h⟩ := z_lt h
        refine lv_fi (v := x15) ex15.symm ?_
        refine lv_istore (lv' := [(10, .int x15), (0, .ref h_me), (1, .int v1), (7, .long v7), (9, .int v9)]) hx hb dX9_tells_187 hl (by decide) rfl (fun ls hl => ?_)
        refine lv_aload_n hx hb dX9_tells_189 rfl (lv_at hl 1 rfl) ?_
        refine fgX9_3 hx hb hts hown hK hw 0 rfl kw1179 dX9_tells_190 ?_
        refine lv_iload hx hb dX9_tells_193 (lv_at hl 0 rfl) ?_
        obtain ⟨g16, h⟩ := z_gd h
        refine faX9_3 hx hb hK hw 0 rfl rfl g16 dX9_tells_195 ?_
        refine lv_iload_n hx hb dX9_tells_196 rfl (lv_at hl 2 rfl) ?_
        refine lv_icmp_ne (tgt := 224) hx hb dX9_tells_197 (by decide) (fun c => ?_) (fun c => ?_)
        · have h := z_f h c
          exact bk_224_1 (lp_X9_tells_159   N) ih v1 v7 v9 o_me _ _ _ h hw (lv_sub hl [1, 2, 3, 4] rfl)
        · have h := z_t h c
          refine lv_aload_n hx hb dX9_tells_200 rfl (lv_at hl 1 rfl) ?_
          refine lv_iload hx hb dX9_tells_201 (lv_at hl 0 rfl) ?_
          obtain ⟨z18, ez18, h⟩ := z_bd h
          refine xj_i (xrV (As := [.int x15]) (rest := []) ⟨hx, hb, hml, hown, hts⟩ (m_X9_isSo l dC dI _ h_me q_me k_me o_me x15 z18 ez18) kw1419 kw1416 kw1418 kw45 kw120 hd_X9_isSo ⟨rfl, rfl⟩ rfl rfl ⟨rfl, rfl⟩ hX hK hw [0] (by decide) rfl rfl rfl rfl rfl hl.1 rfl rfl dX9_tells_203) hw hA [0] (by decide) rfl rfl (fun H locs hw => ?_)
          have hw : Wd dC dI A s.heap [wX9 h_me q_me k_me z18.2] H locs := hw
          refine lv_if_eq (tgt := 224) hx hb dX9_tells_206 (by decide) (fun c => ?_) (fun c => ?_)
          · have h := z_t h c
            exact bk_224_1 (lp_X9_tells_159   N) ih v1 v7 v9 z18.2 _ _ _ h hw (lv_sub hl [1, 2, 3, 4] rfl)
          · have h := z_f h c
            refine lv_iload_n hx hb dX9_tells_209 rfl (lv_at hl 2 rfl) ?_
            refine lv_iconst (v := 3) hx hb dX9_tells_210 (by decide) ?_
            refine lv_icmp_ne (tgt := 218) hx hb dX9_tells_211 (by decide) (fun c => ?_) (fun c => ?_)
            · have h := z_f h c
              refine lv_aload_n hx hb dX9_tells_218 rfl (lv_at hl 1 rfl) ?_
              refine fgX9_40 hx hb hts hown hK hw 0 rfl kw1216 dX9_tells_219 ?_
              exact bk_222_2 (lp_X9_tells_159   N) ih v1 v9 (gL z18.2 40) z18.2 _ _ _ h hw (lv_sub hl [1, 2, 4] rfl)
            · have h := z_t h c
              refine lv_lconst (v := 1) hx hb dX9_tells_214 (by decide) ?_
              refine lv_goto (tgt := 222) hx hb dX9_tells_215 (by decide) ?_
              exact bk_222_2 (lp_X9_tells_159   N) ih v1 v9 (1 : Int64) z18.2 _ _ _ h hw (lv_sub hl [1, 2, 4] rfl)
  unfold f_X9_tells at h
  refine lv_aload_n hx hb dX9_tells_0 rfl (lv_at hl 0 rfl) ?_
  refine fgX9_3 hx hb hts hown hK hw 0 rfl kw1179 dX9_tells_1 ?_
  refine lv_iconst (v := 3) hx hb dX9_tells_4 (by decide) ?_
  refine faX9_3 hx hb hK hw 0 rfl rfl (by decide) dX9_tells_5 ?_
  refine lv_iconst (v := (-1)) hx hb dX9_tells_6 (by decide) ?_
  refine lv_icmp_ne (tgt := 13) hx hb dX9_tells_7 (by decide) (fun c => ?_) (fun c => ?_)
  · have h := z_f h c
    refine lv_aload_n hx hb dX9_tells_13 rfl (lv_at hl 0 rfl) ?_
    refine lv_bipush (v := 84) hx hb dX9_tells_14 (by decide) ?_
    refine lv_sipush (v := 900) hx hb dX9_tells_16 (by decide) ?_
    refine lv_aload_n hx hb dX9_tells_19 rfl (lv_at hl 0 rfl) ?_
    refine fgX9_3 hx hb hts hown hK hw 0 rfl kw1179 dX9_tells_20 ?_
    refine lv_iconst (v := 3) hx hb dX9_tells_23 (by decide) ?_
    refine faX9_3 hx hb hK hw 0 rfl rfl (by decide) dX9_tells_24 ?_
    refine lv_imul hx hb dX9_tells_25 ?_
    refine lv_iadd hx hb dX9_tells_26 ?_
    refine fpX9_34 hx hb hts hown hK hw 0 rfl kw1210 dX9_tells_27 (fun H locs hw => ?_)
    obtain ⟨o1, eo1, h⟩ := z_lt h
    have hw : Wd dC dI A s.heap [wX9 h_me q_me k_me o1] H locs := by rw [eo1]; exact hw
    refine lv_aload_n hx hb dX9_tells_30 rfl (lv_at hl 0 rfl) ?_
    refine fgX9_35 hx hb hts hown hK hw 0 rfl kw1211 dX9_tells_31 ?_
    refine lv_iconst (v := 1) hx hb dX9_tells_34 (by decide) ?_
    refine lv_iload_n hx hb dX9_tells_35 rfl (lv_at hl 2 rfl) ?_
    refine lv_i2l hx hb dX9_tells_36 rfl ?_
    refine fbX9_35 hx hb hK hw 0 rfl rfl (by decide) dX9_tells_37 (fun H locs hw => ?_)
    obtain ⟨o2, eo2, h⟩ := z_lt h
    have hw : Wd dC dI A s.heap [wX9 h_me q_me k_me o2] H locs := by rw [eo2]; exact hw
    refine lv_aload_n hx hb dX9_tells_38 rfl (lv_at hl 0 rfl) ?_
    refine fgX9_35 hx hb hts hown hK hw 0 rfl kw1211 dX9_tells_39 ?_
    refine lv_iconst (v := 2) hx hb dX9_tells_42 (by decide) ?_
    refine lv_iload_n hx hb dX9_tells_43 rfl (lv_at hl 3 rfl) ?_
    refine lv_i2l hx hb dX9_tells_44 rfl ?_
    refine fbX9_35 hx hb hK hw 0 rfl rfl (by decide) dX9_tells_45 (fun H locs hw => ?_)
    obtain ⟨o3, eo3, h⟩ := z_lt h
    have hw : Wd dC dI A s.heap [wX9 h_me q_me k_me o3] H locs := by rw [eo3]; exact hw
    refine lv_aload_n hx hb dX9_tells_46 rfl (lv_at hl 0 rfl) ?_
    refine fgX9_35 hx hb hts hown hK hw 0 rfl kw1211 dX9_tells_47 ?_
    refine lv_iconst (v := 3) hx hb dX9_tells_50 (by decide) ?_
    refine lv_aload_n hx hb dX9_tells_51 rfl (lv_at hl 0 rfl) ?_
    refine fgX9_3 hx hb hts hown hK hw 0 rfl kw1179 dX9_tells_52 ?_
    refine lv_bipush (v := 36) hx hb dX9_tells_55 (by decide) ?_
    refine lv_iconst (v := 4) hx hb dX9_tells_57 (by decide) ?_
    refine lv_iload_n hx hb dX9_tells_58 rfl (lv_at hl 2 rfl) ?_
    refine lv_imul hx hb dX9_tells_59 ?_
    refine lv_iadd hx hb dX9_tells_60 ?_
    refine lv_iload_n hx hb dX9_tells_61 rfl (lv_at hl 3 rfl) ?_
    refine lv_iadd hx hb dX9_tells_62 ?_
    obtain ⟨g4, h⟩ := z_gd h
    refine faX9_3 hx hb hK hw 0 rfl rfl g4 dX9_tells_63 ?_
    refine lv_i2l hx hb dX9_tells_64 rfl ?_
    refine fbX9_35 hx hb hK hw 0 rfl rfl (by decide) dX9_tells_65 (fun H locs hw => ?_)
    obtain ⟨o5, eo5, h⟩ := z_lt h
    have hw : Wd dC dI A s.heap [wX9 h_me q_me k_me o5] H locs := by rw [eo5]; exact hw
    refine lv_aload_n hx hb dX9_tells_66 rfl (lv_at hl 0 rfl) ?_
    refine fgX9_35 hx hb hts hown hK hw 0 rfl kw1211 dX9_tells_67 ?_
    refine lv_iconst (v := 4) hx hb dX9_tells_70 (by decide) ?_
    refine lv_aload_n hx hb dX9_tells_71 rfl (lv_at hl 0 rfl) ?_
    refine fgX9_3 hx hb hts hown hK hw 0 rfl kw1179 dX9_tells_72 ?_
    refine lv_bipush (v := 8) hx hb dX9_tells_75 (by decide) ?_
    refine lv_iload_n hx hb dX9_tells_77 rfl (lv_at hl 2 rfl) ?_
    refine lv_iadd hx hb dX9_tells_78 ?_
    obtain ⟨g6, h⟩ := z_gd h
    refine faX9_3 hx hb hK hw 0 rfl rfl g6 dX9_tells_79 ?_
    refine lv_i2l hx hb dX9_tells_80 rfl ?_
    refine fbX9_35 hx hb hK hw 0 rfl rfl (by decide) dX9_tells_81 (fun H locs hw => ?_)
    obtain ⟨o7, eo7, h⟩ := z_lt h
    have hw : Wd dC dI A s.heap [wX9 h_me q_me k_me o7] H locs := by rw [eo7]; exact hw
    refine lv_aload_n hx hb dX9_tells_82 rfl (lv_at hl 0 rfl) ?_
    refine fgX9_35 hx hb hts hown hK hw 0 rfl kw1211 dX9_tells_83 ?_
    refine lv_iconst (v := 5) hx hb dX9_tells_86 (by decide) ?_
    refine lv_aload_n hx hb dX9_tells_87 rfl (lv_at hl 0 rfl) ?_
    refine fgX9_3 hx hb hts hown hK hw 0 rfl kw1179 dX9_tells_88 ?_
    refine lv_bipush (v := 15) hx hb dX9_tells_91 (by decide) ?_
    refine lv_iload_n hx hb dX9_tells_93 rfl (lv_at hl 2 rfl) ?_
    refine lv_iadd hx hb dX9_tells_94 ?_
    obtain ⟨g8, h⟩ := z_gd h
    refine faX9_3 hx hb hK hw 0 rfl rfl g8 dX9_tells_95 ?_
    refine lv_i2l hx hb dX9_tells_96 rfl ?_
    refine fbX9_35 hx hb hK hw 0 rfl rfl (by decide) dX9_tells_97 (fun H locs hw => ?_)
    obtain ⟨o9, eo9, h⟩ := z_lt h
    have hw : Wd dC dI A s.heap [wX9 h_me q_me k_me o9] H locs := by rw [eo9]; exact hw
    refine lv_aload_n hx hb dX9_tells_98 rfl (lv_at hl 0 rfl) ?_
    refine fgX9_35 hx hb hts hown hK hw 0 rfl kw1211 dX9_tells_99 ?_
    refine lv_bipush (v := 6) hx hb dX9_tells_102 (by decide) ?_
    refine lv_iload hx hb dX9_tells_104 (lv_at hl 4 rfl) ?_
    refine lv_i2l hx hb dX9_tells_106 rfl ?_
    refine fbX9_35 hx hb hK hw 0 rfl rfl (by decide) dX9_tells_107 (fun H locs hw => ?_)
    obtain ⟨o10, eo10, h⟩ := z_lt h
    have hw : Wd dC dI A s.heap [wX9 h_me q_me k_me o10] H locs := by rw [eo10]; exact hw
    refine lv_aload_n hx hb dX9_tells_108 rfl (lv_at hl 0 rfl) ?_
    refine fgX9_35 hx hb hts hown hK hw 0 rfl kw1211 dX9_tells_109 ?_
    refine lv_bipush (v := 7) hx hb dX9_tells_112 (by decide) ?_
    refine lv_aload_n hx hb dX9_tells_114 rfl (lv_at hl 0 rfl) ?_
    refine fgX9_3 hx hb hts hown hK hw 0 rfl kw1179 dX9_tells_115 ?_
    refine lv_bipush (v := 7) hx hb dX9_tells_118 (by decide) ?_
    refine faX9_3 hx hb hK hw 0 rfl rfl (by decide) dX9_tells_120 ?_
    refine lv_i2l hx hb dX9_tells_121 rfl ?_
    refine fbX9_35 hx hb hK hw 0 rfl rfl (by decide) dX9_tells_122 (fun H locs hw => ?_)
    obtain ⟨o11, eo11, h⟩ := z_lt h
    have hw : Wd dC dI A s.heap [wX9 h_me q_me k_me o11] H locs := by rw [eo11]; exact hw
    refine lv_aload_n hx hb dX9_tells_123 rfl (lv_at hl 0 rfl) ?_
    refine fgX9_35 hx hb hts hown hK hw 0 rfl kw1211 dX9_tells_124 ?_
    refine lv_bipush (v := 8) hx hb dX9_tells_127 (by decide) ?_
    refine lv_aload_n hx hb dX9_tells_129 rfl (lv_at hl 0 rfl) ?_
    refine fgX9_3 hx hb hts hown hK hw 0 rfl kw1179 dX9_tells_130 ?_
    refine lv_iconst (v := 4) hx hb dX9_tells_133 (by decide) ?_
    refine faX9_3 hx hb hK hw 0 rfl rfl (by decide) dX9_tells_134 ?_
    refine lv_i2l hx hb dX9_tells_135 rfl ?_
    refine fbX9_35 hx hb hK hw 0 rfl rfl (by decide) dX9_tells_136 (fun H locs hw => ?_)
    obtain ⟨o12, eo12, h⟩ := z_lt h
    have hw : Wd dC dI A s.heap [wX9 h_me q_me k_me o12] H locs := by rw [eo12]; exact hw
    refine lv_aload_n hx hb dX9_tells_137 rfl (lv_at hl 0 rfl) ?_
    refine fgX9_35 hx hb hts hown hK hw 0 rfl kw1211 dX9_tells_138 ?_
    refine lv_bipush (v := 9) hx hb dX9_tells_141 (by decide) ?_
    refine lv_aload_n hx hb dX9_tells_143 rfl (lv_at hl 0 rfl) ?_
    refine fgX9_3 hx hb hts hown hK hw 0 rfl kw1179 dX9_tells_144 ?_
    refine lv_bipush (v := 6) hx hb dX9_tells_147 (by decide) ?_
    refine faX9_3 hx hb hK hw 0 rfl rfl (by decide) dX9_tells_149 ?_
    refine lv_i2l hx hb dX9_tells_150 rfl ?_
    refine fbX9_35 hx hb hK hw 0 rfl rfl (by decide) dX9_tells_151 (fun H locs hw => ?_)
    obtain ⟨o13, eo13, h⟩ := z_lt h
    have hw : Wd dC dI A s.heap [wX9 h_me q_me k_me o13] H locs := by rw [eo13]; exact hw
    refine lv_lload hx hb dX9_tells_152 (lv_at hl 5 rfl) ?_
    refine lv_lstore (lv' := [(7, .long p4), (0, .ref h_me), (1, .int p0), (2, .int p1), (3, .int p2), (4, .int p3), (5, .long p4)]) hx hb dX9_tells_154 hl (by decide) rfl (fun ls hl => ?_)
    refine lv_iconst (v := 0) hx hb dX9_tells_156 (by decide) ?_
    refine lv_istore (lv' := [(9, .int (0 : Int32)), (7, .long p4), (0, .ref h_me), (1, .int p0), (2, .int p1), (3, .int p2), (4, .int p3), (5, .long p4)]) hx hb dX9_tells_157 hl (by decide) rfl (fun ls hl => ?_)
    exact lp_159_0  zfu p0 p4 (0 : Int32) o13 _ _ _ h hw (lv_sub hl [2, 3, 1, 0] rfl)
  · have h := z_t h c
    refine lv_lload hx hb dX9_tells_10 (lv_at hl 5 rfl) ?_
    have hy := Option.some.inj h
    rw [← hQz, ← hy]
    exact xr_l (v := p4) hx hb hr hlk hK hw dX9_tells_12

def f_X9_isBarred (o_me : Ob) (p0 : Int32) (p1 : Int32) : Option (Int32 × Ob) :=
  (f_X9_tells o_me (3 : Int32) p0 p1 (-1 : Int32) (0 : Int64)).bind fun z1 =>
  if (lg_cmp z1.1 (1 : Int64)) = (0 : Int32) then
  (some ((1 : Int32), z1.2))
  else
  (some ((0 : Int32), z1.2))
set_option maxHeartbeats 4000000 in
set_option maxRecDepth 100000 in
theorem m_X9_isBarred (l : Launch) (dC : Nat → ClassId) (dI : Nat → Nat → Nat) (sz : Nat) (h_me : Nat) (q_me : Nat → Nat) (k_me : Nat → ClassId) (o_me : Ob) (p0 : Int32) (p1 : Int32) (y : Int32 × Ob) (h : f_X9_isBarred o_me p0 p1 = some y) : CI l yX9_isBarred cX9_isBarred 3 (some .boolean) ({ frames := 5, cells := 0, slots := 0, locals := 123 } : Room) dC dI sz [.ref h_me, .int p0, .int p1] [wX9 h_me q_me k_me o_me] [tX9 k_me] y.1 [wX9 h_me q_me k_me y.2] := by
  refine CC_of (by decide) (Nat.le_of_ble_eq_true rfl) ?_
  intro p e s m below meth c A ls hx hb hml hr hlk hnm hown hts hX hK hP hD hA hl
  have hl : lv_has ls 3 [(0, .ref h_me), (1, .int p0), (2, .int p1)] := hl
  have hown : s.vm.findClass RX9 = some m.cls := hown
  have hw : Wd dC dI A s.heap [wX9 h_me q_me k_me o_me] s.heap [] := ⟨hP, hD, va_S.rf⟩
  generalize hQz : (MQ below (QI dC dI (fun r (_ : Unit) => r = y.1) (fun _ => Jn [wX9 h_me q_me k_me y.2]) (fun _ => Jt [tX9 k_me]) A) ([.ref h_me, .int p0, .int p1] : List Value).toArray s 0 0 A) = Qz
  clear hP hD hnm
  unfold f_X9_isBarred at h
  refine lv_aload_n hx hb dX9_isBarred_0 rfl (lv_at hl 0 rfl) ?_
  refine lv_iconst (v := 3) hx hb dX9_isBarred_1 (by decide) ?_
  refine lv_iload_n hx hb dX9_isBarred_2 rfl (lv_at hl 1 rfl) ?_
  refine lv_iload_n hx hb dX9_isBarred_3 rfl (lv_at hl 2 rfl) ?_
  refine lv_iconst (v := (-1)) hx hb dX9_isBarred_4 (by decide) ?_
  refine lv_lconst (v := 0) hx hb dX9_isBarred_5 (by decide) ?_
  obtain ⟨z1, ez1, h⟩ := z_bd h
  refine xj_l (xrV (As := [.int (3 : Int32), .int p0, .int p1, .int (-1 : Int32), .long (0 : Int64)]) (rest := []) ⟨hx, hb, hml, hown, hts⟩ (m_X9_tells l dC dI _ h_me q_me k_me o_me (3 : Int32) p0 p1 (-1 : Int32) (0 : Int64) z1 ez1) kw1415 kw1412 kw1414 kw44 kw120 hd_X9_tells ⟨rfl, rfl⟩ rfl rfl ⟨rfl, rfl⟩ hX hK hw [0] (by decide) rfl rfl rfl rfl rfl hl.1 rfl rfl dX9_isBarred_6) hw hA [0] (by decide) rfl rfl (fun H locs hw => ?_)
  have hw : Wd dC dI A s.heap [wX9 h_me q_me k_me z1.2] H locs := hw
  refine lv_lconst (v := 1) hx hb dX9_isBarred_9 (by decide) ?_
  refine W.lcmp hx hb dX9_isBarred_10 ?_
  refine lv_if_ne (tgt := 18) hx hb dX9_isBarred_11 (by decide) (fun c => ?_) (fun c => ?_)
  · have h := z_f h c
    refine lv_iconst (v := 0) hx hb dX9_isBarred_18 (by decide) ?_
    have hy := Option.some.inj h
    rw [← hQz, ← hy]
    exact xr_i (v := (0 : Int32)) hx hb hr rfl hlk hK hw dX9_isBarred_19
  · have h := z_t h c
    refine lv_iconst (v := 1) hx hb dX9_isBarred_14 (by decide) ?_
    refine lv_goto (tgt := 19) hx hb dX9_isBarred_15 (by decide) ?_
    have hy := Option.some.inj h
    rw [← hQz, ← hy]
    exact xr_i (v := (1 : Int32)) hx hb hr rfl hlk hK hw dX9_isBarred_19

def f_X9_within (p0 : Int64) (p1 : Int32) (p2 : Int32) : Option (Int32) :=
  if (0 : Int32) ≤ (lg_cmp p0 p1.toInt64) then
  (if (lg_cmp p0 p2.toInt64) ≤ (0 : Int32) then
  (some p0.toInt32)
  else
  (some p2))
  else
  (some p1)
set_option maxHeartbeats 4000000 in
set_option maxRecDepth 100000 in
theorem m_X9_within (l : Launch) (dC : Nat → ClassId) (dI : Nat → Nat → Nat) (sz : Nat)  (p0 : Int64) (p1 : Int32) (p2 : Int32) (y : Int32) (h : f_X9_within p0 p1 p2 = some y) : CI l yX9_within cX9_within 4 (some .int) ({ frames := 0, cells := 0, slots := 0, locals := 0 } : Room) dC dI sz [.long p0, .int p1, .int p2] [] [] y [] := by
  refine CC_of (by decide) (Nat.le_of_ble_eq_true rfl) ?_
  intro p e s m below meth c A ls hx hb hml hr hlk hnm hown hts hX hK hP hD hA hl
  have hl : lv_has ls 4 [(0, .long p0), (2, .int p1), (3, .int p2)] := hl
  have hown : s.vm.findClass RX9 = some m.cls := hown
  have hw : Wd dC dI A s.heap [] s.heap [] := ⟨hP, hD, va_S.rf⟩
  generalize hQz : (MQ below (QI dC dI (fun r (_ : Unit) => r = y) (fun _ => Jn []) (fun _ => Jt []) A) ([.long p0, .int p1, .int p2] : List Value).toArray s 0 0 A) = Qz
  clear hP hD hnm
  unfold f_X9_within at h
  refine lv_lload_n hx hb dX9_within_0 rfl (lv_at hl 0 rfl) ?_
  refine lv_iload_n hx hb dX9_within_1 rfl (lv_at hl 1 rfl) ?_
  refine lv_i2l hx hb dX9_within_2 rfl ?_
  refine W.lcmp hx hb dX9_within_3 ?_
  refine lv_if_ge (tgt := 11) hx hb dX9_within_4 (by decide) (fun c => ?_) (fun c => ?_)
  · have h := z_t h c
    refine lv_lload_n hx hb dX9_within_11 rfl (lv_at hl 0 rfl) ?_
    refine lv_iload_n hx hb dX9_within_12 rfl (lv_at hl 2 rfl) ?_
    refine lv_i2l hx hb dX9_within_13 rfl ?_
    refine W.lcmp hx hb dX9_within_14 ?_
    refine lv_if_le (tgt := 22) hx hb dX9_within_15 (by decide) (fun c => ?_) (fun c => ?_)
    · have h := z_t h c
      refine lv_lload_n hx hb dX9_within_22 rfl (lv_at hl 0 rfl) ?_
      refine lv_l2i hx hb dX9_within_23 rfl ?_
      have hy := Option.some.inj h
      rw [← hQz, ← hy]
      exact xr_i (v := p0.toInt32) hx hb hr rfl hlk hK hw dX9_within_24
    · have h := z_f h c
      refine lv_iload_n hx hb dX9_within_18 rfl (lv_at hl 2 rfl) ?_
      refine lv_goto (tgt := 24) hx hb dX9_within_19 (by decide) ?_
      have hy := Option.some.inj h
      rw [← hQz, ← hy]
      exact xr_i (v := p2) hx hb hr rfl hlk hK hw dX9_within_24
  · have h := z_f h c
    refine lv_iload_n hx hb dX9_within_7 rfl (lv_at hl 1 rfl) ?_
    refine lv_goto (tgt := 24) hx hb dX9_within_8 (by decide) ?_
    have hy := Option.some.inj h
    rw [← hQz, ← hy]
    exact xr_i (v := p1) hx hb hr rfl hlk hK hw dX9_within_24

def f_X9_runsOf (o_me : Ob) (p0 : Int32) (p1 : Int32) : Option (Int32 × Ob) :=
  zgd (zin (((36 : Int32) + ((4 : Int32) * p0)) + p1) 5484) <|
  (f_X9_tells o_me (0 : Int32) p0 p1 (-1 : Int32) ((gA o_me 3 (((36 : Int32) + ((4 : Int32) * p0)) + p1).toNatClampNeg).toInt64)).bind fun z2 =>
  (f_X9_within z2.1 (0 : Int32) (99 : Int32)).bind fun z3 =>
  some (z3, z2.2)
set_option maxHeartbeats 4000000 in
set_option maxRecDepth 100000 in
theorem m_X9_runsOf (l : Launch) (dC : Nat → ClassId) (dI : Nat → Nat → Nat) (sz : Nat) (h_me : Nat) (q_me : Nat → Nat) (k_me : Nat → ClassId) (o_me : Ob) (p0 : Int32) (p1 : Int32) (y : Int32 × Ob) (h : f_X9_runsOf o_me p0 p1 = some y) : CI l yX9_runsOf cX9_runsOf 3 (some .int) ({ frames := 5, cells := 0, slots := 0, locals := 123 } : Room) dC dI sz [.ref h_me, .int p0, .int p1] [wX9 h_me q_me k_me o_me] [tX9 k_me] y.1 [wX9 h_me q_me k_me y.2] := by
  refine CC_of (by decide) (Nat.le_of_ble_eq_true rfl) ?_
  intro p e s m below meth c A ls hx hb hml hr hlk hnm hown hts hX hK hP hD hA hl
  have hl : lv_has ls 3 [(0, .ref h_me), (1, .int p0), (2, .int p1)] := hl
  have hown : s.vm.findClass RX9 = some m.cls := hown
  have hw : Wd dC dI A s.heap [wX9 h_me q_me k_me o_me] s.heap [] := ⟨hP, hD, va_S.rf⟩
  generalize hQz : (MQ below (QI dC dI (fun r (_ : Unit) => r = y.1) (fun _ => Jn [wX9 h_me q_me k_me y.2]) (fun _ => Jt [tX9 k_me]) A) ([.ref h_me, .int p0, .int p1] : List Value).toArray s 0 0 A) = Qz
  clear hP hD hnm
  unfold f_X9_runsOf at h
  refine lv_aload_n hx hb dX9_runsOf_0 rfl (lv_at hl 0 rfl) ?_
  refine lv_iconst (v := 0) hx hb dX9_runsOf_1 (by decide) ?_
  refine lv_iload_n hx hb dX9_runsOf_2 rfl (lv_at hl 1 rfl) ?_
  refine lv_iload_n hx hb dX9_runsOf_3 rfl (lv_at hl 2 rfl) ?_
  refine lv_iconst (v := (-1)) hx hb dX9_runsOf_4 (by decide) ?_
  refine lv_aload_n hx hb dX9_runsOf_5 rfl (lv_at hl 0 rfl) ?_
  refine fgX9_3 hx hb hts hown hK hw 0 rfl kw1179 dX9_runsOf_6 ?_
  refine lv_bipush (v := 36) hx hb dX9_runsOf_9 (by decide) ?_
  refine lv_iconst (v := 4) hx hb dX9_runsOf_11 (by decide) ?_
  refine lv_iload_n hx hb dX9_runsOf_12 rfl (lv_at hl 1 rfl) ?_
  refine lv_imul hx hb dX9_runsOf_13 ?_
  refine lv_iadd hx hb dX9_runsOf_14 ?_
  refine lv_iload_n hx hb dX9_runsOf_15 rfl (lv_at hl 2 rfl) ?_
  refine lv_iadd hx hb dX9_runsOf_16 ?_
  obtain ⟨g1, h⟩ := z_gd h
  refine faX9_3 hx hb hK hw 0 rfl rfl g1 dX9_runsOf_17 ?_
  refine lv_i2l hx hb dX9_runsOf_18 rfl ?_
  obtain ⟨z2, ez2, h⟩ := z_bd h
  refine xj_l (xrV (As := [.int (0 : Int32), .int p0, .int p1, .int (-1 : Int32), .long ((gA o_me 3 (((36 : Int32) + ((4 : Int32) * p0)) + p1).toNatClampNeg).toInt64)]) (rest := []) ⟨hx, hb, hml, hown, hts⟩ (m_X9_tells l dC dI _ h_me q_me k_me o_me (0 : Int32) p0 p1 (-1 : Int32) ((gA o_me 3 (((36 : Int32) + ((4 : Int32) * p0)) + p1).toNatClampNeg).toInt64) z2 ez2) kw1415 kw1412 kw1414 kw44 kw120 hd_X9_tells ⟨rfl, rfl⟩ rfl rfl ⟨rfl, rfl⟩ hX hK hw [0] (by decide) rfl rfl rfl rfl rfl hl.1 rfl rfl dX9_runsOf_19) hw hA [0] (by decide) rfl rfl (fun H locs hw => ?_)
  have hw : Wd dC dI A s.heap [wX9 h_me q_me k_me z2.2] H locs := hw
  refine lv_iconst (v := 0) hx hb dX9_runsOf_22 (by decide) ?_
  refine lv_bipush (v := 99) hx hb dX9_runsOf_23 (by decide) ?_
  obtain ⟨z3, ez3, h⟩ := z_bd h
  refine xj_i (xrS (As := [.long z2.1, .int (0 : Int32), .int (99 : Int32)]) (rest := []) ⟨hx, hb, hml, hown, hts⟩ (m_X9_within l dC dI _  z2.1 (0 : Int32) (99 : Int32) z3 ez3) kw1433 kw1431 kw1432 kw120 hd_X9_within ⟨rfl, rfl⟩ rfl rfl ⟨rfl, rfl⟩ hX hK hw [] (by decide) rfl rfl hl.1 rfl rfl dX9_runsOf_25) hw hA [] (by decide) rfl rfl (fun H locs hw => ?_)
  have hy := Option.some.inj h
  rw [← hQz, ← hy]
  exact xr_i (v := z3) hx hb hr rfl hlk hK hw dX9_runsOf_28

def bk_X9_layPlaces_119  (rec_7_0 : Int32 × Int32 × Ob → Option (Ob)) (v1 : Int32) (v2 : Int32) (o_me : Ob) : Option (Ob) :=
  zlt (v2 + (1 : Int32)) fun x3 =>
  rec_7_0 (v1, x3, o_me)
def bk_X9_layPlaces_102  (rec_7_0 : Int32 × Int32 × Ob → Option (Ob)) (v1 : Int32) (v2 : Int32) (v3 : Int32) (o_me : Ob) : Option (Ob) :=
  zgd (zin v3 7) <|
  zlt (tA o_me 42 v3.toNatClampNeg v2) fun o10 =>
  zlt (sI o10 43 ((gI o10 43) + (1 : Int32))) fun o11 =>
  bk_X9_layPlaces_119  rec_7_0 v1 v2 o11
def lb_X9_layPlaces_56  (rec_7_0 : Int32 × Int32 × Ob → Option (Ob)) (rec_56_2 : Int32 × Int32 × Int32 × Ob → Option (Ob)) (v1 : Int32) (v2 : Int32) (v3 : Int32) (o_me : Ob) : Option (Ob) :=
  if v3 ≤ (0 : Int32) then
  (bk_X9_layPlaces_102  rec_7_0 v1 v2 v3 o_me)
  else
  (zgd (zin (v3 - (1 : Int32)) 7) <|
  zgd (zin (gA o_me 42 (v3 - (1 : Int32)).toNatClampNeg) 7) <|
  zgd (zin v2 7) <|
  if (gA o_me 41 v2.toNatClampNeg) ≤ (gA o_me 41 (gA o_me 42 (v3 - (1 : Int32)).toNatClampNeg).toNatClampNeg) then
  (bk_X9_layPlaces_102  rec_7_0 v1 v2 v3 o_me)
  else
  (zgd (zin (v3 - (1 : Int32)) 7) <|
  zgd (zin v3 7) <|
  zlt (tA o_me 42 v3.toNatClampNeg (gA o_me 42 (v3 - (1 : Int32)).toNatClampNeg)) fun o17 =>
  zlt (v3 + (-1 : Int32)) fun x18 =>
  rec_56_2 (v1, v2, x18, o17)))
def lp_X9_layPlaces_56  (rec_7_0 : Int32 × Int32 × Ob → Option (Ob)) : Nat → (Int32 × Int32 × Int32 × Ob) → Option (Ob) := zit (fun rec a => lb_X9_layPlaces_56  rec_7_0 rec a.1 a.2.1 a.2.2.1 a.2.2.2)
def lb_X9_layPlaces_7   (rec_7_0 : Int32 × Int32 × Ob → Option (Ob)) (v1 : Int32) (v2 : Int32) (o_me : Ob) : Option (Ob) :=
  if (gA o_me 3 (0 : Int32).toNatClampNeg) ≤ v2 then
  (some o_me)
  else
  (zgd (zin ((22 : Int32) + v2) 5484) <|
  if (gA o_me 3 ((22 : Int32) + v2).toNatClampNeg) = (1 : Int32) then
  ((f_X9_isBarred o_me v2 v1).bind fun z4 =>
  if z4.1 = (0 : Int32) then
  ((f_X9_runsOf z4.2 v2 v1).bind fun z5 =>
  zgd (zin v2 7) <|
  zlt (tA z5.2 41 v2.toNatClampNeg z5.1) fun o7 =>
  zlt (gI o7 43) fun x8 =>
  lp_X9_layPlaces_56  rec_7_0 zfu (v1, v2, x8, o7))
  else
  (bk_X9_layPlaces_119  rec_7_0 v1 v2 z4.2))
  else
  (bk_X9_layPlaces_119  rec_7_0 v1 v2 o_me))
def lp_X9_layPlaces_7   : Nat → (Int32 × Int32 × Ob) → Option (Ob) := zit (fun rec a => lb_X9_layPlaces_7   rec a.1 a.2.1 a.2.2)
def f_X9_layPlaces (o_me : Ob) (p0 : Int32) : Option (Ob) :=
  zlt (sI o_me 43 (0 : Int32)) fun o1 =>
  lp_X9_layPlaces_7   zfu (p0, (0 : Int32), o1)
set_option maxHeartbeats 4000000 in
set_option maxRecDepth 100000 in
theorem m_X9_layPlaces (l : Launch) (dC : Nat → ClassId) (dI : Nat → Nat → Nat) (sz : Nat) (h_me : Nat) (q_me : Nat → Nat) (k_me : Nat → ClassId) (o_me : Ob) (p0 : Int32) (y : Ob) (h : f_X9_layPlaces o_me p0 = some y) : CV l yX9_layPlaces cX9_layPlaces 4 none ({ frames := 6, cells := 0, slots := 0, locals := 145 } : Room) dC dI sz [.ref h_me, .int p0] [wX9 h_me q_me k_me o_me] [tX9 k_me] [wX9 h_me q_me k_me y] := by
  refine CC_of (by decide) (Nat.le_of_ble_eq_true rfl) ?_
  intro p e s m below meth c A ls hx hb hml hr hlk hnm hown hts hX hK hP hD hA hl
  have hl : lv_has ls 4 [(0, .ref h_me), (1, .int p0)] := hl
  have hown : s.vm.findClass RX9 = some m.cls := hown
  have hw : Wd dC dI A s.heap [wX9 h_me q_me k_me o_me] s.heap [] := ⟨hP, hD, va_S.rf⟩
  generalize hQz : (MQ below (QV dC dI (fun (_ : Unit) => True) (fun _ => Jn [wX9 h_me q_me k_me y]) (fun _ => Jt [tX9 k_me]) A) ([.ref h_me, .int p0] : List Value).toArray s 0 0 A) = Qz
  clear hP hD hnm
  have bk_119_1 : ∀ (rec_7_0 : Int32 × Int32 × Ob → Option (Ob)) (hrec_7_0 : ∀ (v1 : Int32) (v2 : Int32) (o_me : Ob) (H : Heap) (locs : List Loc) (ls : Array Slot), rec_7_0 (v1, v2, o_me) = some y → Wd dC dI A s.heap [wX9 h_me q_me k_me o_me] H locs → lv_has ls 4 [(0, .ref h_me), (1, .int v1), (2, .int v2)] → W p l e ({ frames := 6, cells := 0, slots := 0, locals := 145 } : Room) s m ([.ref h_me, .int p0] : List Value).toArray below meth c H locs 0 0 Qz (F0 m 7 ls [])), ∀ (v1 : Int32) (v2 : Int32) (o_me : Ob) (H : Heap) (locs : List Loc) (ls : Array Slot), bk_X9_layPlaces_119  rec_7_0 v1 v2 o_me = some y → Wd dC dI A s.heap [wX9 h_me q_me k_me o_me] H locs → lv_has ls 4 [(0, .ref h_me), (1, .int v1), (2, .int v2)] → W p l e ({ frames := 6, cells := 0, slots := 0, locals := 145 } : Room) s m ([.ref h_me, .int p0] : List Value).toArray below meth c H locs 0 0 Qz (F0 m 119 ls []) := by
    intro rec_7_0 hrec_7_0
    intro v1 v2 o_me H locs ls h hw hl
    unfold bk_X9_layPlaces_119 at h
    obtain ⟨x3, ex3, h⟩ := z_lt h
    refine lv_iinc (v := x3) (lv' := [(2, .int x3), (0, .ref h_me), (1, .int v1)]) hx hb dX9_layPlaces_119 hl (k := 2) rfl ((congrArg (v2 + ·) (show Int32.ofInt 1 = (1 : Int32) from by decide)).trans ex3.symm) (by decide) rfl (fun ls hl => ?_)
    refine lv_goto (tgt := 7) hx hb dX9_layPlaces_122 (by decide) ?_
    exact hrec_7_0 v1 x3 o_me _ _ _ h hw (lv_sub hl [1, 2, 0] rfl)
  have bk_102_3 : ∀ (rec_7_0 : Int32 × Int32 × Ob → Option (Ob)) (hrec_7_0 : ∀ (v1 : Int32) (v2 : Int32) (o_me : Ob) (H : Heap) (locs : List Loc) (ls : Array Slot), rec_7_0 (v1, v2, o_me) = some y → Wd dC dI A s.heap [wX9 h_me q_me k_me o_me] H locs → lv_has ls 4 [(0, .ref h_me), (1, .int v1), (2, .int v2)] → W p l e ({ frames := 6, cells := 0, slots := 0, locals := 145 } : Room) s m ([.ref h_me, .int p0] : List Value).toArray below meth c H locs 0 0 Qz (F0 m 7 ls [])), ∀ (v1 : Int32) (v2 : Int32) (v3 : Int32) (o_me : Ob) (H : Heap) (locs : List Loc) (ls : Array Slot), bk_X9_layPlaces_102  rec_7_0 v1 v2 v3 o_me = some y → Wd dC dI A s.heap [wX9 h_me q_me k_me o_me] H locs → lv_has ls 4 [(0, .ref h_me), (1, .int v1), (2, .int v2), (3, .int v3)] → W p l e ({ frames := 6, cells := 0, slots := 0, locals := 145 } : Room) s m ([.ref h_me, .int p0] : List Value).toArray below meth c H locs 0 0 Qz (F0 m 102 ls []) := by
    intro rec_7_0 hrec_7_0
    intro v1 v2 v3 o_me H locs ls h hw hl
    unfold bk_X9_layPlaces_102 at h
    refine lv_aload_n hx hb dX9_layPlaces_102 rfl (lv_at hl 0 rfl) ?_
    refine fgX9_42 hx hb hts hown hK hw 0 rfl kw1218 dX9_layPlaces_103 ?_
    refine lv_iload_n hx hb dX9_layPlaces_106 rfl (lv_at hl 3 rfl) ?_
    refine lv_iload_n hx hb dX9_layPlaces_107 rfl (lv_at hl 2 rfl) ?_
    obtain ⟨g9, h⟩ := z_gd h
    refine fbX9_42 hx hb hK hw 0 rfl rfl g9 dX9_layPlaces_108 (fun H locs hw => ?_)
    obtain ⟨o10, eo10, h⟩ := z_lt h
    have hw : Wd dC dI A s.heap [wX9 h_me q_me k_me o10] H locs := by rw [eo10]; exact hw
    refine lv_aload_n hx hb dX9_layPlaces_109 rfl (lv_at hl 0 rfl) ?_
    refine lv_dup hx hb dX9_layPlaces_110 rfl ?_
    refine fgX9_43 hx hb hts hown hK hw 0 rfl kw1219 dX9_layPlaces_111 ?_
    refine lv_iconst (v := 1) hx hb dX9_layPlaces_114 (by decide) ?_
    refine lv_iadd hx hb dX9_layPlaces_115 ?_
    refine fpX9_43 hx hb hts hown hK hw 0 rfl kw1219 dX9_layPlaces_116 (fun H locs hw => ?_)
    obtain ⟨o11, eo11, h⟩ := z_lt h
    have hw : Wd dC dI A s.heap [wX9 h_me q_me k_me o11] H locs := by rw [eo11]; exact hw
    exact bk_119_1 rec_7_0 hrec_7_0 v1 v2 o11 _ _ _ h hw (lv_sub hl [0, 1, 2] rfl)
  have lp_56_2 : ∀ (rec_7_0 : Int32 × Int32 × Ob → Option (Ob)) (hrec_7_0 : ∀ (v1 : Int32) (v2 : Int32) (o_me : Ob) (H : Heap) (locs : List Loc) (ls : Array Slot), rec_7_0 (v1, v2, o_me) = some y → Wd dC dI A s.heap [wX9 h_me q_me k_me o_me] H locs → lv_has ls 4 [(0, .ref h_me), (1, .int v1), (2, .int v2)] → W p l e ({ frames := 6, cells := 0, slots := 0, locals := 145 } : Room) s m ([.ref h_me, .int p0] : List Value).toArray below meth c H locs 0 0 Qz (F0 m 7 ls [])) (N : Nat), ∀ (v1 : Int32) (v2 : Int32) (v3 : Int32) (o_me : Ob) (H : Heap) (locs : List Loc) (ls : Array Slot), lp_X9_layPlaces_56  rec_7_0 N (v1, v2, v3, o_me) = some y → Wd dC dI A s.heap [wX9 h_me q_me k_me o_me] H locs → lv_has ls 4 [(0, .ref h_me), (1, .int v1), (2, .int v2), (3, .int v3)] → W p l e ({ frames := 6, cells := 0, slots := 0, locals := 145 } : Room) s m ([.ref h_me, .int p0] : List Value).toArray below meth c H locs 0 0 Qz (F0 m 56 ls []) := by
    intro rec_7_0 hrec_7_0
    intro N
    induction N with
    | zero =>
      intro v1 v2 v3 o_me H locs ls h hw hl
      exact absurd (show (none : Option (Ob)) = some y from h) (by simp)
    | succ N ih =>
      intro v1 v2 v3 o_me H locs ls h hw hl
      have h : lb_X9_layPlaces_56  rec_7_0 (lp_X9_layPlaces_56  rec_7_0 N) v1 v2 v3 o_me = some y := h
      unfold lb_X9_layPlaces_56 at h
      refine lv_iload_n hx hb dX9_layPlaces_56 rfl (lv_at hl 3 rfl) ?_
      refine lv_if_le (tgt := 102) hx hb dX9_layPlaces_57 (by decide) (fun c => ?_) (fun c => ?_)
      · have h := z_t h c
        exact bk_102_3 rec_7_0 hrec_7_0 v1 v2 v3 o_me _ _ _ h hw (lv_sub hl [0, 1, 2, 3] rfl)
      · have h := z_f h c
        refine lv_aload_n hx hb dX9_layPlaces_60 rfl (lv_at hl 0 rfl) ?_
        refine fgX9_41 hx hb hts hown hK hw 0 rfl kw1217 dX9_layPlaces_61 ?_
        refine lv_aload_n hx hb dX9_layPlaces_64 rfl (lv_at hl 0 rfl) ?_
        refine fgX9_42 hx hb hts hown hK hw 0 rfl kw1218 dX9_layPlaces_65 ?_
        refine lv_iload_n hx hb dX9_layPlaces_68 rfl (lv_at hl 3 rfl) ?_
        refine lv_iconst (v := 1) hx hb dX9_layPlaces_69 (by decide) ?_
        refine lv_isub hx hb dX9_layPlaces_70 ?_
        obtain ⟨g12, h⟩ := z_gd h
        refine faX9_42 hx hb hK hw 0 rfl rfl g12 dX9_layPlaces_71 ?_
        obtain ⟨g13, h⟩ := z_gd h
        refine faX9_41 hx hb hK hw 0 rfl rfl g13 dX9_layPlaces_72 ?_
        refine lv_aload_n hx hb dX9_layPlaces_73 rfl (lv_at hl 0 rfl) ?_
        refine fgX9_41 hx hb hts hown hK hw 0 rfl kw1217 dX9_layPlaces_74 ?_
        refine lv_iload_n hx hb dX9_layPlaces_77 rfl (lv_at hl 2 rfl) ?_
        obtain ⟨g14, h⟩ := z_gd h
        refine faX9_41 hx hb hK hw 0 rfl rfl g14 dX9_layPlaces_78 ?_
        refine lv_icmp_ge (tgt := 102) hx hb dX9_layPlaces_79 (by decide) (fun c => ?_) (fun c => ?_)
        · have h := z_t h c
          exact bk_102_3 rec_7_0 hrec_7_0 v1 v2 v3 o_me _ _ _ h hw (lv_sub hl [0, 1, 2, 3] rfl)
        · have h := z_f h c
          refine lv_aload_n hx hb dX9_layPlaces_82 rfl (lv_at hl 0 rfl) ?_
          refine fgX9_42 hx hb hts hown hK hw 0 rfl kw1218 dX9_layPlaces_83 ?_
          refine lv_iload_n hx hb dX9_layPlaces_86 rfl (lv_at hl 3 rfl) ?_
          refine lv_aload_n hx hb dX9_layPlaces_87 rfl (lv_at hl 0 rfl) ?_
          refine fgX9_42 hx hb hts hown hK hw 0 rfl kw1218 dX9_layPlaces_88 ?_
          refine lv_iload_n hx hb dX9_layPlaces_91 rfl (lv_at hl 3 rfl) ?_
          refine lv_iconst (v := 1) hx hb dX9_layPlaces_92 (by decide) ?_
          refine lv_isub hx hb dX9_layPlaces_93 ?_
          obtain ⟨g15, h⟩ := z_gd h
          refine faX9_42 hx hb hK hw 0 rfl rfl g15 dX9_layPlaces_94 ?_
          obtain ⟨g16, h⟩ := z_gd h
          refine fbX9_42 hx hb hK hw 0 rfl rfl g16 dX9_layPlaces_95 (fun H locs hw => ?_)
          obtain ⟨o17, eo17, h⟩ := z_lt h
          have hw : Wd dC dI A s.heap [wX9 h_me q_me k_me o17] H locs := by rw [eo17]; exact hw
          obtain ⟨x18, ex18, h⟩ := z_lt h
          refine lv_iinc (v := x18) (lv' := [(3, .int x18), (0, .ref h_me), (1, .int v1), (2, .int v2)]) hx hb dX9_layPlaces_96 hl (k := 3) rfl ((congrArg (v3 + ·) (show Int32.ofInt (-1) = (-1 : Int32) from by decide)).trans ex18.symm) (by decide) rfl (fun ls hl => ?_)
          refine lv_goto (tgt := 56) hx hb dX9_layPlaces_99 (by decide) ?_
          exact ih v1 v2 x18 o17 _ _ _ h hw (lv_sub hl [1, 2, 3, 0] rfl)
  have lp_7_0 : ∀ (N : Nat), ∀ (v1 : Int32) (v2 : Int32) (o_me : Ob) (H : Heap) (locs : List Loc) (ls : Array Slot), lp_X9_layPlaces_7   N (v1, v2, o_me) = some y → Wd dC dI A s.heap [wX9 h_me q_me k_me o_me] H locs → lv_has ls 4 [(0, .ref h_me), (1, .int v1), (2, .int v2)] → W p l e ({ frames := 6, cells := 0, slots := 0, locals := 145 } : Room) s m ([.ref h_me, .int p0] : List Value).toArray below meth c H locs 0 0 Qz (F0 m 7 ls []) := by
    intro N
    induction N with
    | zero =>
      intro v1 v2 o_me H locs ls h hw hl
      exact absurd (show (none : Option (Ob)) = some y from h) (by simp)
    | succ N ih =>
      intro v1 v2 o_me H locs ls h hw hl
      have h : lb_X9_layPlaces_7   (lp_X9_layPlaces_7   N) v1 v2 o_me = some y := h
      unfold lb_X9_layPlaces_7 at h
      refine lv_iload_n hx hb dX9_layPlaces_7 rfl (lv_at hl 2 rfl) ?_
      refine lv_aload_n hx hb dX9_layPlaces_8 rfl (lv_at hl 0 rfl) ?_
      refine fgX9_3 hx hb hts hown hK hw 0 rfl kw1179 dX9_layPlaces_9 ?_
      refine lv_iconst (v := 0) hx hb dX9_layPlaces_12 (by decide) ?_
      refine faX9_3 hx hb hK hw 0 rfl rfl (by decide) dX9_layPlaces_13 ?_
      refine lv_icmp_ge (tgt := 125) hx hb dX9_layPlaces_14 (by decide) (fun c => ?_) (fun c => ?_)
      · have h := z_t h c
        have hy := Option.some.inj h
        rw [← hQz, ← hy]
        exact xr_v hx hb hr hlk hK hw dX9_layPlaces_125
      · have h := z_f h c
        refine lv_aload_n hx hb dX9_layPlaces_17 rfl (lv_at hl 0 rfl) ?_
        refine fgX9_3 hx hb hts hown hK hw 0 rfl kw1179 dX9_layPlaces_18 ?_
        refine lv_bipush (v := 22) hx hb dX9_layPlaces_21 (by decide) ?_
        refine lv_iload_n hx hb dX9_layPlaces_23 rfl (lv_at hl 2 rfl) ?_
        refine lv_iadd hx hb dX9_layPlaces_24 ?_
        obtain ⟨g2, h⟩ := z_gd h
        refine faX9_3 hx hb hK hw 0 rfl rfl g2 dX9_layPlaces_25 ?_
        refine lv_iconst (v := 1) hx hb dX9_layPlaces_26 (by decide) ?_
        refine lv_icmp_ne (tgt := 119) hx hb dX9_layPlaces_27 (by decide) (fun c => ?_) (fun c => ?_)
        · have h := z_f h c
          exact bk_119_1 (lp_X9_layPlaces_7   N) ih v1 v2 o_me _ _ _ h hw (lv_sub hl [0, 1, 2] rfl)
        · have h := z_t h c
          refine lv_aload_n hx hb dX9_layPlaces_30 rfl (lv_at hl 0 rfl) ?_
          refine lv_iload_n hx hb dX9_layPlaces_31 rfl (lv_at hl 2 rfl) ?_
          refine lv_iload_n hx hb dX9_layPlaces_32 rfl (lv_at hl 1 rfl) ?_
          obtain ⟨z4, ez4, h⟩ := z_bd h
          refine xj_i (xrV (As := [.int v2, .int v1]) (rest := []) ⟨hx, hb, hml, hown, hts⟩ (m_X9_isBarred l dC dI _ h_me q_me k_me o_me v2 v1 z4 ez4) kw1437 kw1434 kw1436 kw48 kw120 hd_X9_isBarred ⟨rfl, rfl⟩ rfl rfl ⟨rfl, rfl⟩ hX hK hw [0] (by decide) rfl rfl rfl rfl rfl hl.1 rfl rfl dX9_layPlaces_33) hw hA [0] (by decide) rfl rfl (fun H locs hw => ?_)
          have hw : Wd dC dI A s.heap [wX9 h_me q_me k_me z4.2] H locs := hw
          refine lv_if_ne (tgt := 119) hx hb dX9_layPlaces_36 (by decide) (fun c => ?_) (fun c => ?_)
          · have h := z_f h c
            exact bk_119_1 (lp_X9_layPlaces_7   N) ih v1 v2 z4.2 _ _ _ h hw (lv_sub hl [0, 1, 2] rfl)
          · have h := z_t h c
            refine lv_aload_n hx hb dX9_layPlaces_39 rfl (lv_at hl 0 rfl) ?_
            refine fgX9_41 hx hb hts hown hK hw 0 rfl kw1217 dX9_layPlaces_40 ?_
            refine lv_iload_n hx hb dX9_layPlaces_43 rfl (lv_at hl 2 rfl) ?_
            refine lv_aload_n hx hb dX9_layPlaces_44 rfl (lv_at hl 0 rfl) ?_
            refine lv_iload_n hx hb dX9_layPlaces_45 rfl (lv_at hl 2 rfl) ?_
            refine lv_iload_n hx hb dX9_layPlaces_46 rfl (lv_at hl 1 rfl) ?_
            obtain ⟨z5, ez5, h⟩ := z_bd h
            refine xj_i (xrV (As := [.int v2, .int v1]) (rest := [.int v2, .ref (q_me 41)]) ⟨hx, hb, hml, hown, hts⟩ (m_X9_runsOf l dC dI _ h_me q_me k_me z4.2 v2 v1 z5 ez5) kw1411 kw1408 kw1410 kw43 kw120 hd_X9_runsOf ⟨rfl, rfl⟩ rfl rfl ⟨rfl, rfl⟩ hX hK hw [0] (by decide) rfl rfl rfl rfl rfl hl.1 rfl rfl dX9_layPlaces_47) hw hA [0] (by decide) rfl rfl (fun H locs hw => ?_)
            have hw : Wd dC dI A s.heap [wX9 h_me q_me k_me z5.2] H locs := hw
            obtain ⟨g6, h⟩ := z_gd h
            refine fbX9_41 hx hb hK hw 0 rfl rfl g6 dX9_layPlaces_50 (fun H locs hw => ?_)
            obtain ⟨o7, eo7, h⟩ := z_lt h
            have hw : Wd dC dI A s.heap [wX9 h_me q_me k_me o7] H locs := by rw [eo7]; exact hw
            refine lv_aload_n hx hb dX9_layPlaces_51 rfl (lv_at hl 0 rfl) ?_
            refine fgX9_43 hx hb hts hown hK hw 0 rfl kw1219 dX9_layPlaces_52 ?_
            obtain ⟨x8, ex8, h⟩ := z_lt h
            refine lv_fi (v := x8) ex8.symm ?_
            refine lv_istore_n (lv' := [(3, .int x8), (0, .ref h_me), (1, .int v1), (2, .int v2)]) hx hb dX9_layPlaces_55 rfl hl (by decide) rfl (fun ls hl => ?_)
            exact lp_56_2 (lp_X9_layPlaces_7   N) ih zfu v1 v2 x8 o7 _ _ _ h hw (lv_sub hl [1, 2, 3, 0] rfl)
  unfold f_X9_layPlaces at h
  refine lv_aload_n hx hb dX9_layPlaces_0 rfl (lv_at hl 0 rfl) ?_
  refine lv_iconst (v := 0) hx hb dX9_layPlaces_1 (by decide) ?_
  refine fpX9_43 hx hb hts hown hK hw 0 rfl kw1219 dX9_layPlaces_2 (fun H locs hw => ?_)
  obtain ⟨o1, eo1, h⟩ := z_lt h
  have hw : Wd dC dI A s.heap [wX9 h_me q_me k_me o1] H locs := by rw [eo1]; exact hw
  refine lv_iconst (v := 0) hx hb dX9_layPlaces_5 (by decide) ?_
  refine lv_istore_n (lv' := [(2, .int (0 : Int32)), (0, .ref h_me), (1, .int p0)]) hx hb dX9_layPlaces_6 rfl hl (by decide) rfl (fun ls hl => ?_)
  exact lp_7_0  zfu p0 (0 : Int32) o1 _ _ _ h hw (lv_sub hl [1, 2, 0] rfl)

def lb_X9_keepAll_2   (rec_2_0 : Int32 × Int32 × Ob → Option (Ob)) (v1 : Int32) (v2 : Int32) (o_me : Ob) : Option (Ob) :=
  if (25 : Int32) ≤ v2 then
  (some o_me)
  else
  (zgd (zin ((4 : Int32) + v2) 5484) <|
  zgd (zin (((25 : Int32) * v1) + v2) 450) <|
  zlt (tA o_me 6 (((25 : Int32) * v1) + v2).toNatClampNeg (gA o_me 3 ((4 : Int32) + v2).toNatClampNeg)) fun o3 =>
  zlt (v2 + (1 : Int32)) fun x4 =>
  rec_2_0 (v1, x4, o3))
def lp_X9_keepAll_2   : Nat → (Int32 × Int32 × Ob) → Option (Ob) := zit (fun rec a => lb_X9_keepAll_2   rec a.1 a.2.1 a.2.2)
def f_X9_keepAll (o_me : Ob) (p0 : Int32) : Option (Ob) :=
  lp_X9_keepAll_2   zfu (p0, (0 : Int32), o_me)
set_option maxHeartbeats 4000000 in
set_option maxRecDepth 100000 in
theorem m_X9_keepAll (l : Launch) (dC : Nat → ClassId) (dI : Nat → Nat → Nat) (sz : Nat) (h_me : Nat) (q_me : Nat → Nat) (k_me : Nat → ClassId) (o_me : Ob) (p0 : Int32) (y : Ob) (h : f_X9_keepAll o_me p0 = some y) : CV l yX9_keepAll cX9_keepAll 3 none ({ frames := 0, cells := 0, slots := 0, locals := 0 } : Room) dC dI sz [.ref h_me, .int p0] [wX9 h_me q_me k_me o_me] [tX9 k_me] [wX9 h_me q_me k_me y] := by
  refine CC_of (by decide) (Nat.le_of_ble_eq_true rfl) ?_
  intro p e s m below meth c A ls hx hb hml hr hlk hnm hown hts hX hK hP hD hA hl
  have hl : lv_has ls 3 [(0, .ref h_me), (1, .int p0)] := hl
  have hown : s.vm.findClass RX9 = some m.cls := hown
  have hw : Wd dC dI A s.heap [wX9 h_me q_me k_me o_me] s.heap [] := ⟨hP, hD, va_S.rf⟩
  generalize hQz : (MQ below (QV dC dI (fun (_ : Unit) => True) (fun _ => Jn [wX9 h_me q_me k_me y]) (fun _ => Jt [tX9 k_me]) A) ([.ref h_me, .int p0] : List Value).toArray s 0 0 A) = Qz
  clear hP hD hnm
  have lp_2_0 : ∀ (N : Nat), ∀ (v1 : Int32) (v2 : Int32) (o_me : Ob) (H : Heap) (locs : List Loc) (ls : Array Slot), lp_X9_keepAll_2   N (v1, v2, o_me) = some y → Wd dC dI A s.heap [wX9 h_me q_me k_me o_me] H locs → lv_has ls 3 [(0, .ref h_me), (1, .int v1), (2, .int v2)] → W p l e ({ frames := 0, cells := 0, slots := 0, locals := 0 } : Room) s m ([.ref h_me, .int p0] : List Value).toArray below meth c H locs 0 0 Qz (F0 m 2 ls []) := by
    intro N
    induction N with
    | zero =>
      intro v1 v2 o_me H locs ls h hw hl
      exact absurd (show (none : Option (Ob)) = some y from h) (by simp)
    | succ N ih =>
      intro v1 v2 o_me H locs ls h hw hl
      have h : lb_X9_keepAll_2   (lp_X9_keepAll_2   N) v1 v2 o_me = some y := h
      unfold lb_X9_keepAll_2 at h
      refine lv_iload_n hx hb dX9_keepAll_2 rfl (lv_at hl 2 rfl) ?_
      refine lv_bipush (v := 25) hx hb dX9_keepAll_3 (by decide) ?_
      refine lv_icmp_ge (tgt := 33) hx hb dX9_keepAll_5 (by decide) (fun c => ?_) (fun c => ?_)
      · have h := z_t h c
        have hy := Option.some.inj h
        rw [← hQz, ← hy]
        exact xr_v hx hb hr hlk hK hw dX9_keepAll_33
      · have h := z_f h c
        refine lv_aload_n hx hb dX9_keepAll_8 rfl (lv_at hl 0 rfl) ?_
        refine fgX9_6 hx hb hts hown hK hw 0 rfl kw1182 dX9_keepAll_9 ?_
        refine lv_bipush (v := 25) hx hb dX9_keepAll_12 (by decide) ?_
        refine lv_iload_n hx hb dX9_keepAll_14 rfl (lv_at hl 1 rfl) ?_
        refine lv_imul hx hb dX9_keepAll_15 ?_
        refine lv_iload_n hx hb dX9_keepAll_16 rfl (lv_at hl 2 rfl) ?_
        refine lv_iadd hx hb dX9_keepAll_17 ?_
        refine lv_aload_n hx hb dX9_keepAll_18 rfl (lv_at hl 0 rfl) ?_
        refine fgX9_3 hx hb hts hown hK hw 0 rfl kw1179 dX9_keepAll_19 ?_
        refine lv_iconst (v := 4) hx hb dX9_keepAll_22 (by decide) ?_
        refine lv_iload_n hx hb dX9_keepAll_23 rfl (lv_at hl 2 rfl) ?_
        refine lv_iadd hx hb dX9_keepAll_24 ?_
        obtain ⟨g1, h⟩ := z_gd h
        refine faX9_3 hx hb hK hw 0 rfl rfl g1 dX9_keepAll_25 ?_
        obtain ⟨g2, h⟩ := z_gd h
        refine fbX9_6 hx hb hK hw 0 rfl rfl g2 dX9_keepAll_26 (fun H locs hw => ?_)
        obtain ⟨o3, eo3, h⟩ := z_lt h
        have hw : Wd dC dI A s.heap [wX9 h_me q_me k_me o3] H locs := by rw [eo3]; exact hw
        obtain ⟨x4, ex4, h⟩ := z_lt h
        refine lv_iinc (v := x4) (lv' := [(2, .int x4), (0, .ref h_me), (1, .int v1)]) hx hb dX9_keepAll_27 hl (k := 2) rfl ((congrArg (v2 + ·) (show Int32.ofInt 1 = (1 : Int32) from by decide)).trans ex4.symm) (by decide) rfl (fun ls hl => ?_)
        refine lv_goto (tgt := 2) hx hb dX9_keepAll_30 (by decide) ?_
        exact ih v1 x4 o3 _ _ _ h hw (lv_sub hl [1, 2, 0] rfl)
  unfold f_X9_keepAll at h
  refine lv_iconst (v := 0) hx hb dX9_keepAll_0 (by decide) ?_
  refine lv_istore_n (lv' := [(2, .int (0 : Int32)), (0, .ref h_me), (1, .int p0)]) hx hb dX9_keepAll_1 rfl hl (by decide) rfl (fun ls hl => ?_)
  exact lp_2_0  zfu p0 (0 : Int32) o_me _ _ _ h hw (lv_sub hl [1, 2, 0] rfl)

def bk_X9_remember_77   (v1 : Int32) (o_me : Ob) : Option (Ob) :=
  (f_X9_keepAll o_me (gI o_me 8)).bind fun z1 =>
  zgd (zin (gI z1 8) 16) <|
  zlt (tA z1 7 (gI z1 8).toNatClampNeg v1) fun o3 =>
  zlt (sI o3 8 ((gI o3 8) + (1 : Int32))) fun o4 =>
  some o4
def lb_X9_remember_41   (rec_41_2 : Int32 × Int32 × Ob → Option (Ob)) (v1 : Int32) (v2 : Int32) (o_me : Ob) : Option (Ob) :=
  if (15 : Int32) ≤ v2 then
  (zlt (sI o_me 8 ((gI o_me 8) - (1 : Int32))) fun o5 =>
  bk_X9_remember_77   v1 o5)
  else
  (zgd (zin (v2 + (1 : Int32)) 16) <|
  zgd (zin v2 16) <|
  zlt (tA o_me 7 v2.toNatClampNeg (gA o_me 7 (v2 + (1 : Int32)).toNatClampNeg)) fun o8 =>
  zlt (v2 + (1 : Int32)) fun x9 =>
  rec_41_2 (v1, x9, o8))
def lp_X9_remember_41   : Nat → (Int32 × Int32 × Ob) → Option (Ob) := zit (fun rec a => lb_X9_remember_41   rec a.1 a.2.1 a.2.2)
def lb_X9_remember_11   (rec_11_1 : Int32 × Int32 × Ob → Option (Ob)) (v1 : Int32) (v2 : Int32) (o_me : Ob) : Option (Ob) :=
  if (375 : Int32) ≤ v2 then
  (lp_X9_remember_41   zfu (v1, (0 : Int32), o_me))
  else
  (zgd (zin (v2 + (25 : Int32)) 450) <|
  zgd (zin v2 450) <|
  zlt (tA o_me 6 v2.toNatClampNeg (gA o_me 6 (v2 + (25 : Int32)).toNatClampNeg)) fun o12 =>
  zlt (v2 + (1 : Int32)) fun x13 =>
  rec_11_1 (v1, x13, o12))
def lp_X9_remember_11   : Nat → (Int32 × Int32 × Ob) → Option (Ob) := zit (fun rec a => lb_X9_remember_11   rec a.1 a.2.1 a.2.2)
def f_X9_remember (o_me : Ob) (p0 : Int32) : Option (Ob) :=
  if (gI o_me 8) = (16 : Int32) then
  (lp_X9_remember_11   zfu (p0, (0 : Int32), o_me))
  else
  (bk_X9_remember_77   p0 o_me)
set_option maxHeartbeats 4000000 in
set_option maxRecDepth 100000 in
theorem m_X9_remember (l : Launch) (dC : Nat → ClassId) (dI : Nat → Nat → Nat) (sz : Nat) (h_me : Nat) (q_me : Nat → Nat) (k_me : Nat → ClassId) (o_me : Ob) (p0 : Int32) (y : Ob) (h : f_X9_remember o_me p0 = some y) : CV l yX9_remember cX9_remember 3 none ({ frames := 1, cells := 0, slots := 0, locals := 22 } : Room) dC dI sz [.ref h_me, .int p0] [wX9 h_me q_me k_me o_me] [tX9 k_me] [wX9 h_me q_me k_me y] := by
  refine CC_of (by decide) (Nat.le_of_ble_eq_true rfl) ?_
  intro p e s m below meth c A ls hx hb hml hr hlk hnm hown hts hX hK hP hD hA hl
  have hl : lv_has ls 3 [(0, .ref h_me), (1, .int p0)] := hl
  have hown : s.vm.findClass RX9 = some m.cls := hown
  have hw : Wd dC dI A s.heap [wX9 h_me q_me k_me o_me] s.heap [] := ⟨hP, hD, va_S.rf⟩
  generalize hQz : (MQ below (QV dC dI (fun (_ : Unit) => True) (fun _ => Jn [wX9 h_me q_me k_me y]) (fun _ => Jt [tX9 k_me]) A) ([.ref h_me, .int p0] : List Value).toArray s 0 0 A) = Qz
  clear hP hD hnm
  have bk_77_0 : ∀ (v1 : Int32) (o_me : Ob) (H : Heap) (locs : List Loc) (ls : Array Slot), bk_X9_remember_77   v1 o_me = some y → Wd dC dI A s.heap [wX9 h_me q_me k_me o_me] H locs → lv_has ls 3 [(0, .ref h_me), (1, .int v1)] → W p l e ({ frames := 1, cells := 0, slots := 0, locals := 22 } : Room) s m ([.ref h_me, .int p0] : List Value).toArray below meth c H locs 0 0 Qz (F0 m 77 ls []) := by
    intro v1 o_me H locs ls h hw hl
    unfold bk_X9_remember_77 at h
    refine lv_aload_n hx hb dX9_remember_77 rfl (lv_at hl 0 rfl) ?_
    refine lv_aload_n hx hb dX9_remember_78 rfl (lv_at hl 0 rfl) ?_
    refine fgX9_8 hx hb hts hown hK hw 0 rfl kw1184 dX9_remember_79 ?_
    obtain ⟨z1, ez1, h⟩ := z_bd h
    refine xj_v (xrV (As := [.int (gI o_me 8)]) (rest := []) ⟨hx, hb, hml, hown, hts⟩ (m_X9_keepAll l dC dI _ h_me q_me k_me o_me (gI o_me 8) z1 ez1) kw1639 kw1636 kw1638 kw79 kw120 hd_X9_keepAll ⟨rfl, rfl⟩ rfl rfl ⟨rfl, rfl⟩ hX hK hw [0] (by decide) rfl rfl rfl rfl rfl hl.1 rfl rfl dX9_remember_82) hw hA [0] (by decide) rfl rfl (fun H locs hw => ?_)
    have hw : Wd dC dI A s.heap [wX9 h_me q_me k_me z1] H locs := hw
    refine lv_aload_n hx hb dX9_remember_85 rfl (lv_at hl 0 rfl) ?_
    refine fgX9_7 hx hb hts hown hK hw 0 rfl kw1183 dX9_remember_86 ?_
    refine lv_aload_n hx hb dX9_remember_89 rfl (lv_at hl 0 rfl) ?_
    refine fgX9_8 hx hb hts hown hK hw 0 rfl kw1184 dX9_remember_90 ?_
    refine lv_iload_n hx hb dX9_remember_93 rfl (lv_at hl 1 rfl) ?_
    obtain ⟨g2, h⟩ := z_gd h
    refine fbX9_7 hx hb hK hw 0 rfl rfl g2 dX9_remember_94 (fun H locs hw => ?_)
    obtain ⟨o3, eo3, h⟩ := z_lt h
    have hw : Wd dC dI A s.heap [wX9 h_me q_me k_me o3] H locs := by rw [eo3]; exact hw
    refine lv_aload_n hx hb dX9_remember_95 rfl (lv_at hl 0 rfl) ?_
    refine lv_dup hx hb dX9_remember_96 rfl ?_
    refine fgX9_8 hx hb hts hown hK hw 0 rfl kw1184 dX9_remember_97 ?_
    refine lv_iconst (v := 1) hx hb dX9_remember_100 (by decide) ?_
    refine lv_iadd hx hb dX9_remember_101 ?_
    refine fpX9_8 hx hb hts hown hK hw 0 rfl kw1184 dX9_remember_102 (fun H locs hw => ?_)
    obtain ⟨o4, eo4, h⟩ := z_lt h
    have hw : Wd dC dI A s.heap [wX9 h_me q_me k_me o4] H locs := by rw [eo4]; exact hw
    have hy := Option.some.inj h
    rw [← hQz, ← hy]
    exact xr_v hx hb hr hlk hK hw dX9_remember_105
  have lp_41_2 : ∀ (N : Nat), ∀ (v1 : Int32) (v2 : Int32) (o_me : Ob) (H : Heap) (locs : List Loc) (ls : Array Slot), lp_X9_remember_41   N (v1, v2, o_me) = some y → Wd dC dI A s.heap [wX9 h_me q_me k_me o_me] H locs → lv_has ls 3 [(0, .ref h_me), (1, .int v1), (2, .int v2)] → W p l e ({ frames := 1, cells := 0, slots := 0, locals := 22 } : Room) s m ([.ref h_me, .int p0] : List Value).toArray below meth c H locs 0 0 Qz (F0 m 41 ls []) := by
    intro N
    induction N with
    | zero =>
      intro v1 v2 o_me H locs ls h hw hl
      exact absurd (show (none : Option (Ob)) = some y from h) (by simp)
    | succ N ih =>
      intro v1 v2 o_me H locs ls h hw hl
      have h : lb_X9_remember_41   (lp_X9_remember_41   N) v1 v2 o_me = some y := h
      unfold lb_X9_remember_41 at h
      refine lv_iload_n hx hb dX9_remember_41 rfl (lv_at hl 2 rfl) ?_
      refine lv_bipush (v := 15) hx hb dX9_remember_42 (by decide) ?_
      refine lv_icmp_ge (tgt := 67) hx hb dX9_remember_44 (by decide) (fun c => ?_) (fun c => ?_)
      · have h := z_t h c
        refine lv_aload_n hx hb dX9_remember_67 rfl (lv_at hl 0 rfl) ?_
        refine lv_dup hx hb dX9_remember_68 rfl ?_
        refine fgX9_8 hx hb hts hown hK hw 0 rfl kw1184 dX9_remember_69 ?_
        refine lv_iconst (v := 1) hx hb dX9_remember_72 (by decide) ?_
        refine lv_isub hx hb dX9_remember_73 ?_
        refine fpX9_8 hx hb hts hown hK hw 0 rfl kw1184 dX9_remember_74 (fun H locs hw => ?_)
        obtain ⟨o5, eo5, h⟩ := z_lt h
        have hw : Wd dC dI A s.heap [wX9 h_me q_me k_me o5] H locs := by rw [eo5]; exact hw
        exact bk_77_0  v1 o5 _ _ _ h hw (lv_sub hl [0, 1] rfl)
      · have h := z_f h c
        refine lv_aload_n hx hb dX9_remember_47 rfl (lv_at hl 0 rfl) ?_
        refine fgX9_7 hx hb hts hown hK hw 0 rfl kw1183 dX9_remember_48 ?_
        refine lv_iload_n hx hb dX9_remember_51 rfl (lv_at hl 2 rfl) ?_
        refine lv_aload_n hx hb dX9_remember_52 rfl (lv_at hl 0 rfl) ?_
        refine fgX9_7 hx hb hts hown hK hw 0 rfl kw1183 dX9_remember_53 ?_
        refine lv_iload_n hx hb dX9_remember_56 rfl (lv_at hl 2 rfl) ?_
        refine lv_iconst (v := 1) hx hb dX9_remember_57 (by decide) ?_
        refine lv_iadd hx hb dX9_remember_58 ?_
        obtain ⟨g6, h⟩ := z_gd h
        refine faX9_7 hx hb hK hw 0 rfl rfl g6 dX9_remember_59 ?_
        obtain ⟨g7, h⟩ := z_gd h
        refine fbX9_7 hx hb hK hw 0 rfl rfl g7 dX9_remember_60 (fun H locs hw => ?_)
        obtain ⟨o8, eo8, h⟩ := z_lt h
        have hw : Wd dC dI A s.heap [wX9 h_me q_me k_me o8] H locs := by rw [eo8]; exact hw
        obtain ⟨x9, ex9, h⟩ := z_lt h
        refine lv_iinc (v := x9) (lv' := [(2, .int x9), (0, .ref h_me), (1, .int v1)]) hx hb dX9_remember_61 hl (k := 2) rfl ((congrArg (v2 + ·) (show Int32.ofInt 1 = (1 : Int32) from by decide)).trans ex9.symm) (by decide) rfl (fun ls hl => ?_)
        refine lv_goto (tgt := 41) hx hb dX9_remember_64 (by decide) ?_
        exact ih v1 x9 o8 _ _ _ h hw (lv_sub hl [1, 2, 0] rfl)
  have lp_11_1 : ∀ (N : Nat), ∀ (v1 : Int32) (v2 : Int32) (o_me : Ob) (H : Heap) (locs : List Loc) (ls : Array Slot), lp_X9_remember_11   N (v1, v2, o_me) = some y → Wd dC dI A s.heap [wX9 h_me q_me k_me o_me] H locs → lv_has ls 3 [(0, .ref h_me), (1, .int v1), (2, .int v2)] → W p l e ({ frames := 1, cells := 0, slots := 0, locals := 22 } : Room) s m ([.ref h_me, .int p0] : List Value).toArray below meth c H locs 0 0 Qz (F0 m 11 ls []) := by
    intro N
    induction N with
    | zero =>
      intro v1 v2 o_me H locs ls h hw hl
      exact absurd (show (none : Option (Ob)) = some y from h) (by simp)
    | succ N ih =>
      intro v1 v2 o_me H locs ls h hw hl
      have h : lb_X9_remember_11   (lp_X9_remember_11   N) v1 v2 o_me = some y := h
      unfold lb_X9_remember_11 at h
      refine lv_iload_n hx hb dX9_remember_11 rfl (lv_at hl 2 rfl) ?_
      refine lv_sipush (v := 375) hx hb dX9_remember_12 (by decide) ?_
      refine lv_icmp_ge (tgt := 39) hx hb dX9_remember_15 (by decide) (fun c => ?_) (fun c => ?_)
      · have h := z_t h c
        refine lv_iconst (v := 0) hx hb dX9_remember_39 (by decide) ?_
        refine lv_istore_n (lv' := [(2, .int (0 : Int32)), (0, .ref h_me), (1, .int v1)]) hx hb dX9_remember_40 rfl hl (by decide) rfl (fun ls hl => ?_)
        exact lp_41_2  zfu v1 (0 : Int32) o_me _ _ _ h hw (lv_sub hl [1, 2, 0] rfl)
      · have h := z_f h c
        refine lv_aload_n hx hb dX9_remember_18 rfl (lv_at hl 0 rfl) ?_
        refine fgX9_6 hx hb hts hown hK hw 0 rfl kw1182 dX9_remember_19 ?_
        refine lv_iload_n hx hb dX9_remember_22 rfl (lv_at hl 2 rfl) ?_
        refine lv_aload_n hx hb dX9_remember_23 rfl (lv_at hl 0 rfl) ?_
        refine fgX9_6 hx hb hts hown hK hw 0 rfl kw1182 dX9_remember_24 ?_
        refine lv_iload_n hx hb dX9_remember_27 rfl (lv_at hl 2 rfl) ?_
        refine lv_bipush (v := 25) hx hb dX9_remember_28 (by decide) ?_
        refine lv_iadd hx hb dX9_remember_30 ?_
        obtain ⟨g10, h⟩ := z_gd h
        refine faX9_6 hx hb hK hw 0 rfl rfl g10 dX9_remember_31 ?_
        obtain ⟨g11, h⟩ := z_gd h
        refine fbX9_6 hx hb hK hw 0 rfl rfl g11 dX9_remember_32 (fun H locs hw => ?_)
        obtain ⟨o12, eo12, h⟩ := z_lt h
        have hw : Wd dC dI A s.heap [wX9 h_me q_me k_me o12] H locs := by rw [eo12]; exact hw
        obtain ⟨x13, ex13, h⟩ := z_lt h
        refine lv_iinc (v := x13) (lv' := [(2, .int x13), (0, .ref h_me), (1, .int v1)]) hx hb dX9_remember_33 hl (k := 2) rfl ((congrArg (v2 + ·) (show Int32.ofInt 1 = (1 : Int32) from by decide)).trans ex13.symm) (by decide) rfl (fun ls hl => ?_)
        refine lv_goto (tgt := 11) hx hb dX9_remember_36 (by decide) ?_
        exact ih v1 x13 o12 _ _ _ h hw (lv_sub hl [1, 2, 0] rfl)
  unfold f_X9_remember at h
  refine lv_aload_n hx hb dX9_remember_0 rfl (lv_at hl 0 rfl) ?_
  refine fgX9_8 hx hb hts hown hK hw 0 rfl kw1184 dX9_remember_1 ?_
  refine lv_bipush (v := 16) hx hb dX9_remember_4 (by decide) ?_
  refine lv_icmp_ne (tgt := 77) hx hb dX9_remember_6 (by decide) (fun c => ?_) (fun c => ?_)
  · have h := z_f h c
    exact bk_77_0  p0 o_me _ _ _ h hw (lv_sub hl [0, 1] rfl)
  · have h := z_t h c
    refine lv_iconst (v := 0) hx hb dX9_remember_9 (by decide) ?_
    refine lv_istore_n (lv' := [(2, .int (0 : Int32)), (0, .ref h_me), (1, .int p0)]) hx hb dX9_remember_10 rfl hl (by decide) rfl (fun ls hl => ?_)
    exact lp_11_1  zfu p0 (0 : Int32) o_me _ _ _ h hw (lv_sub hl [1, 2, 0] rfl)

def f_X9_winsOf (o_me : Ob) (p0 : Int32) (p1 : Int32) (p2 : Int32) : Option (Int32 × Ob) :=
  (f_X9_tells o_me (2 : Int32) p0 p1 p2 ((4 : Int64) - p2.toInt64)).bind fun z1 =>
  (f_X9_within z1.1 (0 : Int32) (9 : Int32)).bind fun z2 =>
  some (z2, z1.2)
set_option maxHeartbeats 4000000 in
set_option maxRecDepth 100000 in
theorem m_X9_winsOf (l : Launch) (dC : Nat → ClassId) (dI : Nat → Nat → Nat) (sz : Nat) (h_me : Nat) (q_me : Nat → Nat) (k_me : Nat → ClassId) (o_me : Ob) (p0 : Int32) (p1 : Int32) (p2 : Int32) (y : Int32 × Ob) (h : f_X9_winsOf o_me p0 p1 p2 = some y) : CI l yX9_winsOf cX9_winsOf 4 (some .int) ({ frames := 5, cells := 0, slots := 0, locals := 123 } : Room) dC dI sz [.ref h_me, .int p0, .int p1, .int p2] [wX9 h_me q_me k_me o_me] [tX9 k_me] y.1 [wX9 h_me q_me k_me y.2] := by
  refine CC_of (by decide) (Nat.le_of_ble_eq_true rfl) ?_
  intro p e s m below meth c A ls hx hb hml hr hlk hnm hown hts hX hK hP hD hA hl
  have hl : lv_has ls 4 [(0, .ref h_me), (1, .int p0), (2, .int p1), (3, .int p2)] := hl
  have hown : s.vm.findClass RX9 = some m.cls := hown
  have hw : Wd dC dI A s.heap [wX9 h_me q_me k_me o_me] s.heap [] := ⟨hP, hD, va_S.rf⟩
  generalize hQz : (MQ below (QI dC dI (fun r (_ : Unit) => r = y.1) (fun _ => Jn [wX9 h_me q_me k_me y.2]) (fun _ => Jt [tX9 k_me]) A) ([.ref h_me, .int p0, .int p1, .int p2] : List Value).toArray s 0 0 A) = Qz
  clear hP hD hnm
  unfold f_X9_winsOf at h
  refine lv_aload_n hx hb dX9_winsOf_0 rfl (lv_at hl 0 rfl) ?_
  refine lv_iconst (v := 2) hx hb dX9_winsOf_1 (by decide) ?_
  refine lv_iload_n hx hb dX9_winsOf_2 rfl (lv_at hl 1 rfl) ?_
  refine lv_iload_n hx hb dX9_winsOf_3 rfl (lv_at hl 2 rfl) ?_
  refine lv_iload_n hx hb dX9_winsOf_4 rfl (lv_at hl 3 rfl) ?_
  refine lv_ldc2 (v := 4) hx hb hown (hts _ kw1648) dX9_winsOf_5 ?_
  refine lv_iload_n hx hb dX9_winsOf_8 rfl (lv_at hl 3 rfl) ?_
  refine lv_i2l hx hb dX9_winsOf_9 rfl ?_
  refine lv_lsub hx hb dX9_winsOf_10 ?_
  obtain ⟨z1, ez1, h⟩ := z_bd h
  refine xj_l (xrV (As := [.int (2 : Int32), .int p0, .int p1, .int p2, .long ((4 : Int64) - p2.toInt64)]) (rest := []) ⟨hx, hb, hml, hown, hts⟩ (m_X9_tells l dC dI _ h_me q_me k_me o_me (2 : Int32) p0 p1 p2 ((4 : Int64) - p2.toInt64) z1 ez1) kw1415 kw1412 kw1414 kw44 kw120 hd_X9_tells ⟨rfl, rfl⟩ rfl rfl ⟨rfl, rfl⟩ hX hK hw [0] (by decide) rfl rfl rfl rfl rfl hl.1 rfl rfl dX9_winsOf_11) hw hA [0] (by decide) rfl rfl (fun H locs hw => ?_)
  have hw : Wd dC dI A s.heap [wX9 h_me q_me k_me z1.2] H locs := hw
  refine lv_iconst (v := 0) hx hb dX9_winsOf_14 (by decide) ?_
  refine lv_bipush (v := 9) hx hb dX9_winsOf_15 (by decide) ?_
  obtain ⟨z2, ez2, h⟩ := z_bd h
  refine xj_i (xrS (As := [.long z1.1, .int (0 : Int32), .int (9 : Int32)]) (rest := []) ⟨hx, hb, hml, hown, hts⟩ (m_X9_within l dC dI _  z1.1 (0 : Int32) (9 : Int32) z2 ez2) kw1433 kw1431 kw1432 kw120 hd_X9_within ⟨rfl, rfl⟩ rfl rfl ⟨rfl, rfl⟩ hX hK hw [] (by decide) rfl rfl hl.1 rfl rfl dX9_winsOf_17) hw hA [] (by decide) rfl rfl (fun H locs hw => ?_)
  have hy := Option.some.inj h
  rw [← hQz, ← hy]
  exact xr_i (v := z2) hx hb hr rfl hlk hK hw dX9_winsOf_20

def f_X9_turnsOf (o_me : Ob) (p0 : Int32) (p1 : Int32) : Option (Int32 × Ob) :=
  zgd (zin ((8 : Int32) + p0) 5484) <|
  (f_X9_tells o_me (1 : Int32) p0 p1 (2 : Int32) ((((gA o_me 3 ((8 : Int32) + p0).toNatClampNeg) + (1 : Int32)) - ((gA o_me 3 ((8 : Int32) + p0).toNatClampNeg) + (1 : Int32)) / (10 : Int32) * (10 : Int32)).toInt64)).bind fun z2 =>
  (f_X9_within z2.1 (0 : Int32) (9 : Int32)).bind fun z3 =>
  some (z3, z2.2)
set_option maxHeartbeats 4000000 in
set_option maxRecDepth 100000 in
theorem m_X9_turnsOf (l : Launch) (dC : Nat → ClassId) (dI : Nat → Nat → Nat) (sz : Nat) (h_me : Nat) (q_me : Nat → Nat) (k_me : Nat → ClassId) (o_me : Ob) (p0 : Int32) (p1 : Int32) (y : Int32 × Ob) (h : f_X9_turnsOf o_me p0 p1 = some y) : CI l yX9_turnsOf cX9_turnsOf 3 (some .int) ({ frames := 5, cells := 0, slots := 0, locals := 123 } : Room) dC dI sz [.ref h_me, .int p0, .int p1] [wX9 h_me q_me k_me o_me] [tX9 k_me] y.1 [wX9 h_me q_me k_me y.2] := by
  refine CC_of (by decide) (Nat.le_of_ble_eq_true rfl) ?_
  intro p e s m below meth c A ls hx hb hml hr hlk hnm hown hts hX hK hP hD hA hl
  have hl : lv_has ls 3 [(0, .ref h_me), (1, .int p0), (2, .int p1)] := hl
  have hown : s.vm.findClass RX9 = some m.cls := hown
  have hw : Wd dC dI A s.heap [wX9 h_me q_me k_me o_me] s.heap [] := ⟨hP, hD, va_S.rf⟩
  generalize hQz : (MQ below (QI dC dI (fun r (_ : Unit) => r = y.1) (fun _ => Jn [wX9 h_me q_me k_me y.2]) (fun _ => Jt [tX9 k_me]) A) ([.ref h_me, .int p0, .int p1] : List Value).toArray s 0 0 A) = Qz
  clear hP hD hnm
  unfold f_X9_turnsOf at h
  refine lv_aload_n hx hb dX9_turnsOf_0 rfl (lv_at hl 0 rfl) ?_
  refine lv_iconst (v := 1) hx hb dX9_turnsOf_1 (by decide) ?_
  refine lv_iload_n hx hb dX9_turnsOf_2 rfl (lv_at hl 1 rfl) ?_
  refine lv_iload_n hx hb dX9_turnsOf_3 rfl (lv_at hl 2 rfl) ?_
  refine lv_iconst (v := 2) hx hb dX9_turnsOf_4 (by decide) ?_
  refine lv_aload_n hx hb dX9_turnsOf_5 rfl (lv_at hl 0 rfl) ?_
  refine fgX9_3 hx hb hts hown hK hw 0 rfl kw1179 dX9_turnsOf_6 ?_
  refine lv_bipush (v := 8) hx hb dX9_turnsOf_9 (by decide) ?_
  refine lv_iload_n hx hb dX9_turnsOf_11 rfl (lv_at hl 1 rfl) ?_
  refine lv_iadd hx hb dX9_turnsOf_12 ?_
  obtain ⟨g1, h⟩ := z_gd h
  refine faX9_3 hx hb hK hw 0 rfl rfl g1 dX9_turnsOf_13 ?_
  refine lv_iconst (v := 1) hx hb dX9_turnsOf_14 (by decide) ?_
  refine lv_iadd hx hb dX9_turnsOf_15 ?_
  refine lv_bipush (v := 10) hx hb dX9_turnsOf_16 (by decide) ?_
  refine lv_irem hx hb dX9_turnsOf_18 (by decide) ?_
  refine lv_i2l hx hb dX9_turnsOf_19 rfl ?_
  obtain ⟨z2, ez2, h⟩ := z_bd h
  refine xj_l (xrV (As := [.int (1 : Int32), .int p0, .int p1, .int (2 : Int32), .long ((((gA o_me 3 ((8 : Int32) + p0).toNatClampNeg) + (1 : Int32)) - ((gA o_me 3 ((8 : Int32) + p0).toNatClampNeg) + (1 : Int32)) / (10 : Int32) * (10 : Int32)).toInt64)]) (rest := []) ⟨hx, hb, hml, hown, hts⟩ (m_X9_tells l dC dI _ h_me q_me k_me o_me (1 : Int32) p0 p1 (2 : Int32) ((((gA o_me 3 ((8 : Int32) + p0).toNatClampNeg) + (1 : Int32)) - ((gA o_me 3 ((8 : Int32) + p0).toNatClampNeg) + (1 : Int32)) / (10 : Int32) * (10 : Int32)).toInt64) z2 ez2) kw1415 kw1412 kw1414 kw44 kw120 hd_X9_tells ⟨rfl, rfl⟩ rfl rfl ⟨rfl, rfl⟩ hX hK hw [0] (by decide) rfl rfl rfl rfl rfl hl.1 rfl rfl dX9_turnsOf_20) hw hA [0] (by decide) rfl rfl (fun H locs hw => ?_)
  have hw : Wd dC dI A s.heap [wX9 h_me q_me k_me z2.2] H locs := hw
  refine lv_iconst (v := 0) hx hb dX9_turnsOf_23 (by decide) ?_
  refine lv_bipush (v := 9) hx hb dX9_turnsOf_24 (by decide) ?_
  obtain ⟨z3, ez3, h⟩ := z_bd h
  refine xj_i (xrS (As := [.long z2.1, .int (0 : Int32), .int (9 : Int32)]) (rest := []) ⟨hx, hb, hml, hown, hts⟩ (m_X9_within l dC dI _  z2.1 (0 : Int32) (9 : Int32) z3 ez3) kw1433 kw1431 kw1432 kw120 hd_X9_within ⟨rfl, rfl⟩ rfl rfl ⟨rfl, rfl⟩ hX hK hw [] (by decide) rfl rfl hl.1 rfl rfl dX9_turnsOf_26) hw hA [] (by decide) rfl rfl (fun H locs hw => ?_)
  have hy := Option.some.inj h
  rw [← hQz, ← hy]
  exact xr_i (v := z3) hx hb hr rfl hlk hK hw dX9_turnsOf_29

def lb_X9_raceIt_219   (rec_219_5 : Int32 × Int32 × Ob → Option (Int32 × Ob)) (v2 : Int32) (v7 : Int32) (o_me : Ob) : Option (Int32 × Ob) :=
  if (gI o_me 43) ≤ v7 then
  (some (v2, o_me))
  else
  (zgd (zin v7 7) <|
  zgd (zin ((22 : Int32) + (gA o_me 42 v7.toNatClampNeg)) 5484) <|
  zlt (tA o_me 3 ((22 : Int32) + (gA o_me 42 v7.toNatClampNeg)).toNatClampNeg (0 : Int32)) fun o11 =>
  zlt (v7 + (1 : Int32)) fun x12 =>
  rec_219_5 (v2, x12, o11))
def lp_X9_raceIt_219   : Nat → (Int32 × Int32 × Ob) → Option (Int32 × Ob) := zit (fun rec a => lb_X9_raceIt_219   rec a.1 a.2.1 a.2.2)
def bk_X9_raceIt_216   (v2 : Int32) (o_me : Ob) : Option (Int32 × Ob) :=
  lp_X9_raceIt_219   zfu (v2, (0 : Int32), o_me)
def bk_X9_raceIt_169   (v2 : Int32) (v6 : Int32) (o_me : Ob) : Option (Int32 × Ob) :=
  if (gI o_me 43) ≤ (2 : Int32) then
  (bk_X9_raceIt_216   v2 o_me)
  else
  (zgd (zin ((15 : Int32) + (gA o_me 42 (2 : Int32).toNatClampNeg)) 5484) <|
  (f_X9_within (((gA o_me 3 ((15 : Int32) + (gA o_me 42 (2 : Int32).toNatClampNeg)).toNatClampNeg) + v6).toInt64) (0 : Int32) (999 : Int32)).bind fun z14 =>
  zgd (zin ((15 : Int32) + (gA o_me 42 (2 : Int32).toNatClampNeg)) 5484) <|
  zlt (tA o_me 3 ((15 : Int32) + (gA o_me 42 (2 : Int32).toNatClampNeg)).toNatClampNeg z14) fun o16 =>
  bk_X9_raceIt_216   v2 o16)
def bk_X9_raceIt_90   (v2 : Int32) (v3 : Int32) (v4 : Int32) (v5 : Int32) (s0 : Int32) (o_me : Ob) : Option (Int32 × Ob) :=
  zgd (zin ((15 : Int32) + v2) 5484) <|
  (f_X9_within (((gA o_me 3 ((15 : Int32) + v2).toNatClampNeg) + v3).toInt64) (0 : Int32) (999 : Int32)).bind fun z4 =>
  zgd (zin ((15 : Int32) + v2) 5484) <|
  zlt (tA o_me 3 ((15 : Int32) + v2).toNatClampNeg z4) fun o6 =>
  (f_X9_within (((gA o6 3 (7 : Int32).toNatClampNeg) + v4).toInt64) (0 : Int32) (999 : Int32)).bind fun z7 =>
  zlt (tA o6 3 (7 : Int32).toNatClampNeg z7) fun o8 =>
  if (gI o8 43) ≤ (1 : Int32) then
  (bk_X9_raceIt_169   v2 s0 o8)
  else
  (zgd (zin ((8 : Int32) + (gA o8 42 (1 : Int32).toNatClampNeg)) 5484) <|
  zlt (tA o8 3 ((8 : Int32) + (gA o8 42 (1 : Int32).toNatClampNeg)).toNatClampNeg v5) fun o18 =>
  bk_X9_raceIt_169   v2 s0 o18)
def bk_X9_raceIt_64   (v1 : Int32) (v2 : Int32) (v3 : Int32) (v4 : Int32) (s0 : Int32) (o_me : Ob) : Option (Int32 × Ob) :=
  if (gI o_me 43) ≤ (2 : Int32) then
  (bk_X9_raceIt_90   v2 v3 v4 s0 (0 : Int32) o_me)
  else
  ((f_X9_winsOf o_me (gA o_me 42 (2 : Int32).toNatClampNeg) v1 (3 : Int32)).bind fun z19 =>
  bk_X9_raceIt_90   v2 v3 v4 s0 z19.1 z19.2)
def bk_X9_raceIt_39   (v1 : Int32) (v2 : Int32) (v3 : Int32) (s0 : Int32) (o_me : Ob) : Option (Int32 × Ob) :=
  if (gI o_me 43) ≤ (1 : Int32) then
  (bk_X9_raceIt_64   v1 v2 v3 s0 (0 : Int32) o_me)
  else
  ((f_X9_turnsOf o_me (gA o_me 42 (1 : Int32).toNatClampNeg) v1).bind fun z20 =>
  bk_X9_raceIt_64   v1 v2 v3 s0 z20.1 z20.2)
def f_X9_raceIt (o_me : Ob) (p0 : Int32) : Option (Int32 × Ob) :=
  zlt (gA o_me 42 (0 : Int32).toNatClampNeg) fun x1 =>
  (f_X9_winsOf o_me x1 p0 (1 : Int32)).bind fun z2 =>
  if (gI z2.2 43) ≤ (1 : Int32) then
  (bk_X9_raceIt_39   p0 x1 z2.1 (0 : Int32) z2.2)
  else
  ((f_X9_winsOf z2.2 (gA z2.2 42 (1 : Int32).toNatClampNeg) p0 (2 : Int32)).bind fun z21 =>
  bk_X9_raceIt_39   p0 x1 z2.1 z21.1 z21.2)
set_option maxHeartbeats 4000000 in
set_option maxRecDepth 100000 in
theorem m_X9_raceIt (l : Launch) (dC : Nat → ClassId) (dI : Nat → Nat → Nat) (sz : Nat) (h_me : Nat) (q_me : Nat → Nat) (k_me : Nat → ClassId) (o_me : Ob) (p0 : Int32) (y : Int32 × Ob) (h : f_X9_raceIt o_me p0 = some y) : CI l yX9_raceIt cX9_raceIt 8 (some .int) ({ frames := 6, cells := 0, slots := 0, locals := 146 } : Room) dC dI sz [.ref h_me, .int p0] [wX9 h_me q_me k_me o_me] [tX9 k_me] y.1 [wX9 h_me q_me k_me y.2] := by
  refine CC_of (by decide) (Nat.le_of_ble_eq_true rfl) ?_
  intro p e s m below meth c A ls hx hb hml hr hlk hnm hown hts hX hK hP hD hA hl
  have hl : lv_has ls 8 [(0, .ref h_me), (1, .int p0)] := hl
  have hown : s.vm.findClass RX9 = some m.cls := hown
  have hw : Wd dC dI A s.heap [wX9 h_me q_me k_me o_me] s.heap [] := ⟨hP, hD, va_S.rf⟩
  generalize hQz : (MQ below (QI dC dI (fun r (_ : Unit) => r = y.1) (fun _ => Jn [wX9 h_me q_me k_me y.2]) (fun _ => Jt [tX9 k_me]) A) ([.ref h_me, .int p0] : List Value).toArray s 0 0 A) = Qz
  clear hP hD hnm
  have lp_219_5 : ∀ (N : Nat), ∀ (v2 : Int32) (v7 : Int32) (o_me : Ob) (H : Heap) (locs : List Loc) (ls : Array Slot), lp_X9_raceIt_219   N (v2, v7, o_me) = some y → Wd dC dI A s.heap [wX9 h_me q_me k_me o_me] H locs → lv_has ls 8 [(0, .ref h_me), (2, .int v2), (7, .int v7)] → W p l e ({ frames := 6, cells := 0, slots := 0, locals := 146 } : Room) s m ([.ref h_me, .int p0] : List Value).toArray below meth c H locs 0 0 Qz (F0 m 219 ls []) := by
    intro N
    induction N with
    | zero =>
      intro v2 v7 o_me H locs ls h hw hl
      exact absurd (show (none : Option (Int32 × Ob)) = some y from h) (by simp)
    | succ N ih =>
      intro v2 v7 o_me H locs ls h hw hl
      have h : lb_X9_raceIt_219   (lp_X9_raceIt_219   N) v2 v7 o_me = some y := h
      unfold lb_X9_raceIt_219 at h
      refine lv_iload hx hb dX9_raceIt_219 (lv_at hl 2 rfl) ?_
      refine lv_aload_n hx hb dX9_raceIt_221 rfl (lv_at hl 0 rfl) ?_
      refine fgX9_43 hx hb hts hown hK hw 0 rfl kw1219 dX9_raceIt_222 ?_
      refine lv_icmp_ge (tgt := 250) hx hb dX9_raceIt_225 (by decide) (fun c => ?_) (fun c => ?_)
      · have h := z_t h c
        refine lv_iload_n hx hb dX9_raceIt_250 rfl (lv_at hl 1 rfl) ?_
        have hy := Option.some.inj h
        rw [← hQz, ← hy]
        exact xr_i (v := v2) hx hb hr rfl hlk hK hw dX9_raceIt_251
      · have h := z_f h c
        refine lv_aload_n hx hb dX9_raceIt_228 rfl (lv_at hl 0 rfl) ?_
        refine fgX9_3 hx hb hts hown hK hw 0 rfl kw1179 dX9_raceIt_229 ?_
        refine lv_bipush (v := 22) hx hb dX9_raceIt_232 (by decide) ?_
        refine lv_aload_n hx hb dX9_raceIt_234 rfl (lv_at hl 0 rfl) ?_
        refine fgX9_42 hx hb hts hown hK hw 0 rfl kw1218 dX9_raceIt_235 ?_
        refine lv_iload hx hb dX9_raceIt_238 (lv_at hl 2 rfl) ?_
        obtain ⟨g9, h⟩ := z_gd h
        refine faX9_42 hx hb hK hw 0 rfl rfl g9 dX9_raceIt_240 ?_
        refine lv_iadd hx hb dX9_raceIt_241 ?_
        refine lv_iconst (v := 0) hx hb dX9_raceIt_242 (by decide) ?_
        obtain ⟨g10, h⟩ := z_gd h
        refine fbX9_3 hx hb hK hw 0 rfl rfl g10 dX9_raceIt_243 (fun H locs hw => ?_)
        obtain ⟨o11, eo11, h⟩ := z_lt h
        have hw : Wd dC dI A s.heap [wX9 h_me q_me k_me o11] H locs := by rw [eo11]; exact hw
        obtain ⟨x12, ex12, h⟩ := z_lt h
        refine lv_iinc (v := x12) (lv' := [(7, .int x12), (0, .ref h_me), (2, .int v2)]) hx hb dX9_raceIt_244 hl (k := 2) rfl ((congrArg (v7 + ·) (show Int32.ofInt 1 = (1 : Int32) from by decide)).trans ex12.symm) (by decide) rfl (fun ls hl => ?_)
        refine lv_goto (tgt := 219) hx hb dX9_raceIt_247 (by decide) ?_
        exact ih v2 x12 o11 _ _ _ h hw (lv_sub hl [1, 2, 0] rfl)
  have bk_216_4 : ∀ (v2 : Int32) (o_me : Ob) (H : Heap) (locs : List Loc) (ls : Array Slot), bk_X9_raceIt_216   v2 o_me = some y → Wd dC dI A s.heap [wX9 h_me q_me k_me o_me] H locs → lv_has ls 8 [(0, .ref h_me), (2, .int v2)] → W p l e ({ frames := 6, cells := 0, slots := 0, locals := 146 } : Room) s m ([.ref h_me, .int p0] : List Value).toArray below meth c H locs 0 0 Qz (F0 m 216 ls []) := by
    intro v2 o_me H locs ls h hw hl
    unfold bk_X9_raceIt_216 at h
    refine lv_iconst (v := 0) hx hb dX9_raceIt_216 (by decide) ?_
    refine lv_istore (lv' := [(7, .int (0 : Int32)), (0, .ref h_me), (2, .int v2)]) hx hb dX9_raceIt_217 hl (by decide) rfl (fun ls hl => ?_)
    exact lp_219_5  zfu v2 (0 : Int32) o_me _ _ _ h hw (lv_sub hl [1, 2, 0] rfl)
  have bk_169_3 : ∀ (v2 : Int32) (v6 : Int32) (o_me : Ob) (H : Heap) (locs : List Loc) (ls : Array Slot), bk_X9_raceIt_169   v2 v6 o_me = some y → Wd dC dI A s.heap [wX9 h_me q_me k_me o_me] H locs → lv_has ls 8 [(0, .ref h_me), (2, .int v2), (6, .int v6)] → W p l e ({ frames := 6, cells := 0, slots := 0, locals := 146 } : Room) s m ([.ref h_me, .int p0] : List Value).toArray below meth c H locs 0 0 Qz (F0 m 169 ls []) := by
    intro v2 v6 o_me H locs ls h hw hl
    unfold bk_X9_raceIt_169 at h
    refine lv_aload_n hx hb dX9_raceIt_169 rfl (lv_at hl 0 rfl) ?_
    refine fgX9_43 hx hb hts hown hK hw 0 rfl kw1219 dX9_raceIt_170 ?_
    refine lv_iconst (v := 2) hx hb dX9_raceIt_173 (by decide) ?_
    refine lv_icmp_le (tgt := 216) hx hb dX9_raceIt_174 (by decide) (fun c => ?_) (fun c => ?_)
    · have h := z_t h c
      exact bk_216_4  v2 o_me _ _ _ h hw (lv_sub hl [0, 1] rfl)
    · have h := z_f h c
      refine lv_aload_n hx hb dX9_raceIt_177 rfl (lv_at hl 0 rfl) ?_
      refine fgX9_3 hx hb hts hown hK hw 0 rfl kw1179 dX9_raceIt_178 ?_
      refine lv_bipush (v := 15) hx hb dX9_raceIt_181 (by decide) ?_
      refine lv_aload_n hx hb dX9_raceIt_183 rfl (lv_at hl 0 rfl) ?_
      refine fgX9_42 hx hb hts hown hK hw 0 rfl kw1218 dX9_raceIt_184 ?_
      refine lv_iconst (v := 2) hx hb dX9_raceIt_187 (by decide) ?_
      refine faX9_42 hx hb hK hw 0 rfl rfl (by decide) dX9_raceIt_188 ?_
      refine lv_iadd hx hb dX9_raceIt_189 ?_
      refine lv_aload_n hx hb dX9_raceIt_190 rfl (lv_at hl 0 rfl) ?_
      refine fgX9_3 hx hb hts hown hK hw 0 rfl kw1179 dX9_raceIt_191 ?_
      refine lv_bipush (v := 15) hx hb dX9_raceIt_194 (by decide) ?_
      refine lv_aload_n hx hb dX9_raceIt_196 rfl (lv_at hl 0 rfl) ?_
      refine fgX9_42 hx hb hts hown hK hw 0 rfl kw1218 dX9_raceIt_197 ?_
      refine lv_iconst (v := 2) hx hb dX9_raceIt_200 (by decide) ?_
      refine faX9_42 hx hb hK hw 0 rfl rfl (by decide) dX9_raceIt_201 ?_
      refine lv_iadd hx hb dX9_raceIt_202 ?_
      obtain ⟨g13, h⟩ := z_gd h
      refine faX9_3 hx hb hK hw 0 rfl rfl g13 dX9_raceIt_203 ?_
      refine lv_iload hx hb dX9_raceIt_204 (lv_at hl 2 rfl) ?_
      refine lv_iadd hx hb dX9_raceIt_206 ?_
      refine lv_i2l hx hb dX9_raceIt_207 rfl ?_
      refine lv_iconst (v := 0) hx hb dX9_raceIt_208 (by decide) ?_
      refine lv_sipush (v := 999) hx hb dX9_raceIt_209 (by decide) ?_
      obtain ⟨z14, ez14, h⟩ := z_bd h
      refine xj_i (xrS (As := [.long (((gA o_me 3 ((15 : Int32) + (gA o_me 42 (2 : Int32).toNatClampNeg)).toNatClampNeg) + v6).toInt64), .int (0 : Int32), .int (999 : Int32)]) (rest := [.int ((15 : Int32) + (gA o_me 42 (2 : Int32).toNatClampNeg)), .ref (q_me 3)]) ⟨hx, hb, hml, hown, hts⟩ (m_X9_within l dC dI _  (((gA o_me 3 ((15 : Int32) + (gA o_me 42 (2 : Int32).toNatClampNeg)).toNatClampNeg) + v6).toInt64) (0 : Int32) (999 : Int32) z14 ez14) kw1433 kw1431 kw1432 kw120 hd_X9_within ⟨rfl, rfl⟩ rfl rfl ⟨rfl, rfl⟩ hX hK hw [] (by decide) rfl rfl hl.1 rfl rfl dX9_raceIt_212) hw hA [] (by decide) rfl rfl (fun H locs hw => ?_)
      obtain ⟨g15, h⟩ := z_gd h
      refine fbX9_3 hx hb hK hw 0 rfl rfl g15 dX9_raceIt_215 (fun H locs hw => ?_)
      obtain ⟨o16, eo16, h⟩ := z_lt h
      have hw : Wd dC dI A s.heap [wX9 h_me q_me k_me o16] H locs := by rw [eo16]; exact hw
      exact bk_216_4  v2 o16 _ _ _ h hw (lv_sub hl [0, 1] rfl)
  have bk_90_2 : ∀ (v2 : Int32) (v3 : Int32) (v4 : Int32) (v5 : Int32) (s0 : Int32) (o_me : Ob) (H : Heap) (locs : List Loc) (ls : Array Slot), bk_X9_raceIt_90   v2 v3 v4 v5 s0 o_me = some y → Wd dC dI A s.heap [wX9 h_me q_me k_me o_me] H locs → lv_has ls 8 [(0, .ref h_me), (2, .int v2), (3, .int v3), (4, .int v4), (5, .int v5)] → W p l e ({ frames := 6, cells := 0, slots := 0, locals := 146 } : Room) s m ([.ref h_me, .int p0] : List Value).toArray below meth c H locs 0 0 Qz (F0 m 90 ls [.int s0]) := by
    intro v2 v3 v4 v5 s0 o_me H locs ls h hw hl
    unfold bk_X9_raceIt_90 at h
    refine lv_istore (lv' := [(6, .int s0), (0, .ref h_me), (2, .int v2), (3, .int v3), (4, .int v4), (5, .int v5)]) hx hb dX9_raceIt_90 hl (by decide) rfl (fun ls hl => ?_)
    refine lv_aload_n hx hb dX9_raceIt_92 rfl (lv_at hl 1 rfl) ?_
    refine fgX9_3 hx hb hts hown hK hw 0 rfl kw1179 dX9_raceIt_93 ?_
    refine lv_bipush (v := 15) hx hb dX9_raceIt_96 (by decide) ?_
    refine lv_iload_n hx hb dX9_raceIt_98 rfl (lv_at hl 2 rfl) ?_
    refine lv_iadd hx hb dX9_raceIt_99 ?_
    refine lv_aload_n hx hb dX9_raceIt_100 rfl (lv_at hl 1 rfl) ?_
    refine fgX9_3 hx hb hts hown hK hw 0 rfl kw1179 dX9_raceIt_101 ?_
    refine lv_bipush (v := 15) hx hb dX9_raceIt_104 (by decide) ?_
    refine lv_iload_n hx hb dX9_raceIt_106 rfl (lv_at hl 2 rfl) ?_
    refine lv_iadd hx hb dX9_raceIt_107 ?_
    obtain ⟨g3, h⟩ := z_gd h
    refine faX9_3 hx hb hK hw 0 rfl rfl g3 dX9_raceIt_108 ?_
    refine lv_iload_n hx hb dX9_raceIt_109 rfl (lv_at hl 3 rfl) ?_
    refine lv_iadd hx hb dX9_raceIt_110 ?_
    refine lv_i2l hx hb dX9_raceIt_111 rfl ?_
    refine lv_iconst (v := 0) hx hb dX9_raceIt_112 (by decide) ?_
    refine lv_sipush (v := 999) hx hb dX9_raceIt_113 (by decide) ?_
    obtain ⟨z4, ez4, h⟩ := z_bd h
    refine xj_i (xrS (As := [.long (((gA o_me 3 ((15 : Int32) + v2).toNatClampNeg) + v3).toInt64), .int (0 : Int32), .int (999 : Int32)]) (rest := [.int ((15 : Int32) + v2), .ref (q_me 3)]) ⟨hx, hb, hml, hown, hts⟩ (m_X9_within l dC dI _  (((gA o_me 3 ((15 : Int32) + v2).toNatClampNeg) + v3).toInt64) (0 : Int32) (999 : Int32) z4 ez4) kw1433 kw1431 kw1432 kw120 hd_X9_within ⟨rfl, rfl⟩ rfl rfl ⟨rfl, rfl⟩ hX hK hw [] (by decide) rfl rfl hl.1 rfl rfl dX9_raceIt_116) hw hA [] (by decide) rfl rfl (fun H locs hw => ?_)
    obtain ⟨g5, h⟩ := z_gd h
    refine fbX9_3 hx hb hK hw 0 rfl rfl g5 dX9_raceIt_119 (fun H locs hw => ?_)
    obtain ⟨o6, eo6, h⟩ := z_lt h
    have hw : Wd dC dI A s.heap [wX9 h_me q_me k_me o6] H locs := by rw [eo6]; exact hw
    refine lv_aload_n hx hb dX9_raceIt_120 rfl (lv_at hl 1 rfl) ?_
    refine fgX9_3 hx hb hts hown hK hw 0 rfl kw1179 dX9_raceIt_121 ?_
    refine lv_bipush (v := 7) hx hb dX9_raceIt_124 (by decide) ?_
    refine lv_aload_n hx hb dX9_raceIt_126 rfl (lv_at hl 1 rfl) ?_
    refine fgX9_3 hx hb hts hown hK hw 0 rfl kw1179 dX9_raceIt_127 ?_
    refine lv_bipush (v := 7) hx hb dX9_raceIt_130 (by decide) ?_
    refine faX9_3 hx hb hK hw 0 rfl rfl (by decide) dX9_raceIt_132 ?_
    refine lv_iload hx hb dX9_raceIt_133 (lv_at hl 4 rfl) ?_
    refine lv_iadd hx hb dX9_raceIt_135 ?_
    refine lv_i2l hx hb dX9_raceIt_136 rfl ?_
    refine lv_iconst (v := 0) hx hb dX9_raceIt_137 (by decide) ?_
    refine lv_sipush (v := 999) hx hb dX9_raceIt_138 (by decide) ?_
    obtain ⟨z7, ez7, h⟩ := z_bd h
    refine xj_i (xrS (As := [.long (((gA o6 3 (7 : Int32).toNatClampNeg) + v4).toInt64), .int (0 : Int32), .int (999 : Int32)]) (rest := [.int (7 : Int32), .ref (q_me 3)]) ⟨hx, hb, hml, hown, hts⟩ (m_X9_within l dC dI _  (((gA o6 3 (7 : Int32).toNatClampNeg) + v4).toInt64) (0 : Int32) (999 : Int32) z7 ez7) kw1433 kw1431 kw1432 kw120 hd_X9_within ⟨rfl, rfl⟩ rfl rfl ⟨rfl, rfl⟩ hX hK hw [] (by decide) rfl rfl hl.1 rfl rfl dX9_raceIt_141) hw hA [] (by decide) rfl rfl (fun H locs hw => ?_)
    refine fbX9_3 hx hb hK hw 0 rfl rfl (by decide) dX9_raceIt_144 (fun H locs hw => ?_)
    obtain ⟨o8, eo8, h⟩ := z_lt h
    have hw : Wd dC dI A s.heap [wX9 h_me q_me k_me o8] H locs := by rw [eo8]; exact hw
    refine lv_aload_n hx hb dX9_raceIt_145 rfl (lv_at hl 1 rfl) ?_
    refine fgX9_43 hx hb hts hown hK hw 0 rfl kw1219 dX9_raceIt_146 ?_
    refine lv_iconst (v := 1) hx hb dX9_raceIt_149 (by decide) ?_
    refine lv_icmp_le (tgt := 169) hx hb dX9_raceIt_150 (by decide) (fun c => ?_) (fun c => ?_)
    · have h := z_t h c
      exact bk_169_3  v2 s0 o8 _ _ _ h hw (lv_sub hl [1, 2, 0] rfl)
    · have h := z_f h c
      refine lv_aload_n hx hb dX9_raceIt_153 rfl (lv_at hl 1 rfl) ?_
      refine fgX9_3 hx hb hts hown hK hw 0 rfl kw1179 dX9_raceIt_154 ?_
      refine lv_bipush (v := 8) hx hb dX9_raceIt_157 (by decide) ?_
      refine lv_aload_n hx hb dX9_raceIt_159 rfl (lv_at hl 1 rfl) ?_
      refine fgX9_42 hx hb hts hown hK hw 0 rfl kw1218 dX9_raceIt_160 ?_
      refine lv_iconst (v := 1) hx hb dX9_raceIt_163 (by decide) ?_
      refine faX9_42 hx hb hK hw 0 rfl rfl (by decide) dX9_raceIt_164 ?_
      refine lv_iadd hx hb dX9_raceIt_165 ?_
      refine lv_iload hx hb dX9_raceIt_166 (lv_at hl 5 rfl) ?_
      obtain ⟨g17, h⟩ := z_gd h
      refine fbX9_3 hx hb hK hw 0 rfl rfl g17 dX9_raceIt_168 (fun H locs hw => ?_)
      obtain ⟨o18, eo18, h⟩ := z_lt h
      have hw : Wd dC dI A s.heap [wX9 h_me q_me k_me o18] H locs := by rw [eo18]; exact hw
      exact bk_169_3  v2 s0 o18 _ _ _ h hw (lv_sub hl [1, 2, 0] rfl)
  have bk_64_1 : ∀ (v1 : Int32) (v2 : Int32) (v3 : Int32) (v4 : Int32) (s0 : Int32) (o_me : Ob) (H : Heap) (locs : List Loc) (ls : Array Slot), bk_X9_raceIt_64   v1 v2 v3 v4 s0 o_me = some y → Wd dC dI A s.heap [wX9 h_me q_me k_me o_me] H locs → lv_has ls 8 [(0, .ref h_me), (1, .int v1), (2, .int v2), (3, .int v3), (4, .int v4)] → W p l e ({ frames := 6, cells := 0, slots := 0, locals := 146 } : Room) s m ([.ref h_me, .int p0] : List Value).toArray below meth c H locs 0 0 Qz (F0 m 64 ls [.int s0]) := by
    intro v1 v2 v3 v4 s0 o_me H locs ls h hw hl
    unfold bk_X9_raceIt_64 at h
    refine lv_istore (lv' := [(5, .int s0), (0, .ref h_me), (1, .int v1), (2, .int v2), (3, .int v3), (4, .int v4)]) hx hb dX9_raceIt_64 hl (by decide) rfl (fun ls hl => ?_)
    refine lv_aload_n hx hb dX9_raceIt_66 rfl (lv_at hl 1 rfl) ?_
    refine fgX9_43 hx hb hts hown hK hw 0 rfl kw1219 dX9_raceIt_67 ?_
    refine lv_iconst (v := 2) hx hb dX9_raceIt_70 (by decide) ?_
    refine lv_icmp_le (tgt := 89) hx hb dX9_raceIt_71 (by decide) (fun c => ?_) (fun c => ?_)
    · have h := z_t h c
      refine lv_iconst (v := 0) hx hb dX9_raceIt_89 (by decide) ?_
      exact bk_90_2  v2 v3 v4 s0 (0 : Int32) o_me _ _ _ h hw (lv_sub hl [1, 3, 4, 5, 0] rfl)
    · have h := z_f h c
      refine lv_aload_n hx hb dX9_raceIt_74 rfl (lv_at hl 1 rfl) ?_
      refine lv_aload_n hx hb dX9_raceIt_75 rfl (lv_at hl 1 rfl) ?_
      refine fgX9_42 hx hb hts hown hK hw 0 rfl kw1218 dX9_raceIt_76 ?_
      refine lv_iconst (v := 2) hx hb dX9_raceIt_79 (by decide) ?_
      refine faX9_42 hx hb hK hw 0 rfl rfl (by decide) dX9_raceIt_80 ?_
      refine lv_iload_n hx hb dX9_raceIt_81 rfl (lv_at hl 2 rfl) ?_
      refine lv_iconst (v := 3) hx hb dX9_raceIt_82 (by decide) ?_
      obtain ⟨z19, ez19, h⟩ := z_bd h
      refine xj_i (xrV (As := [.int (gA o_me 42 (2 : Int32).toNatClampNeg), .int v1, .int (3 : Int32)]) (rest := []) ⟨hx, hb, hml, hown, hts⟩ (m_X9_winsOf l dC dI _ h_me q_me k_me o_me (gA o_me 42 (2 : Int32).toNatClampNeg) v1 (3 : Int32) z19 ez19) kw1647 kw1644 kw1646 kw81 kw120 hd_X9_winsOf ⟨rfl, rfl⟩ rfl rfl ⟨rfl, rfl⟩ hX hK hw [0] (by decide) rfl rfl rfl rfl rfl hl.1 rfl rfl dX9_raceIt_83) hw hA [0] (by decide) rfl rfl (fun H locs hw => ?_)
      have hw : Wd dC dI A s.heap [wX9 h_me q_me k_me z19.2] H locs := hw
      refine lv_goto (tgt := 90) hx hb dX9_raceIt_86 (by decide) ?_
      exact bk_90_2  v2 v3 v4 s0 z19.1 z19.2 _ _ _ h hw (lv_sub hl [1, 3, 4, 5, 0] rfl)
  have bk_39_0 : ∀ (v1 : Int32) (v2 : Int32) (v3 : Int32) (s0 : Int32) (o_me : Ob) (H : Heap) (locs : List Loc) (ls : Array Slot), bk_X9_raceIt_39   v1 v2 v3 s0 o_me = some y → Wd dC dI A s.heap [wX9 h_me q_me k_me o_me] H locs → lv_has ls 8 [(0, .ref h_me), (1, .int v1), (2, .int v2), (3, .int v3)] → W p l e ({ frames := 6, cells := 0, slots := 0, locals := 146 } : Room) s m ([.ref h_me, .int p0] : List Value).toArray below meth c H locs 0 0 Qz (F0 m 39 ls [.int s0]) := by
    intro v1 v2 v3 s0 o_me H locs ls h hw hl
    unfold bk_X9_raceIt_39 at h
    refine lv_istore (lv' := [(4, .int s0), (0, .ref h_me), (1, .int v1), (2, .int v2), (3, .int v3)]) hx hb dX9_raceIt_39 hl (by decide) rfl (fun ls hl => ?_)
    refine lv_aload_n hx hb dX9_raceIt_41 rfl (lv_at hl 1 rfl) ?_
    refine fgX9_43 hx hb hts hown hK hw 0 rfl kw1219 dX9_raceIt_42 ?_
    refine lv_iconst (v := 1) hx hb dX9_raceIt_45 (by decide) ?_
    refine lv_icmp_le (tgt := 63) hx hb dX9_raceIt_46 (by decide) (fun c => ?_) (fun c => ?_)
    · have h := z_t h c
      refine lv_iconst (v := 0) hx hb dX9_raceIt_63 (by decide) ?_
      exact bk_64_1  v1 v2 v3 s0 (0 : Int32) o_me _ _ _ h hw (lv_sub hl [1, 2, 3, 4, 0] rfl)
    · have h := z_f h c
      refine lv_aload_n hx hb dX9_raceIt_49 rfl (lv_at hl 1 rfl) ?_
      refine lv_aload_n hx hb dX9_raceIt_50 rfl (lv_at hl 1 rfl) ?_
      refine fgX9_42 hx hb hts hown hK hw 0 rfl kw1218 dX9_raceIt_51 ?_
      refine lv_iconst (v := 1) hx hb dX9_raceIt_54 (by decide) ?_
      refine faX9_42 hx hb hK hw 0 rfl rfl (by decide) dX9_raceIt_55 ?_
      refine lv_iload_n hx hb dX9_raceIt_56 rfl (lv_at hl 2 rfl) ?_
      obtain ⟨z20, ez20, h⟩ := z_bd h
      refine xj_i (xrV (As := [.int (gA o_me 42 (1 : Int32).toNatClampNeg), .int v1]) (rest := []) ⟨hx, hb, hml, hown, hts⟩ (m_X9_turnsOf l dC dI _ h_me q_me k_me o_me (gA o_me 42 (1 : Int32).toNatClampNeg) v1 z20 ez20) kw1652 kw1649 kw1651 kw82 kw120 hd_X9_turnsOf ⟨rfl, rfl⟩ rfl rfl ⟨rfl, rfl⟩ hX hK hw [0] (by decide) rfl rfl rfl rfl rfl hl.1 rfl rfl dX9_raceIt_57) hw hA [0] (by decide) rfl rfl (fun H locs hw => ?_)
      have hw : Wd dC dI A s.heap [wX9 h_me q_me k_me z20.2] H locs := hw
      refine lv_goto (tgt := 64) hx hb dX9_raceIt_60 (by decide) ?_
      exact bk_64_1  v1 v2 v3 s0 z20.1 z20.2 _ _ _ h hw (lv_sub hl [1, 2, 3, 4, 0] rfl)
  unfold f_X9_raceIt at h
  refine lv_aload_n hx hb dX9_raceIt_0 rfl (lv_at hl 0 rfl) ?_
  refine fgX9_42 hx hb hts hown hK hw 0 rfl kw1218 dX9_raceIt_1 ?_
  refine lv_iconst (v := 0) hx hb dX9_raceIt_4 (by decide) ?_
  refine faX9_42 hx hb hK hw 0 rfl rfl (by decide) dX9_raceIt_5 ?_
  obtain ⟨x1, ex1, h⟩ := z_lt h
  refine lv_fi (v := x1) ex1.symm ?_
  refine lv_istore_n (lv' := [(2, .int x1), (0, .ref h_me), (1, .int p0)]) hx hb dX9_raceIt_6 rfl hl (by decide) rfl (fun ls hl => ?_)
  refine lv_aload_n hx hb dX9_raceIt_7 rfl (lv_at hl 1 rfl) ?_
  refine lv_iload_n hx hb dX9_raceIt_8 rfl (lv_at hl 0 rfl) ?_
  refine lv_iload_n hx hb dX9_raceIt_9 rfl (lv_at hl 2 rfl) ?_
  refine lv_iconst (v := 1) hx hb dX9_raceIt_10 (by decide) ?_
  obtain ⟨z2, ez2, h⟩ := z_bd h
  refine xj_i (xrV (As := [.int x1, .int p0, .int (1 : Int32)]) (rest := []) ⟨hx, hb, hml, hown, hts⟩ (m_X9_winsOf l dC dI _ h_me q_me k_me o_me x1 p0 (1 : Int32) z2 ez2) kw1647 kw1644 kw1646 kw81 kw120 hd_X9_winsOf ⟨rfl, rfl⟩ rfl rfl ⟨rfl, rfl⟩ hX hK hw [0] (by decide) rfl rfl rfl rfl rfl hl.1 rfl rfl dX9_raceIt_11) hw hA [0] (by decide) rfl rfl (fun H locs hw => ?_)
  have hw : Wd dC dI A s.heap [wX9 h_me q_me k_me z2.2] H locs := hw
  refine lv_istore_n (lv' := [(3, .int z2.1), (2, .int x1), (0, .ref h_me), (1, .int p0)]) hx hb dX9_raceIt_14 rfl hl (by decide) rfl (fun ls hl => ?_)
  refine lv_aload_n hx hb dX9_raceIt_15 rfl (lv_at hl 2 rfl) ?_
  refine fgX9_43 hx hb hts hown hK hw 0 rfl kw1219 dX9_raceIt_16 ?_
  refine lv_iconst (v := 1) hx hb dX9_raceIt_19 (by decide) ?_
  refine lv_icmp_le (tgt := 38) hx hb dX9_raceIt_20 (by decide) (fun c => ?_) (fun c => ?_)
  · have h := z_t h c
    refine lv_iconst (v := 0) hx hb dX9_raceIt_38 (by decide) ?_
    exact bk_39_0  p0 x1 z2.1 (0 : Int32) z2.2 _ _ _ h hw (lv_sub hl [2, 3, 1, 0] rfl)
  · have h := z_f h c
    refine lv_aload_n hx hb dX9_raceIt_23 rfl (lv_at hl 2 rfl) ?_
    refine lv_aload_n hx hb dX9_raceIt_24 rfl (lv_at hl 2 rfl) ?_
    refine fgX9_42 hx hb hts hown hK hw 0 rfl kw1218 dX9_raceIt_25 ?_
    refine lv_iconst (v := 1) hx hb dX9_raceIt_28 (by decide) ?_
    refine faX9_42 hx hb hK hw 0 rfl rfl (by decide) dX9_raceIt_29 ?_
    refine lv_iload_n hx hb dX9_raceIt_30 rfl (lv_at hl 3 rfl) ?_
    refine lv_iconst (v := 2) hx hb dX9_raceIt_31 (by decide) ?_
    obtain ⟨z21, ez21, h⟩ := z_bd h
    refine xj_i (xrV (As := [.int (gA z2.2 42 (1 : Int32).toNatClampNeg), .int p0, .int (2 : Int32)]) (rest := []) ⟨hx, hb, hml, hown, hts⟩ (m_X9_winsOf l dC dI _ h_me q_me k_me z2.2 (gA z2.2 42 (1 : Int32).toNatClampNeg) p0 (2 : Int32) z21 ez21) kw1647 kw1644 kw1646 kw81 kw120 hd_X9_winsOf ⟨rfl, rfl⟩ rfl rfl ⟨rfl, rfl⟩ hX hK hw [0] (by decide) rfl rfl rfl rfl rfl hl.1 rfl rfl dX9_raceIt_32) hw hA [0] (by decide) rfl rfl (fun H locs hw => ?_)
    have hw : Wd dC dI A s.heap [wX9 h_me q_me k_me z21.2] H locs := hw
    refine lv_goto (tgt := 39) hx hb dX9_raceIt_35 (by decide) ?_
    exact bk_39_0  p0 x1 z2.1 z21.1 z21.2 _ _ _ h hw (lv_sub hl [2, 3, 1, 0] rfl)

def f_X9_raceNow (o_me : Ob) (p0 : Int32) : Option (Int32 × Ob) :=
  (f_X9_isRace p0).bind fun z1 =>
  if z1 = (0 : Int32) then
  (some ((-1 : Int32), o_me))
  else
  ((f_X9_layPlaces o_me p0).bind fun z2 =>
  if (gI z2 43) = (0 : Int32) then
  (some ((-3 : Int32), z2))
  else
  ((f_X9_remember z2 (0 : Int32)).bind fun z3 =>
  (f_X9_raceIt z3 p0).bind fun z4 =>
  some (z4.1, z4.2)))
set_option maxHeartbeats 4000000 in
set_option maxRecDepth 100000 in
theorem m_X9_raceNow (l : Launch) (dC : Nat → ClassId) (dI : Nat → Nat → Nat) (sz : Nat) (h_me : Nat) (q_me : Nat → Nat) (k_me : Nat → ClassId) (o_me : Ob) (p0 : Int32) (y : Int32 × Ob) (h : f_X9_raceNow o_me p0 = some y) : CI l yX9_raceNow cX9_raceNow 2 (some .int) ({ frames := 7, cells := 0, slots := 0, locals := 173 } : Room) dC dI sz [.ref h_me, .int p0] [wX9 h_me q_me k_me o_me] [tX9 k_me] y.1 [wX9 h_me q_me k_me y.2] := by
  refine CC_of (by decide) (Nat.le_of_ble_eq_true rfl) ?_
  intro p e s m below meth c A ls hx hb hml hr hlk hnm hown hts hX hK hP hD hA hl
  have hl : lv_has ls 2 [(0, .ref h_me), (1, .int p0)] := hl
  have hown : s.vm.findClass RX9 = some m.cls := hown
  have hw : Wd dC dI A s.heap [wX9 h_me q_me k_me o_me] s.heap [] := ⟨hP, hD, va_S.rf⟩
  generalize hQz : (MQ below (QI dC dI (fun r (_ : Unit) => r = y.1) (fun _ => Jn [wX9 h_me q_me k_me y.2]) (fun _ => Jt [tX9 k_me]) A) ([.ref h_me, .int p0] : List Value).toArray s 0 0 A) = Qz
  clear hP hD hnm
  unfold f_X9_raceNow at h
  refine lv_iload_n hx hb dX9_raceNow_0 rfl (lv_at hl 1 rfl) ?_
  obtain ⟨z1, ez1, h⟩ := z_bd h
  refine xj_i (xrS (As := [.int p0]) (rest := []) ⟨hx, hb, hml, hown, hts⟩ (m_X9_isRace l dC dI _  p0 z1 ez1) kw1444 kw1442 kw1443 kw120 hd_X9_isRace ⟨rfl, rfl⟩ rfl rfl ⟨rfl, rfl⟩ hX hK hw [] (by decide) rfl rfl hl.1 rfl rfl dX9_raceNow_1) hw hA [] (by decide) rfl rfl (fun H locs hw => ?_)
  refine lv_if_ne (tgt := 9) hx hb dX9_raceNow_4 (by decide) (fun c => ?_) (fun c => ?_)
  · have h := z_f h c
    refine lv_aload_n hx hb dX9_raceNow_9 rfl (lv_at hl 0 rfl) ?_
    refine lv_iload_n hx hb dX9_raceNow_10 rfl (lv_at hl 1 rfl) ?_
    obtain ⟨z2, ez2, h⟩ := z_bd h
    refine xj_v (xrV (As := [.int p0]) (rest := []) ⟨hx, hb, hml, hown, hts⟩ (m_X9_layPlaces l dC dI _ h_me q_me k_me o_me p0 z2 ez2) kw1462 kw1459 kw1461 kw50 kw120 hd_X9_layPlaces ⟨rfl, rfl⟩ rfl rfl ⟨rfl, rfl⟩ hX hK hw [0] (by decide) rfl rfl rfl rfl rfl hl.1 rfl rfl dX9_raceNow_11) hw hA [0] (by decide) rfl rfl (fun H locs hw => ?_)
    have hw : Wd dC dI A s.heap [wX9 h_me q_me k_me z2] H locs := hw
    refine lv_aload_n hx hb dX9_raceNow_14 rfl (lv_at hl 0 rfl) ?_
    refine fgX9_43 hx hb hts hown hK hw 0 rfl kw1219 dX9_raceNow_15 ?_
    refine lv_if_ne (tgt := 24) hx hb dX9_raceNow_18 (by decide) (fun c => ?_) (fun c => ?_)
    · have h := z_f h c
      refine lv_aload_n hx hb dX9_raceNow_24 rfl (lv_at hl 0 rfl) ?_
      refine lv_iconst (v := 0) hx hb dX9_raceNow_25 (by decide) ?_
      obtain ⟨z3, ez3, h⟩ := z_bd h
      refine xj_v (xrV (As := [.int (0 : Int32)]) (rest := []) ⟨hx, hb, hml, hown, hts⟩ (m_X9_remember l dC dI _ h_me q_me k_me z2 (0 : Int32) z3 ez3) kw1635 kw1632 kw1634 kw78 kw120 hd_X9_remember ⟨rfl, rfl⟩ rfl rfl ⟨rfl, rfl⟩ hX hK hw [0] (by decide) rfl rfl rfl rfl rfl hl.1 rfl rfl dX9_raceNow_26) hw hA [0] (by decide) rfl rfl (fun H locs hw => ?_)
      have hw : Wd dC dI A s.heap [wX9 h_me q_me k_me z3] H locs := hw
      refine lv_aload_n hx hb dX9_raceNow_29 rfl (lv_at hl 0 rfl) ?_
      refine lv_iload_n hx hb dX9_raceNow_30 rfl (lv_at hl 1 rfl) ?_
      obtain ⟨z4, ez4, h⟩ := z_bd h
      refine xj_i (xrV (As := [.int p0]) (rest := []) ⟨hx, hb, hml, hown, hts⟩ (m_X9_raceIt l dC dI _ h_me q_me k_me z3 p0 z4 ez4) kw1643 kw1640 kw1642 kw80 kw120 hd_X9_raceIt ⟨rfl, rfl⟩ rfl rfl ⟨rfl, rfl⟩ hX hK hw [0] (by decide) rfl rfl rfl rfl rfl hl.1 rfl rfl dX9_raceNow_31) hw hA [0] (by decide) rfl rfl (fun H locs hw => ?_)
      have hw : Wd dC dI A s.heap [wX9 h_me q_me k_me z4.2] H locs := hw
      have hy := Option.some.inj h
      rw [← hQz, ← hy]
      exact xr_i (v := z4.1) hx hb hr rfl hlk hK hw dX9_raceNow_34
    · have h := z_t h c
      refine lv_bipush (v := (-3)) hx hb dX9_raceNow_21 (by decide) ?_
      have hy := Option.some.inj h
      rw [← hQz, ← hy]
      exact xr_i (v := (-3 : Int32)) hx hb hr rfl hlk hK hw dX9_raceNow_23
  · have h := z_t h c
    refine lv_iconst (v := (-1)) hx hb dX9_raceNow_7 (by decide) ?_
    have hy := Option.some.inj h
    rw [← hQz, ← hy]
    exact xr_i (v := (-1 : Int32)) hx hb hr rfl hlk hK hw dX9_raceNow_8

def f_X9_enterNow (o_me : Ob) (p0 : Int32) : Option (Int32 × Ob) :=
  (f_X9_isPerson o_me p0).bind fun z1 =>
  if z1 = (0 : Int32) then
  (some ((-2 : Int32), o_me))
  else
  ((f_X9_remember o_me (1 : Int32)).bind fun z2 =>
  zgd (zin ((22 : Int32) + p0) 5484) <|
  zgd (zin ((22 : Int32) + p0) 5484) <|
  zlt (tA z2 3 ((22 : Int32) + p0).toNatClampNeg ((1 : Int32) - (gA z2 3 ((22 : Int32) + p0).toNatClampNeg))) fun o5 =>
  zgd (zin ((22 : Int32) + p0) 5484) <|
  some (gA o5 3 ((22 : Int32) + p0).toNatClampNeg, o5))
set_option maxHeartbeats 4000000 in
set_option maxRecDepth 100000 in
theorem m_X9_enterNow (l : Launch) (dC : Nat → ClassId) (dI : Nat → Nat → Nat) (sz : Nat) (h_me : Nat) (q_me : Nat → Nat) (k_me : Nat → ClassId) (o_me : Ob) (p0 : Int32) (y : Int32 × Ob) (h : f_X9_enterNow o_me p0 = some y) : CI l yX9_enterNow cX9_enterNow 2 (some .int) ({ frames := 2, cells := 0, slots := 0, locals := 46 } : Room) dC dI sz [.ref h_me, .int p0] [wX9 h_me q_me k_me o_me] [tX9 k_me] y.1 [wX9 h_me q_me k_me y.2] := by
  refine CC_of (by decide) (Nat.le_of_ble_eq_true rfl) ?_
  intro p e s m below meth c A ls hx hb hml hr hlk hnm hown hts hX hK hP hD hA hl
  have hl : lv_has ls 2 [(0, .ref h_me), (1, .int p0)] := hl
  have hown : s.vm.findClass RX9 = some m.cls := hown
  have hw : Wd dC dI A s.heap [wX9 h_me q_me k_me o_me] s.heap [] := ⟨hP, hD, va_S.rf⟩
  generalize hQz : (MQ below (QI dC dI (fun r (_ : Unit) => r = y.1) (fun _ => Jn [wX9 h_me q_me k_me y.2]) (fun _ => Jt [tX9 k_me]) A) ([.ref h_me, .int p0] : List Value).toArray s 0 0 A) = Qz
  clear hP hD hnm
  unfold f_X9_enterNow at h
  refine lv_aload_n hx hb dX9_enterNow_0 rfl (lv_at hl 0 rfl) ?_
  refine lv_iload_n hx hb dX9_enterNow_1 rfl (lv_at hl 1 rfl) ?_
  obtain ⟨z1, ez1, h⟩ := z_bd h
  refine xj_i (xrV (As := [.int p0]) (rest := []) ⟨hx, hb, hml, hown, hts⟩ (m_X9_isPerson l dC dI _ h_me q_me k_me o_me p0 z1 ez1) kw1402 kw1399 kw1401 kw42 kw120 hd_X9_isPerson ⟨rfl, rfl⟩ rfl rfl ⟨rfl, rfl⟩ hX hK hw [0] (by decide) rfl rfl rfl rfl rfl hl.1 rfl rfl dX9_enterNow_2) hw hA [0] (by decide) rfl rfl (fun H locs hw => ?_)
  have hw : Wd dC dI A s.heap [wX9 h_me q_me k_me o_me] H locs := hw
  refine lv_if_ne (tgt := 11) hx hb dX9_enterNow_5 (by decide) (fun c => ?_) (fun c => ?_)
  · have h := z_f h c
    refine lv_aload_n hx hb dX9_enterNow_11 rfl (lv_at hl 0 rfl) ?_
    refine lv_iconst (v := 1) hx hb dX9_enterNow_12 (by decide) ?_
    obtain ⟨z2, ez2, h⟩ := z_bd h
    refine xj_v (xrV (As := [.int (1 : Int32)]) (rest := []) ⟨hx, hb, hml, hown, hts⟩ (m_X9_remember l dC dI _ h_me q_me k_me o_me (1 : Int32) z2 ez2) kw1635 kw1632 kw1634 kw78 kw120 hd_X9_remember ⟨rfl, rfl⟩ rfl rfl ⟨rfl, rfl⟩ hX hK hw [0] (by decide) rfl rfl rfl rfl rfl hl.1 rfl rfl dX9_enterNow_13) hw hA [0] (by decide) rfl rfl (fun H locs hw => ?_)
    have hw : Wd dC dI A s.heap [wX9 h_me q_me k_me z2] H locs := hw
    refine lv_aload_n hx hb dX9_enterNow_16 rfl (lv_at hl 0 rfl) ?_
    refine fgX9_3 hx hb hts hown hK hw 0 rfl kw1179 dX9_enterNow_17 ?_
    refine lv_bipush (v := 22) hx hb dX9_enterNow_20 (by decide) ?_
    refine lv_iload_n hx hb dX9_enterNow_22 rfl (lv_at hl 1 rfl) ?_
    refine lv_iadd hx hb dX9_enterNow_23 ?_
    refine lv_iconst (v := 1) hx hb dX9_enterNow_24 (by decide) ?_
    refine lv_aload_n hx hb dX9_enterNow_25 rfl (lv_at hl 0 rfl) ?_
    refine fgX9_3 hx hb hts hown hK hw 0 rfl kw1179 dX9_enterNow_26 ?_
    refine lv_bipush (v := 22) hx hb dX9_enterNow_29 (by decide) ?_
    refine lv_iload_n hx hb dX9_enterNow_31 rfl (lv_at hl 1 rfl) ?_
    refine lv_iadd hx hb dX9_enterNow_32 ?_
    obtain ⟨g3, h⟩ := z_gd h
    refine faX9_3 hx hb hK hw 0 rfl rfl g3 dX9_enterNow_33 ?_
    refine lv_isub hx hb dX9_enterNow_34 ?_
    obtain ⟨g4, h⟩ := z_gd h
    refine fbX9_3 hx hb hK hw 0 rfl rfl g4 dX9_enterNow_35 (fun H locs hw => ?_)
    obtain ⟨o5, eo5, h⟩ := z_lt h
    have hw : Wd dC dI A s.heap [wX9 h_me q_me k_me o5] H locs := by rw [eo5]; exact hw
    refine lv_aload_n hx hb dX9_enterNow_36 rfl (lv_at hl 0 rfl) ?_
    refine fgX9_3 hx hb hts hown hK hw 0 rfl kw1179 dX9_enterNow_37 ?_
    refine lv_bipush (v := 22) hx hb dX9_enterNow_40 (by decide) ?_
    refine lv_iload_n hx hb dX9_enterNow_42 rfl (lv_at hl 1 rfl) ?_
    refine lv_iadd hx hb dX9_enterNow_43 ?_
    obtain ⟨g6, h⟩ := z_gd h
    refine faX9_3 hx hb hK hw 0 rfl rfl g6 dX9_enterNow_44 ?_
    have hy := Option.some.inj h
    rw [← hQz, ← hy]
    exact xr_i (v := gA o5 3 ((22 : Int32) + p0).toNatClampNeg) hx hb hr rfl hlk hK hw dX9_enterNow_45
  · have h := z_t h c
    refine lv_bipush (v := (-2)) hx hb dX9_enterNow_8 (by decide) ?_
    have hy := Option.some.inj h
    rw [← hQz, ← hy]
    exact xr_i (v := (-2 : Int32)) hx hb hr rfl hlk hK hw dX9_enterNow_10

def f_X9_takeIt (o_me : Ob) (p0 : Int32) : Option (Ob) :=
  zgd (zin ((15 : Int32) + p0) 5484) <|
  (f_X9_within (((gA o_me 3 ((15 : Int32) + p0).toNatClampNeg) + (gA o_me 3 (7 : Int32).toNatClampNeg)).toInt64) (0 : Int32) (999 : Int32)).bind fun z2 =>
  zgd (zin ((15 : Int32) + p0) 5484) <|
  zlt (tA o_me 3 ((15 : Int32) + p0).toNatClampNeg z2) fun o4 =>
  zlt (tA o4 3 (7 : Int32).toNatClampNeg (0 : Int32)) fun o5 =>
  some o5
set_option maxHeartbeats 4000000 in
set_option maxRecDepth 100000 in
theorem m_X9_takeIt (l : Launch) (dC : Nat → ClassId) (dI : Nat → Nat → Nat) (sz : Nat) (h_me : Nat) (q_me : Nat → Nat) (k_me : Nat → ClassId) (o_me : Ob) (p0 : Int32) (y : Ob) (h : f_X9_takeIt o_me p0 = some y) : CV l yX9_takeIt cX9_takeIt 2 none ({ frames := 1, cells := 0, slots := 0, locals := 23 } : Room) dC dI sz [.ref h_me, .int p0] [wX9 h_me q_me k_me o_me] [tX9 k_me] [wX9 h_me q_me k_me y] := by
  refine CC_of (by decide) (Nat.le_of_ble_eq_true rfl) ?_
  intro p e s m below meth c A ls hx hb hml hr hlk hnm hown hts hX hK hP hD hA hl
  have hl : lv_has ls 2 [(0, .ref h_me), (1, .int p0)] := hl
  have hown : s.vm.findClass RX9 = some m.cls := hown
  have hw : Wd dC dI A s.heap [wX9 h_me q_me k_me o_me] s.heap [] := ⟨hP, hD, va_S.rf⟩
  generalize hQz : (MQ below (QV dC dI (fun (_ : Unit) => True) (fun _ => Jn [wX9 h_me q_me k_me y]) (fun _ => Jt [tX9 k_me]) A) ([.ref h_me, .int p0] : List Value).toArray s 0 0 A) = Qz
  clear hP hD hnm
  unfold f_X9_takeIt at h
  refine lv_aload_n hx hb dX9_takeIt_0 rfl (lv_at hl 0 rfl) ?_
  refine fgX9_3 hx hb hts hown hK hw 0 rfl kw1179 dX9_takeIt_1 ?_
  refine lv_bipush (v := 15) hx hb dX9_takeIt_4 (by decide) ?_
  refine lv_iload_n hx hb dX9_takeIt_6 rfl (lv_at hl 1 rfl) ?_
  refine lv_iadd hx hb dX9_takeIt_7 ?_
  refine lv_aload_n hx hb dX9_takeIt_8 rfl (lv_at hl 0 rfl) ?_
  refine fgX9_3 hx hb hts hown hK hw 0 rfl kw1179 dX9_takeIt_9 ?_
  refine lv_bipush (v := 15) hx hb dX9_takeIt_12 (by decide) ?_
  refine lv_iload_n hx hb dX9_takeIt_14 rfl (lv_at hl 1 rfl) ?_
  refine lv_iadd hx hb dX9_takeIt_15 ?_
  obtain ⟨g1, h⟩ := z_gd h
  refine faX9_3 hx hb hK hw 0 rfl rfl g1 dX9_takeIt_16 ?_
  refine lv_aload_n hx hb dX9_takeIt_17 rfl (lv_at hl 0 rfl) ?_
  refine fgX9_3 hx hb hts hown hK hw 0 rfl kw1179 dX9_takeIt_18 ?_
  refine lv_bipush (v := 7) hx hb dX9_takeIt_21 (by decide) ?_
  refine faX9_3 hx hb hK hw 0 rfl rfl (by decide) dX9_takeIt_23 ?_
  refine lv_iadd hx hb dX9_takeIt_24 ?_
  refine lv_i2l hx hb dX9_takeIt_25 rfl ?_
  refine lv_iconst (v := 0) hx hb dX9_takeIt_26 (by decide) ?_
  refine lv_sipush (v := 999) hx hb dX9_takeIt_27 (by decide) ?_
  obtain ⟨z2, ez2, h⟩ := z_bd h
  refine xj_i (xrS (As := [.long (((gA o_me 3 ((15 : Int32) + p0).toNatClampNeg) + (gA o_me 3 (7 : Int32).toNatClampNeg)).toInt64), .int (0 : Int32), .int (999 : Int32)]) (rest := [.int ((15 : Int32) + p0), .ref (q_me 3)]) ⟨hx, hb, hml, hown, hts⟩ (m_X9_within l dC dI _  (((gA o_me 3 ((15 : Int32) + p0).toNatClampNeg) + (gA o_me 3 (7 : Int32).toNatClampNeg)).toInt64) (0 : Int32) (999 : Int32) z2 ez2) kw1433 kw1431 kw1432 kw120 hd_X9_within ⟨rfl, rfl⟩ rfl rfl ⟨rfl, rfl⟩ hX hK hw [] (by decide) rfl rfl hl.1 rfl rfl dX9_takeIt_30) hw hA [] (by decide) rfl rfl (fun H locs hw => ?_)
  obtain ⟨g3, h⟩ := z_gd h
  refine fbX9_3 hx hb hK hw 0 rfl rfl g3 dX9_takeIt_33 (fun H locs hw => ?_)
  obtain ⟨o4, eo4, h⟩ := z_lt h
  have hw : Wd dC dI A s.heap [wX9 h_me q_me k_me o4] H locs := by rw [eo4]; exact hw
  refine lv_aload_n hx hb dX9_takeIt_34 rfl (lv_at hl 0 rfl) ?_
  refine fgX9_3 hx hb hts hown hK hw 0 rfl kw1179 dX9_takeIt_35 ?_
  refine lv_bipush (v := 7) hx hb dX9_takeIt_38 (by decide) ?_
  refine lv_iconst (v := 0) hx hb dX9_takeIt_40 (by decide) ?_
  refine fbX9_3 hx hb hK hw 0 rfl rfl (by decide) dX9_takeIt_41 (fun H locs hw => ?_)
  obtain ⟨o5, eo5, h⟩ := z_lt h
  have hw : Wd dC dI A s.heap [wX9 h_me q_me k_me o5] H locs := by rw [eo5]; exact hw
  have hy := Option.some.inj h
  rw [← hQz, ← hy]
  exact xr_v hx hb hr hlk hK hw dX9_takeIt_42

def f_X9_takeNow (o_me : Ob) (p0 : Int32) : Option (Int32 × Ob) :=
  (f_X9_isPerson o_me p0).bind fun z1 =>
  if z1 = (0 : Int32) then
  (some ((-2 : Int32), o_me))
  else
  (zlt (gA o_me 3 (7 : Int32).toNatClampNeg) fun x2 =>
  if x2 = (0 : Int32) then
  (some ((-3 : Int32), o_me))
  else
  ((f_X9_remember o_me (2 : Int32)).bind fun z3 =>
  (f_X9_takeIt z3 p0).bind fun z4 =>
  some (x2, z4)))
set_option maxHeartbeats 4000000 in
set_option maxRecDepth 100000 in
theorem m_X9_takeNow (l : Launch) (dC : Nat → ClassId) (dI : Nat → Nat → Nat) (sz : Nat) (h_me : Nat) (q_me : Nat → Nat) (k_me : Nat → ClassId) (o_me : Ob) (p0 : Int32) (y : Int32 × Ob) (h : f_X9_takeNow o_me p0 = some y) : CI l yX9_takeNow cX9_takeNow 3 (some .int) ({ frames := 2, cells := 0, slots := 0, locals := 46 } : Room) dC dI sz [.ref h_me, .int p0] [wX9 h_me q_me k_me o_me] [tX9 k_me] y.1 [wX9 h_me q_me k_me y.2] := by
  refine CC_of (by decide) (Nat.le_of_ble_eq_true rfl) ?_
  intro p e s m below meth c A ls hx hb hml hr hlk hnm hown hts hX hK hP hD hA hl
  have hl : lv_has ls 3 [(0, .ref h_me), (1, .int p0)] := hl
  have hown : s.vm.findClass RX9 = some m.cls := hown
  have hw : Wd dC dI A s.heap [wX9 h_me q_me k_me o_me] s.heap [] := ⟨hP, hD, va_S.rf⟩
  generalize hQz : (MQ below (QI dC dI (fun r (_ : Unit) => r = y.1) (fun _ => Jn [wX9 h_me q_me k_me y.2]) (fun _ => Jt [tX9 k_me]) A) ([.ref h_me, .int p0] : List Value).toArray s 0 0 A) = Qz
  clear hP hD hnm
  unfold f_X9_takeNow at h
  refine lv_aload_n hx hb dX9_takeNow_0 rfl (lv_at hl 0 rfl) ?_
  refine lv_iload_n hx hb dX9_takeNow_1 rfl (lv_at hl 1 rfl) ?_
  obtain ⟨z1, ez1, h⟩ := z_bd h
  refine xj_i (xrV (As := [.int p0]) (rest := []) ⟨hx, hb, hml, hown, hts⟩ (m_X9_isPerson l dC dI _ h_me q_me k_me o_me p0 z1 ez1) kw1402 kw1399 kw1401 kw42 kw120 hd_X9_isPerson ⟨rfl, rfl⟩ rfl rfl ⟨rfl, rfl⟩ hX hK hw [0] (by decide) rfl rfl rfl rfl rfl hl.1 rfl rfl dX9_takeNow_2) hw hA [0] (by decide) rfl rfl (fun H locs hw => ?_)
  have hw : Wd dC dI A s.heap [wX9 h_me q_me k_me o_me] H locs := hw
  refine lv_if_ne (tgt := 11) hx hb dX9_takeNow_5 (by decide) (fun c => ?_) (fun c => ?_)
  · have h := z_f h c
    refine lv_aload_n hx hb dX9_takeNow_11 rfl (lv_at hl 0 rfl) ?_
    refine fgX9_3 hx hb hts hown hK hw 0 rfl kw1179 dX9_takeNow_12 ?_
    refine lv_bipush (v := 7) hx hb dX9_takeNow_15 (by decide) ?_
    refine faX9_3 hx hb hK hw 0 rfl rfl (by decide) dX9_takeNow_17 ?_
    obtain ⟨x2, ex2, h⟩ := z_lt h
    refine lv_fi (v := x2) ex2.symm ?_
    refine lv_istore_n (lv' := [(2, .int x2), (0, .ref h_me), (1, .int p0)]) hx hb dX9_takeNow_18 rfl hl (by decide) rfl (fun ls hl => ?_)
    refine lv_iload_n hx hb dX9_takeNow_19 rfl (lv_at hl 0 rfl) ?_
    refine lv_if_ne (tgt := 26) hx hb dX9_takeNow_20 (by decide) (fun c => ?_) (fun c => ?_)
    · have h := z_f h c
      refine lv_aload_n hx hb dX9_takeNow_26 rfl (lv_at hl 1 rfl) ?_
      refine lv_iconst (v := 2) hx hb dX9_takeNow_27 (by decide) ?_
      obtain ⟨z3, ez3, h⟩ := z_bd h
      refine xj_v (xrV (As := [.int (2 : Int32)]) (rest := []) ⟨hx, hb, hml, hown, hts⟩ (m_X9_remember l dC dI _ h_me q_me k_me o_me (2 : Int32) z3 ez3) kw1635 kw1632 kw1634 kw78 kw120 hd_X9_remember ⟨rfl, rfl⟩ rfl rfl ⟨rfl, rfl⟩ hX hK hw [0] (by decide) rfl rfl rfl rfl rfl hl.1 rfl rfl dX9_takeNow_28) hw hA [0] (by decide) rfl rfl (fun H locs hw => ?_)
      have hw : Wd dC dI A s.heap [wX9 h_me q_me k_me z3] H locs := hw
      refine lv_aload_n hx hb dX9_takeNow_31 rfl (lv_at hl 1 rfl) ?_
      refine lv_iload_n hx hb dX9_takeNow_32 rfl (lv_at hl 2 rfl) ?_
      obtain ⟨z4, ez4, h⟩ := z_bd h
      refine xj_v (xrV (As := [.int p0]) (rest := []) ⟨hx, hb, hml, hown, hts⟩ (m_X9_takeIt l dC dI _ h_me q_me k_me z3 p0 z4 ez4) kw1672 kw1669 kw1671 kw85 kw120 hd_X9_takeIt ⟨rfl, rfl⟩ rfl rfl ⟨rfl, rfl⟩ hX hK hw [0] (by decide) rfl rfl rfl rfl rfl hl.1 rfl rfl dX9_takeNow_33) hw hA [0] (by decide) rfl rfl (fun H locs hw => ?_)
      have hw : Wd dC dI A s.heap [wX9 h_me q_me k_me z4] H locs := hw
      refine lv_iload_n hx hb dX9_takeNow_36 rfl (lv_at hl 0 rfl) ?_
      have hy := Option.some.inj h
      rw [← hQz, ← hy]
      exact xr_i (v := x2) hx hb hr rfl hlk hK hw dX9_takeNow_37
    · have h := z_t h c
      refine lv_bipush (v := (-3)) hx hb dX9_takeNow_23 (by decide) ?_
      have hy := Option.some.inj h
      rw [← hQz, ← hy]
      exact xr_i (v := (-3 : Int32)) hx hb hr rfl hlk hK hw dX9_takeNow_25
  · have h := z_t h c
    refine lv_bipush (v := (-2)) hx hb dX9_takeNow_8 (by decide) ?_
    have hy := Option.some.inj h
    rw [← hQz, ← hy]
    exact xr_i (v := (-2 : Int32)) hx hb hr rfl hlk hK hw dX9_takeNow_10

def bk_X9_hasLike_39 (o_me : Ob) (rec_4_0 : Int32 × Int32 × Int32 → Option (Int32)) (v1 : Int32) (v3 : Int32) (s0 : Int32) : Option (Int32) :=
  zlt (v3 + (1 : Int32)) fun x2 =>
  rec_4_0 (v1, s0, x2)
def bk_X9_hasLike_34 (o_me : Ob) (rec_4_0 : Int32 × Int32 × Int32 → Option (Int32)) (v1 : Int32) (v3 : Int32) : Option (Int32) :=
  bk_X9_hasLike_39 o_me rec_4_0 v1 v3 (1 : Int32)
def lb_X9_hasLike_4 (o_me : Ob)  (rec_4_0 : Int32 × Int32 × Int32 → Option (Int32)) (v1 : Int32) (v2 : Int32) (v3 : Int32) : Option (Int32) :=
  if v1 ≤ v3 then
  (zgd (zbo v2) <|
  some v2)
  else
  (if v2 = (0 : Int32) then
  (zgd (zin ((8 : Int32) + v3) 5484) <|
  zgd (zin ((8 : Int32) + v1) 5484) <|
  if (gA o_me 3 ((8 : Int32) + v3).toNatClampNeg) = (gA o_me 3 ((8 : Int32) + v1).toNatClampNeg) then
  (bk_X9_hasLike_34 o_me rec_4_0 v1 v3)
  else
  (bk_X9_hasLike_39 o_me rec_4_0 v1 v3 (0 : Int32)))
  else
  (bk_X9_hasLike_34 o_me rec_4_0 v1 v3))
def lp_X9_hasLike_4 (o_me : Ob)  : Nat → (Int32 × Int32 × Int32) → Option (Int32) := zit (fun rec a => lb_X9_hasLike_4 o_me  rec a.1 a.2.1 a.2.2)
def f_X9_hasLike (o_me : Ob) (p0 : Int32) : Option (Int32) :=
  lp_X9_hasLike_4 o_me  zfu (p0, (0 : Int32), (0 : Int32))
set_option maxHeartbeats 4000000 in
set_option maxRecDepth 100000 in
theorem m_X9_hasLike (l : Launch) (dC : Nat → ClassId) (dI : Nat → Nat → Nat) (sz : Nat) (h_me : Nat) (q_me : Nat → Nat) (k_me : Nat → ClassId) (o_me : Ob) (p0 : Int32) (y : Int32) (h : f_X9_hasLike o_me p0 = some y) : CI l yX9_hasLike cX9_hasLike 4 (some .boolean) ({ frames := 0, cells := 0, slots := 0, locals := 0 } : Room) dC dI sz [.ref h_me, .int p0] [wX9 h_me q_me k_me o_me] [tX9 k_me] y [wX9 h_me q_me k_me o_me] := by
  refine CC_of (by decide) (Nat.le_of_ble_eq_true rfl) ?_
  intro p e s m below meth c A ls hx hb hml hr hlk hnm hown hts hX hK hP hD hA hl
  have hl : lv_has ls 4 [(0, .ref h_me), (1, .int p0)] := hl
  have hown : s.vm.findClass RX9 = some m.cls := hown
  have hw : Wd dC dI A s.heap [wX9 h_me q_me k_me o_me] s.heap [] := ⟨hP, hD, va_S.rf⟩
  generalize hQz : (MQ below (QI dC dI (fun r (_ : Unit) => r = y) (fun _ => Jn [wX9 h_me q_me k_me o_me]) (fun _ => Jt [tX9 k_me]) A) ([.ref h_me, .int p0] : List Value).toArray s 0 0 A) = Qz
  clear hP hD hnm
  have bk_39_2 : ∀ (rec_4_0 : Int32 × Int32 × Int32 → Option (Int32)) (hrec_4_0 : ∀ (v1 : Int32) (v2 : Int32) (v3 : Int32) (H : Heap) (locs : List Loc) (ls : Array Slot), rec_4_0 (v1, v2, v3) = some y → Wd dC dI A s.heap [wX9 h_me q_me k_me o_me] H locs → lv_has ls 4 [(0, .ref h_me), (1, .int v1), (2, .int v2), (3, .int v3)] → W p l e ({ frames := 0, cells := 0, slots := 0, locals := 0 } : Room) s m ([.ref h_me, .int p0] : List Value).toArray below meth c H locs 0 0 Qz (F0 m 4 ls [])), ∀ (v1 : Int32) (v3 : Int32) (s0 : Int32) (H : Heap) (locs : List Loc) (ls : Array Slot), bk_X9_hasLike_39 o_me rec_4_0 v1 v3 s0 = some y → Wd dC dI A s.heap [wX9 h_me q_me k_me o_me] H locs → lv_has ls 4 [(0, .ref h_me), (1, .int v1), (3, .int v3)] → W p l e ({ frames := 0, cells := 0, slots := 0, locals := 0 } : Room) s m ([.ref h_me, .int p0] : List Value).toArray below meth c H locs 0 0 Qz (F0 m 39 ls [.int s0]) := by
    intro rec_4_0 hrec_4_0
    intro v1 v3 s0 H locs ls h hw hl
    unfold bk_X9_hasLike_39 at h
    refine lv_istore_n (lv' := [(2, .int s0), (0, .ref h_me), (1, .int v1), (3, .int v3)]) hx hb dX9_hasLike_39 rfl hl (by decide) rfl (fun ls hl => ?_)
    obtain ⟨x2, ex2, h⟩ := z_lt h
    refine lv_iinc (v := x2) (lv' := [(3, .int x2), (2, .int s0), (0, .ref h_me), (1, .int v1)]) hx hb dX9_hasLike_40 hl (k := 3) rfl ((congrArg (v3 + ·) (show Int32.ofInt 1 = (1 : Int32) from by decide)).trans ex2.symm) (by decide) rfl (fun ls hl => ?_)
    refine lv_goto (tgt := 4) hx hb dX9_hasLike_43 (by decide) ?_
    exact hrec_4_0 v1 s0 x2 _ _ _ h hw (lv_sub hl [2, 3, 1, 0] rfl)
  have bk_34_1 : ∀ (rec_4_0 : Int32 × Int32 × Int32 → Option (Int32)) (hrec_4_0 : ∀ (v1 : Int32) (v2 : Int32) (v3 : Int32) (H : Heap) (locs : List Loc) (ls : Array Slot), rec_4_0 (v1, v2, v3) = some y → Wd dC dI A s.heap [wX9 h_me q_me k_me o_me] H locs → lv_has ls 4 [(0, .ref h_me), (1, .int v1), (2, .int v2), (3, .int v3)] → W p l e ({ frames := 0, cells := 0, slots := 0, locals := 0 } : Room) s m ([.ref h_me, .int p0] : List Value).toArray below meth c H locs 0 0 Qz (F0 m 4 ls [])), ∀ (v1 : Int32) (v3 : Int32) (H : Heap) (locs : List Loc) (ls : Array Slot), bk_X9_hasLike_34 o_me rec_4_0 v1 v3 = some y → Wd dC dI A s.heap [wX9 h_me q_me k_me o_me] H locs → lv_has ls 4 [(0, .ref h_me), (1, .int v1), (3, .int v3)] → W p l e ({ frames := 0, cells := 0, slots := 0, locals := 0 } : Room) s m ([.ref h_me, .int p0] : List Value).toArray below meth c H locs 0 0 Qz (F0 m 34 ls []) := by
    intro rec_4_0 hrec_4_0
    intro v1 v3 H locs ls h hw hl
    unfold bk_X9_hasLike_34 at h
    refine lv_iconst (v := 1) hx hb dX9_hasLike_34 (by decide) ?_
    refine lv_goto (tgt := 39) hx hb dX9_hasLike_35 (by decide) ?_
    exact bk_39_2 rec_4_0 hrec_4_0 v1 v3 (1 : Int32) _ _ _ h hw (lv_sub hl [0, 1, 2] rfl)
  have lp_4_0 : ∀ (N : Nat), ∀ (v1 : Int32) (v2 : Int32) (v3 : Int32) (H : Heap) (locs : List Loc) (ls : Array Slot), lp_X9_hasLike_4 o_me  N (v1, v2, v3) = some y → Wd dC dI A s.heap [wX9 h_me q_me k_me o_me] H locs → lv_has ls 4 [(0, .ref h_me), (1, .int v1), (2, .int v2), (3, .int v3)] → W p l e ({ frames := 0, cells := 0, slots := 0, locals := 0 } : Room) s m ([.ref h_me, .int p0] : List Value).toArray below meth c H locs 0 0 Qz (F0 m 4 ls []) := by
    intro N
    induction N with
    | zero =>
      intro v1 v2 v3 H locs ls h hw hl
      exact absurd (show (none : Option (Int32)) = some y from h) (by simp)
    | succ N ih =>
      intro v1 v2 v3 H locs ls h hw hl
      have h : lb_X9_hasLike_4 o_me  (lp_X9_hasLike_4 o_me  N) v1 v2 v3 = some y := h
      unfold lb_X9_hasLike_4 at h
      refine lv_iload_n hx hb dX9_hasLike_4 rfl (lv_at hl 3 rfl) ?_
      refine lv_iload_n hx hb dX9_hasLike_5 rfl (lv_at hl 1 rfl) ?_
      refine lv_icmp_ge (tgt := 46) hx hb dX9_hasLike_6 (by decide) (fun c => ?_) (fun c => ?_)
      · have h := z_t h c
        refine lv_iload_n hx hb dX9_hasLike_46 rfl (lv_at hl 2 rfl) ?_
        obtain ⟨g1, h⟩ := z_gd h
        have hy := Option.some.inj h
        rw [← hQz, ← hy]
        exact xr_i (v := v2) hx hb hr (z_nar g1) hlk hK hw dX9_hasLike_47
      · have h := z_f h c
        refine lv_iload_n hx hb dX9_hasLike_9 rfl (lv_at hl 2 rfl) ?_
        refine lv_if_ne (tgt := 34) hx hb dX9_hasLike_10 (by decide) (fun c => ?_) (fun c => ?_)
        · have h := z_f h c
          exact bk_34_1 (lp_X9_hasLike_4 o_me  N) ih v1 v3 _ _ _ h hw (lv_sub hl [0, 1, 3] rfl)
        · have h := z_t h c
          refine lv_aload_n hx hb dX9_hasLike_13 rfl (lv_at hl 0 rfl) ?_
          refine fgX9_3 hx hb hts hown hK hw 0 rfl kw1179 dX9_hasLike_14 ?_
          refine lv_bipush (v := 8) hx hb dX9_hasLike_17 (by decide) ?_
          refine lv_iload_n hx hb dX9_hasLike_19 rfl (lv_at hl 3 rfl) ?_
          refine lv_iadd hx hb dX9_hasLike_20 ?_
          obtain ⟨g3, h⟩ := z_gd h
          refine faX9_3 hx hb hK hw 0 rfl rfl g3 dX9_hasLike_21 ?_
          refine lv_aload_n hx hb dX9_hasLike_22 rfl (lv_at hl 0 rfl) ?_
          refine fgX9_3 hx hb hts hown hK hw 0 rfl kw1179 dX9_hasLike_23 ?_
          refine lv_bipush (v := 8) hx hb dX9_hasLike_26 (by decide) ?_
          refine lv_iload_n hx hb dX9_hasLike_28 rfl (lv_at hl 1 rfl) ?_
          refine lv_iadd hx hb dX9_hasLike_29 ?_
          obtain ⟨g4, h⟩ := z_gd h
          refine faX9_3 hx hb hK hw 0 rfl rfl g4 dX9_hasLike_30 ?_
          refine lv_icmp_ne (tgt := 38) hx hb dX9_hasLike_31 (by decide) (fun c => ?_) (fun c => ?_)
          · have h := z_f h c
            refine lv_iconst (v := 0) hx hb dX9_hasLike_38 (by decide) ?_
            exact bk_39_2 (lp_X9_hasLike_4 o_me  N) ih v1 v3 (0 : Int32) _ _ _ h hw (lv_sub hl [0, 1, 3] rfl)
          · have h := z_t h c
            exact bk_34_1 (lp_X9_hasLike_4 o_me  N) ih v1 v3 _ _ _ h hw (lv_sub hl [0, 1, 3] rfl)
  unfold f_X9_hasLike at h
  refine lv_iconst (v := 0) hx hb dX9_hasLike_0 (by decide) ?_
  refine lv_istore_n (lv' := [(2, .int (0 : Int32)), (0, .ref h_me), (1, .int p0)]) hx hb dX9_hasLike_1 rfl hl (by decide) rfl (fun ls hl => ?_)
  refine lv_iconst (v := 0) hx hb dX9_hasLike_2 (by decide) ?_
  refine lv_istore_n (lv' := [(3, .int (0 : Int32)), (2, .int (0 : Int32)), (0, .ref h_me), (1, .int p0)]) hx hb dX9_hasLike_3 rfl hl (by decide) rfl (fun ls hl => ?_)
  exact lp_4_0  zfu p0 (0 : Int32) (0 : Int32) _ _ _ h hw (lv_sub hl [2, 3, 1, 0] rfl)

def bk_X9_passIt_40  (rec_4_0 : Int32 × Int32 × Ob → Option (Int32 × Ob)) (v1 : Int32) (v2 : Int32) (o_me : Ob) : Option (Int32 × Ob) :=
  zlt (v2 + (1 : Int32)) fun x3 =>
  rec_4_0 (v1, x3, o_me)
def lb_X9_passIt_4   (rec_4_0 : Int32 × Int32 × Ob → Option (Int32 × Ob)) (v1 : Int32) (v2 : Int32) (o_me : Ob) : Option (Int32 × Ob) :=
  if (gA o_me 3 (0 : Int32).toNatClampNeg) ≤ v2 then
  (zlt (tA o_me 3 (4 : Int32).toNatClampNeg ((gA o_me 3 (4 : Int32).toNatClampNeg) + (1 : Int32))) fun o1 =>
  some (v1, o1))
  else
  ((f_X9_hasLike o_me v2).bind fun z2 =>
  if z2 = (0 : Int32) then
  (bk_X9_passIt_40  rec_4_0 v1 v2 o_me)
  else
  ((f_X9_turnsOf o_me v2 (0 : Int32)).bind fun z4 =>
  zgd (zin ((8 : Int32) + v2) 5484) <|
  zlt (tA z4.2 3 ((8 : Int32) + v2).toNatClampNeg z4.1) fun o6 =>
  zlt (v1 + (1 : Int32)) fun x7 =>
  bk_X9_passIt_40  rec_4_0 x7 v2 o6))
def lp_X9_passIt_4   : Nat → (Int32 × Int32 × Ob) → Option (Int32 × Ob) := zit (fun rec a => lb_X9_passIt_4   rec a.1 a.2.1 a.2.2)
def f_X9_passIt (o_me : Ob) : Option (Int32 × Ob) :=
  lp_X9_passIt_4   zfu ((0 : Int32), (0 : Int32), o_me)
set_option maxHeartbeats 4000000 in
set_option maxRecDepth 100000 in
theorem m_X9_passIt (l : Launch) (dC : Nat → ClassId) (dI : Nat → Nat → Nat) (sz : Nat) (h_me : Nat) (q_me : Nat → Nat) (k_me : Nat → ClassId) (o_me : Ob) (y : Int32 × Ob) (h : f_X9_passIt o_me = some y) : CI l yX9_passIt cX9_passIt 3 (some .int) ({ frames := 6, cells := 0, slots := 0, locals := 145 } : Room) dC dI sz [.ref h_me] [wX9 h_me q_me k_me o_me] [tX9 k_me] y.1 [wX9 h_me q_me k_me y.2] := by
  refine CC_of (by decide) (Nat.le_of_ble_eq_true rfl) ?_
  intro p e s m below meth c A ls hx hb hml hr hlk hnm hown hts hX hK hP hD hA hl
  have hl : lv_has ls 3 [(0, .ref h_me)] := hl
  have hown : s.vm.findClass RX9 = some m.cls := hown
  have hw : Wd dC dI A s.heap [wX9 h_me q_me k_me o_me] s.heap [] := ⟨hP, hD, va_S.rf⟩
  generalize hQz : (MQ below (QI dC dI (fun r (_ : Unit) => r = y.1) (fun _ => Jn [wX9 h_me q_me k_me y.2]) (fun _ => Jt [tX9 k_me]) A) ([.ref h_me] : List Value).toArray s 0 0 A) = Qz
  clear hP hD hnm
  have bk_40_1 : ∀ (rec_4_0 : Int32 × Int32 × Ob → Option (Int32 × Ob)) (hrec_4_0 : ∀ (v1 : Int32) (v2 : Int32) (o_me : Ob) (H : Heap) (locs : List Loc) (ls : Array Slot), rec_4_0 (v1, v2, o_me) = some y → Wd dC dI A s.heap [wX9 h_me q_me k_me o_me] H locs → lv_has ls 3 [(0, .ref h_me), (1, .int v1), (2, .int v2)] → W p l e ({ frames := 6, cells := 0, slots := 0, locals := 145 } : Room) s m ([.ref h_me] : List Value).toArray below meth c H locs 0 0 Qz (F0 m 4 ls [])), ∀ (v1 : Int32) (v2 : Int32) (o_me : Ob) (H : Heap) (locs : List Loc) (ls : Array Slot), bk_X9_passIt_40  rec_4_0 v1 v2 o_me = some y → Wd dC dI A s.heap [wX9 h_me q_me k_me o_me] H locs → lv_has ls 3 [(0, .ref h_me), (1, .int v1), (2, .int v2)] → W p l e ({ frames := 6, cells := 0, slots := 0, locals := 145 } : Room) s m ([.ref h_me] : List Value).toArray below meth c H locs 0 0 Qz (F0 m 40 ls []) := by
    intro rec_4_0 hrec_4_0
    intro v1 v2 o_me H locs ls h hw hl
    unfold bk_X9_passIt_40 at h
    obtain ⟨x3, ex3, h⟩ := z_lt h
    refine lv_iinc (v := x3) (lv' := [(2, .int x3), (0, .ref h_me), (1, .int v1)]) hx hb dX9_passIt_40 hl (k := 2) rfl ((congrArg (v2 + ·) (show Int32.ofInt 1 = (1 : Int32) from by decide)).trans ex3.symm) (by decide) rfl (fun ls hl => ?_)
    refine lv_goto (tgt := 4) hx hb dX9_passIt_43 (by decide) ?_
    exact hrec_4_0 v1 x3 o_me _ _ _ h hw (lv_sub hl [1, 2, 0] rfl)
  have lp_4_0 : ∀ (N : Nat), ∀ (v1 : Int32) (v2 : Int32) (o_me : Ob) (H : Heap) (locs : List Loc) (ls : Array Slot), lp_X9_passIt_4   N (v1, v2, o_me) = some y → Wd dC dI A s.heap [wX9 h_me q_me k_me o_me] H locs → lv_has ls 3 [(0, .ref h_me), (1, .int v1), (2, .int v2)] → W p l e ({ frames := 6, cells := 0, slots := 0, locals := 145 } : Room) s m ([.ref h_me] : List Value).toArray below meth c H locs 0 0 Qz (F0 m 4 ls []) := by
    intro N
    induction N with
    | zero =>
      intro v1 v2 o_me H locs ls h hw hl
      exact absurd (show (none : Option (Int32 × Ob)) = some y from h) (by simp)
    | succ N ih =>
      intro v1 v2 o_me H locs ls h hw hl
      have h : lb_X9_passIt_4   (lp_X9_passIt_4   N) v1 v2 o_me = some y := h
      unfold lb_X9_passIt_4 at h
      refine lv_iload_n hx hb dX9_passIt_4 rfl (lv_at hl 2 rfl) ?_
      refine lv_aload_n hx hb dX9_passIt_5 rfl (lv_at hl 0 rfl) ?_
      refine fgX9_3 hx hb hts hown hK hw 0 rfl kw1179 dX9_passIt_6 ?_
      refine lv_iconst (v := 0) hx hb dX9_passIt_9 (by decide) ?_
      refine faX9_3 hx hb hK hw 0 rfl rfl (by decide) dX9_passIt_10 ?_
      refine lv_icmp_ge (tgt := 46) hx hb dX9_passIt_11 (by decide) (fun c => ?_) (fun c => ?_)
      · have h := z_t h c
        refine lv_aload_n hx hb dX9_passIt_46 rfl (lv_at hl 0 rfl) ?_
        refine fgX9_3 hx hb hts hown hK hw 0 rfl kw1179 dX9_passIt_47 ?_
        refine lv_iconst (v := 4) hx hb dX9_passIt_50 (by decide) ?_
        refine lv_dup2_11 hx hb dX9_passIt_51 rfl rfl ?_
        refine faX9_3 hx hb hK hw 0 rfl rfl (by decide) dX9_passIt_52 ?_
        refine lv_iconst (v := 1) hx hb dX9_passIt_53 (by decide) ?_
        refine lv_iadd hx hb dX9_passIt_54 ?_
        refine fbX9_3 hx hb hK hw 0 rfl rfl (by decide) dX9_passIt_55 (fun H locs hw => ?_)
        obtain ⟨o1, eo1, h⟩ := z_lt h
        have hw : Wd dC dI A s.heap [wX9 h_me q_me k_me o1] H locs := by rw [eo1]; exact hw
        refine lv_iload_n hx hb dX9_passIt_56 rfl (lv_at hl 1 rfl) ?_
        have hy := Option.some.inj h
        rw [← hQz, ← hy]
        exact xr_i (v := v1) hx hb hr rfl hlk hK hw dX9_passIt_57
      · have h := z_f h c
        refine lv_aload_n hx hb dX9_passIt_14 rfl (lv_at hl 0 rfl) ?_
        refine lv_iload_n hx hb dX9_passIt_15 rfl (lv_at hl 2 rfl) ?_
        obtain ⟨z2, ez2, h⟩ := z_bd h
        refine xj_i (xrV (As := [.int v2]) (rest := []) ⟨hx, hb, hml, hown, hts⟩ (m_X9_hasLike l dC dI _ h_me q_me k_me o_me v2 z2 ez2) kw1688 kw1685 kw1687 kw88 kw120 hd_X9_hasLike ⟨rfl, rfl⟩ rfl rfl ⟨rfl, rfl⟩ hX hK hw [0] (by decide) rfl rfl rfl rfl rfl hl.1 rfl rfl dX9_passIt_16) hw hA [0] (by decide) rfl rfl (fun H locs hw => ?_)
        have hw : Wd dC dI A s.heap [wX9 h_me q_me k_me o_me] H locs := hw
        refine lv_if_eq (tgt := 40) hx hb dX9_passIt_19 (by decide) (fun c => ?_) (fun c => ?_)
        · have h := z_t h c
          exact bk_40_1 (lp_X9_passIt_4   N) ih v1 v2 o_me _ _ _ h hw (lv_sub hl [0, 1, 2] rfl)
        · have h := z_f h c
          refine lv_aload_n hx hb dX9_passIt_22 rfl (lv_at hl 0 rfl) ?_
          refine fgX9_3 hx hb hts hown hK hw 0 rfl kw1179 dX9_passIt_23 ?_
          refine lv_bipush (v := 8) hx hb dX9_passIt_26 (by decide) ?_
          refine lv_iload_n hx hb dX9_passIt_28 rfl (lv_at hl 2 rfl) ?_
          refine lv_iadd hx hb dX9_passIt_29 ?_
          refine lv_aload_n hx hb dX9_passIt_30 rfl (lv_at hl 0 rfl) ?_
          refine lv_iload_n hx hb dX9_passIt_31 rfl (lv_at hl 2 rfl) ?_
          refine lv_iconst (v := 0) hx hb dX9_passIt_32 (by decide) ?_
          obtain ⟨z4, ez4, h⟩ := z_bd h
          refine xj_i (xrV (As := [.int v2, .int (0 : Int32)]) (rest := [.int ((8 : Int32) + v2), .ref (q_me 3)]) ⟨hx, hb, hml, hown, hts⟩ (m_X9_turnsOf l dC dI _ h_me q_me k_me o_me v2 (0 : Int32) z4 ez4) kw1652 kw1649 kw1651 kw82 kw120 hd_X9_turnsOf ⟨rfl, rfl⟩ rfl rfl ⟨rfl, rfl⟩ hX hK hw [0] (by decide) rfl rfl rfl rfl rfl hl.1 rfl rfl dX9_passIt_33) hw hA [0] (by decide) rfl rfl (fun H locs hw => ?_)
          have hw : Wd dC dI A s.heap [wX9 h_me q_me k_me z4.2] H locs := hw
          obtain ⟨g5, h⟩ := z_gd h
          refine fbX9_3 hx hb hK hw 0 rfl rfl g5 dX9_passIt_36 (fun H locs hw => ?_)
          obtain ⟨o6, eo6, h⟩ := z_lt h
          have hw : Wd dC dI A s.heap [wX9 h_me q_me k_me o6] H locs := by rw [eo6]; exact hw
          obtain ⟨x7, ex7, h⟩ := z_lt h
          refine lv_iinc (v := x7) (lv' := [(1, .int x7), (0, .ref h_me), (2, .int v2)]) hx hb dX9_passIt_37 hl (k := 1) rfl ((congrArg (v1 + ·) (show Int32.ofInt 1 = (1 : Int32) from by decide)).trans ex7.symm) (by decide) rfl (fun ls hl => ?_)
          exact bk_40_1 (lp_X9_passIt_4   N) ih x7 v2 o6 _ _ _ h hw (lv_sub hl [1, 0, 2] rfl)
  unfold f_X9_passIt at h
  refine lv_iconst (v := 0) hx hb dX9_passIt_0 (by decide) ?_
  refine lv_istore_n (lv' := [(1, .int (0 : Int32)), (0, .ref h_me)]) hx hb dX9_passIt_1 rfl hl (by decide) rfl (fun ls hl => ?_)
  refine lv_iconst (v := 0) hx hb dX9_passIt_2 (by decide) ?_
  refine lv_istore_n (lv' := [(2, .int (0 : Int32)), (1, .int (0 : Int32)), (0, .ref h_me)]) hx hb dX9_passIt_3 rfl hl (by decide) rfl (fun ls hl => ?_)
  exact lp_4_0  zfu (0 : Int32) (0 : Int32) o_me _ _ _ h hw (lv_sub hl [2, 1, 0] rfl)

def f_X9_passNow (o_me : Ob) : Option (Int32 × Ob) :=
  if (gA o_me 3 (4 : Int32).toNatClampNeg) = (999 : Int32) then
  (some ((-3 : Int32), o_me))
  else
  ((f_X9_remember o_me (3 : Int32)).bind fun z1 =>
  (f_X9_passIt z1).bind fun z2 =>
  some (z2.1, z2.2))
set_option maxHeartbeats 4000000 in
set_option maxRecDepth 100000 in
theorem m_X9_passNow (l : Launch) (dC : Nat → ClassId) (dI : Nat → Nat → Nat) (sz : Nat) (h_me : Nat) (q_me : Nat → Nat) (k_me : Nat → ClassId) (o_me : Ob) (y : Int32 × Ob) (h : f_X9_passNow o_me = some y) : CI l yX9_passNow cX9_passNow 1 (some .int) ({ frames := 7, cells := 0, slots := 0, locals := 167 } : Room) dC dI sz [.ref h_me] [wX9 h_me q_me k_me o_me] [tX9 k_me] y.1 [wX9 h_me q_me k_me y.2] := by
  refine CC_of (by decide) (Nat.le_of_ble_eq_true rfl) ?_
  intro p e s m below meth c A ls hx hb hml hr hlk hnm hown hts hX hK hP hD hA hl
  have hl : lv_has ls 1 [(0, .ref h_me)] := hl
  have hown : s.vm.findClass RX9 = some m.cls := hown
  have hw : Wd dC dI A s.heap [wX9 h_me q_me k_me o_me] s.heap [] := ⟨hP, hD, va_S.rf⟩
  generalize hQz : (MQ below (QI dC dI (fun r (_ : Unit) => r = y.1) (fun _ => Jn [wX9 h_me q_me k_me y.2]) (fun _ => Jt [tX9 k_me]) A) ([.ref h_me] : List Value).toArray s 0 0 A) = Qz
  clear hP hD hnm
  unfold f_X9_passNow at h
  refine lv_aload_n hx hb dX9_passNow_0 rfl (lv_at hl 0 rfl) ?_
  refine fgX9_3 hx hb hts hown hK hw 0 rfl kw1179 dX9_passNow_1 ?_
  refine lv_iconst (v := 4) hx hb dX9_passNow_4 (by decide) ?_
  refine faX9_3 hx hb hK hw 0 rfl rfl (by decide) dX9_passNow_5 ?_
  refine lv_sipush (v := 999) hx hb dX9_passNow_6 (by decide) ?_
  refine lv_icmp_ne (tgt := 15) hx hb dX9_passNow_9 (by decide) (fun c => ?_) (fun c => ?_)
  · have h := z_f h c
    refine lv_aload_n hx hb dX9_passNow_15 rfl (lv_at hl 0 rfl) ?_
    refine lv_iconst (v := 3) hx hb dX9_passNow_16 (by decide) ?_
    obtain ⟨z1, ez1, h⟩ := z_bd h
    refine xj_v (xrV (As := [.int (3 : Int32)]) (rest := []) ⟨hx, hb, hml, hown, hts⟩ (m_X9_remember l dC dI _ h_me q_me k_me o_me (3 : Int32) z1 ez1) kw1635 kw1632 kw1634 kw78 kw120 hd_X9_remember ⟨rfl, rfl⟩ rfl rfl ⟨rfl, rfl⟩ hX hK hw [0] (by decide) rfl rfl rfl rfl rfl hl.1 rfl rfl dX9_passNow_17) hw hA [0] (by decide) rfl rfl (fun H locs hw => ?_)
    have hw : Wd dC dI A s.heap [wX9 h_me q_me k_me z1] H locs := hw
    refine lv_aload_n hx hb dX9_passNow_20 rfl (lv_at hl 0 rfl) ?_
    obtain ⟨z2, ez2, h⟩ := z_bd h
    refine xj_i (xrV (As := []) (rest := []) ⟨hx, hb, hml, hown, hts⟩ (m_X9_passIt l dC dI _ h_me q_me k_me z1 z2 ez2) kw1684 kw1681 kw1683 kw87 kw120 hd_X9_passIt ⟨rfl, rfl⟩ rfl rfl ⟨rfl, rfl⟩ hX hK hw [0] (by decide) rfl rfl rfl rfl rfl hl.1 rfl rfl dX9_passNow_21) hw hA [0] (by decide) rfl rfl (fun H locs hw => ?_)
    have hw : Wd dC dI A s.heap [wX9 h_me q_me k_me z2.2] H locs := hw
    have hy := Option.some.inj h
    rw [← hQz, ← hy]
    exact xr_i (v := z2.1) hx hb hr rfl hlk hK hw dX9_passNow_24
  · have h := z_t h c
    refine lv_bipush (v := (-3)) hx hb dX9_passNow_12 (by decide) ?_
    have hy := Option.some.inj h
    rw [← hQz, ← hy]
    exact xr_i (v := (-3 : Int32)) hx hb hr rfl hlk hK hw dX9_passNow_14

def f_X9_act (o_me : Ob) (p0 : Int32) (p1 : Int32) : Option (Int32 × Ob) :=
  if p0 = (0 : Int32) then
  ((f_X9_raceNow o_me p1).bind fun z2 =>
  some (z2.1, z2.2))
  else
  (if p0 = (1 : Int32) then
  ((f_X9_enterNow o_me p1).bind fun z3 =>
  some (z3.1, z3.2))
  else
  (if p0 = (2 : Int32) then
  ((f_X9_takeNow o_me p1).bind fun z4 =>
  some (z4.1, z4.2))
  else
  ((f_X9_passNow o_me).bind fun z5 =>
  some (z5.1, z5.2))))
set_option maxHeartbeats 4000000 in
set_option maxRecDepth 100000 in
theorem m_X9_act (l : Launch) (dC : Nat → ClassId) (dI : Nat → Nat → Nat) (sz : Nat) (h_me : Nat) (q_me : Nat → Nat) (k_me : Nat → ClassId) (o_me : Ob) (p0 : Int32) (p1 : Int32) (y : Int32 × Ob) (h : f_X9_act o_me p0 p1 = some y) : CI l yX9_act cX9_act 3 (some .int) ({ frames := 8, cells := 0, slots := 0, locals := 194 } : Room) dC dI sz [.ref h_me, .int p0, .int p1] [wX9 h_me q_me k_me o_me] [tX9 k_me] y.1 [wX9 h_me q_me k_me y.2] := by
  refine CC_of (by decide) (Nat.le_of_ble_eq_true rfl) ?_
  intro p e s m below meth c A ls hx hb hml hr hlk hnm hown hts hX hK hP hD hA hl
  have hl : lv_has ls 3 [(0, .ref h_me), (1, .int p0), (2, .int p1)] := hl
  have hown : s.vm.findClass RX9 = some m.cls := hown
  have hw : Wd dC dI A s.heap [wX9 h_me q_me k_me o_me] s.heap [] := ⟨hP, hD, va_S.rf⟩
  generalize hQz : (MQ below (QI dC dI (fun r (_ : Unit) => r = y.1) (fun _ => Jn [wX9 h_me q_me k_me y.2]) (fun _ => Jt [tX9 k_me]) A) ([.ref h_me, .int p0, .int p1] : List Value).toArray s 0 0 A) = Qz
  clear hP hD hnm
  unfold f_X9_act at h
  refine lv_iload_n hx hb dX9_act_0 rfl (lv_at hl 1 rfl) ?_
  rcases (show p0.toInt = 0 ∨ p0.toInt = 1 ∨ p0.toInt = 2 ∨ (p0.toInt < 0 ∨ 2 < p0.toInt) by omega) with c1 | c1 | c1 | c1
  · skip
    have ec1 : p0 = (0 : Int32) := Int32.toInt_inj.mp (c1.trans (by decide))
    have h := z_t h ec1
    refine lv_fi (v := 0) ec1 ?_
    refine lv_tableIn (tgt := 28) hx hb dX9_act_1 (by decide) (by decide) rfl (by decide) ?_
    refine lv_aload_n hx hb dX9_act_28 rfl (lv_at hl 0 rfl) ?_
    refine lv_iload_n hx hb dX9_act_29 rfl (lv_at hl 2 rfl) ?_
    obtain ⟨z2, ez2, h⟩ := z_bd h
    refine xj_i (xrV (As := [.int p1]) (rest := []) ⟨hx, hb, hml, hown, hts⟩ (m_X9_raceNow l dC dI _ h_me q_me k_me o_me p1 z2 ez2) kw1631 kw1628 kw1630 kw77 kw120 hd_X9_raceNow ⟨rfl, rfl⟩ rfl rfl ⟨rfl, rfl⟩ hX hK hw [0] (by decide) rfl rfl rfl rfl rfl hl.1 rfl rfl dX9_act_30) hw hA [0] (by decide) rfl rfl (fun H locs hw => ?_)
    have hw : Wd dC dI A s.heap [wX9 h_me q_me k_me z2.2] H locs := hw
    have hy := Option.some.inj h
    rw [← hQz, ← hy]
    exact xr_i (v := z2.1) hx hb hr rfl hlk hK hw dX9_act_33
  · skip
    have h := z_f h (fun e9 => by rw [e9] at c1; revert c1; decide)
    have ec1 : p0 = (1 : Int32) := Int32.toInt_inj.mp (c1.trans (by decide))
    have h := z_t h ec1
    refine lv_fi (v := 1) ec1 ?_
    refine lv_tableIn (tgt := 34) hx hb dX9_act_1 (by decide) (by decide) rfl (by decide) ?_
    refine lv_aload_n hx hb dX9_act_34 rfl (lv_at hl 0 rfl) ?_
    refine lv_iload_n hx hb dX9_act_35 rfl (lv_at hl 2 rfl) ?_
    obtain ⟨z3, ez3, h⟩ := z_bd h
    refine xj_i (xrV (As := [.int p1]) (rest := []) ⟨hx, hb, hml, hown, hts⟩ (m_X9_enterNow l dC dI _ h_me q_me k_me o_me p1 z3 ez3) kw1660 kw1657 kw1659 kw83 kw120 hd_X9_enterNow ⟨rfl, rfl⟩ rfl rfl ⟨rfl, rfl⟩ hX hK hw [0] (by decide) rfl rfl rfl rfl rfl hl.1 rfl rfl dX9_act_36) hw hA [0] (by decide) rfl rfl (fun H locs hw => ?_)
    have hw : Wd dC dI A s.heap [wX9 h_me q_me k_me z3.2] H locs := hw
    have hy := Option.some.inj h
    rw [← hQz, ← hy]
    exact xr_i (v := z3.1) hx hb hr rfl hlk hK hw dX9_act_39
  · skip
    have h := z_f h (fun e9 => by rw [e9] at c1; revert c1; decide)
    have h := z_f h (fun e9 => by rw [e9] at c1; revert c1; decide)
    have ec1 : p0 = (2 : Int32) := Int32.toInt_inj.mp (c1.trans (by decide))
    have h := z_t h ec1
    refine lv_fi (v := 2) ec1 ?_
    refine lv_tableIn (tgt := 40) hx hb dX9_act_1 (by decide) (by decide) rfl (by decide) ?_
    refine lv_aload_n hx hb dX9_act_40 rfl (lv_at hl 0 rfl) ?_
    refine lv_iload_n hx hb dX9_act_41 rfl (lv_at hl 2 rfl) ?_
    obtain ⟨z4, ez4, h⟩ := z_bd h
    refine xj_i (xrV (As := [.int p1]) (rest := []) ⟨hx, hb, hml, hown, hts⟩ (m_X9_takeNow l dC dI _ h_me q_me k_me o_me p1 z4 ez4) kw1668 kw1665 kw1667 kw84 kw120 hd_X9_takeNow ⟨rfl, rfl⟩ rfl rfl ⟨rfl, rfl⟩ hX hK hw [0] (by decide) rfl rfl rfl rfl rfl hl.1 rfl rfl dX9_act_42) hw hA [0] (by decide) rfl rfl (fun H locs hw => ?_)
    have hw : Wd dC dI A s.heap [wX9 h_me q_me k_me z4.2] H locs := hw
    have hy := Option.some.inj h
    rw [← hQz, ← hy]
    exact xr_i (v := z4.1) hx hb hr rfl hlk hK hw dX9_act_45
  · skip
    have h := z_f h (fun e9 => by rw [e9] at c1; revert c1; decide)
    have h := z_f h (fun e9 => by rw [e9] at c1; revert c1; decide)
    have h := z_f h (fun e9 => by rw [e9] at c1; revert c1; decide)
    refine lv_tableOut (tgt := 46) hx hb dX9_act_1 c1 (by decide) ?_
    refine lv_aload_n hx hb dX9_act_46 rfl (lv_at hl 0 rfl) ?_
    obtain ⟨z5, ez5, h⟩ := z_bd h
    refine xj_i (xrV (As := []) (rest := []) ⟨hx, hb, hml, hown, hts⟩ (m_X9_passNow l dC dI _ h_me q_me k_me o_me z5 ez5) kw1680 kw1677 kw1679 kw86 kw120 hd_X9_passNow ⟨rfl, rfl⟩ rfl rfl ⟨rfl, rfl⟩ hX hK hw [0] (by decide) rfl rfl rfl rfl rfl hl.1 rfl rfl dX9_act_47) hw hA [0] (by decide) rfl rfl (fun H locs hw => ?_)
    have hw : Wd dC dI A s.heap [wX9 h_me q_me k_me z5.2] H locs := hw
    have hy := Option.some.inj h
    rw [← hQz, ← hy]
    exact xr_i (v := z5.1) hx hb hr rfl hlk hK hw dX9_act_50

def bk_X9_tell_10   (v1 : Int32) (s0 : Int32) (o_me : Ob) : Option (Int32 × Ob) :=
  zlt (sI o_me 1 s0) fun o1 =>
  if (0 : Int32) ≤ v1 then
  (some (v1, o1))
  else
  (zlt (-v1) fun x2 =>
  zgd (zin x2 7) <|
  zgd (zin x2 7) <|
  zlt (tA o1 2 x2.toNatClampNeg ((gA o1 2 x2.toNatClampNeg) + (1 : Int32))) fun o5 =>
  some (v1, o5))
def f_X9_tell (o_me : Ob) (p0 : Int32) : Option (Int32 × Ob) :=
  if (0 : Int32) ≤ p0 then
  (bk_X9_tell_10   p0 (0 : Int32) o_me)
  else
  (bk_X9_tell_10   p0 p0 o_me)
set_option maxHeartbeats 4000000 in
set_option maxRecDepth 100000 in
theorem m_X9_tell (l : Launch) (dC : Nat → ClassId) (dI : Nat → Nat → Nat) (sz : Nat) (h_me : Nat) (q_me : Nat → Nat) (k_me : Nat → ClassId) (o_me : Ob) (p0 : Int32) (y : Int32 × Ob) (h : f_X9_tell o_me p0 = some y) : CI l yX9_tell cX9_tell 2 (some .int) ({ frames := 0, cells := 0, slots := 0, locals := 0 } : Room) dC dI sz [.ref h_me, .int p0] [wX9 h_me q_me k_me o_me] [tX9 k_me] y.1 [wX9 h_me q_me k_me y.2] := by
  refine CC_of (by decide) (Nat.le_of_ble_eq_true rfl) ?_
  intro p e s m below meth c A ls hx hb hml hr hlk hnm hown hts hX hK hP hD hA hl
  have hl : lv_has ls 2 [(0, .ref h_me), (1, .int p0)] := hl
  have hown : s.vm.findClass RX9 = some m.cls := hown
  have hw : Wd dC dI A s.heap [wX9 h_me q_me k_me o_me] s.heap [] := ⟨hP, hD, va_S.rf⟩
  generalize hQz : (MQ below (QI dC dI (fun r (_ : Unit) => r = y.1) (fun _ => Jn [wX9 h_me q_me k_me y.2]) (fun _ => Jt [tX9 k_me]) A) ([.ref h_me, .int p0] : List Value).toArray s 0 0 A) = Qz
  clear hP hD hnm
  have bk_10_0 : ∀ (v1 : Int32) (s0 : Int32) (o_me : Ob) (H : Heap) (locs : List Loc) (ls : Array Slot), bk_X9_tell_10   v1 s0 o_me = some y → Wd dC dI A s.heap [wX9 h_me q_me k_me o_me] H locs → lv_has ls 2 [(0, .ref h_me), (1, .int v1)] → W p l e ({ frames := 0, cells := 0, slots := 0, locals := 0 } : Room) s m ([.ref h_me, .int p0] : List Value).toArray below meth c H locs 0 0 Qz (F0 m 10 ls [.int s0, .ref h_me]) := by
    intro v1 s0 o_me H locs ls h hw hl
    unfold bk_X9_tell_10 at h
    refine fpX9_1 hx hb hts hown hK hw 0 rfl kw1177 dX9_tell_10 (fun H locs hw => ?_)
    obtain ⟨o1, eo1, h⟩ := z_lt h
    have hw : Wd dC dI A s.heap [wX9 h_me q_me k_me o1] H locs := by rw [eo1]; exact hw
    refine lv_iload_n hx hb dX9_tell_13 rfl (lv_at hl 1 rfl) ?_
    refine lv_if_ge (tgt := 28) hx hb dX9_tell_14 (by decide) (fun c => ?_) (fun c => ?_)
    · have h := z_t h c
      refine lv_iload_n hx hb dX9_tell_28 rfl (lv_at hl 1 rfl) ?_
      have hy := Option.some.inj h
      rw [← hQz, ← hy]
      exact xr_i (v := v1) hx hb hr rfl hlk hK hw dX9_tell_29
    · have h := z_f h c
      refine lv_aload_n hx hb dX9_tell_17 rfl (lv_at hl 0 rfl) ?_
      refine fgX9_2 hx hb hts hown hK hw 0 rfl kw1178 dX9_tell_18 ?_
      refine lv_iload_n hx hb dX9_tell_21 rfl (lv_at hl 1 rfl) ?_
      refine lv_ineg hx hb dX9_tell_22 ?_
      obtain ⟨x2, ex2, h⟩ := z_lt h
      refine lv_fi (v := x2) ex2.symm ?_
      refine lv_dup2_11 hx hb dX9_tell_23 rfl rfl ?_
      obtain ⟨g3, h⟩ := z_gd h
      refine faX9_2 hx hb hK hw 0 rfl rfl g3 dX9_tell_24 ?_
      refine lv_iconst (v := 1) hx hb dX9_tell_25 (by decide) ?_
      refine lv_iadd hx hb dX9_tell_26 ?_
      obtain ⟨g4, h⟩ := z_gd h
      refine fbX9_2 hx hb hK hw 0 rfl rfl g4 dX9_tell_27 (fun H locs hw => ?_)
      obtain ⟨o5, eo5, h⟩ := z_lt h
      have hw : Wd dC dI A s.heap [wX9 h_me q_me k_me o5] H locs := by rw [eo5]; exact hw
      refine lv_iload_n hx hb dX9_tell_28 rfl (lv_at hl 1 rfl) ?_
      have hy := Option.some.inj h
      rw [← hQz, ← hy]
      exact xr_i (v := v1) hx hb hr rfl hlk hK hw dX9_tell_29
  unfold f_X9_tell at h
  refine lv_aload_n hx hb dX9_tell_0 rfl (lv_at hl 0 rfl) ?_
  refine lv_iload_n hx hb dX9_tell_1 rfl (lv_at hl 1 rfl) ?_
  refine lv_if_ge (tgt := 9) hx hb dX9_tell_2 (by decide) (fun c => ?_) (fun c => ?_)
  · have h := z_t h c
    refine lv_iconst (v := 0) hx hb dX9_tell_9 (by decide) ?_
    exact bk_10_0  p0 (0 : Int32) o_me _ _ _ h hw (lv_sub hl [0, 1] rfl)
  · have h := z_f h c
    refine lv_iload_n hx hb dX9_tell_5 rfl (lv_at hl 1 rfl) ?_
    refine lv_goto (tgt := 10) hx hb dX9_tell_6 (by decide) ?_
    exact bk_10_0  p0 p0 o_me _ _ _ h hw (lv_sub hl [0, 1] rfl)

def bk_X9_settled_13   (v1 : Int32) (s0 : Int32) (o_me : Ob) : Option (Int32 × Ob) :=
  zlt (sI o_me 8 s0) fun o1 =>
  (f_X9_tell o1 v1).bind fun z2 =>
  some (z2.1, z2.2)
def f_X9_settled (o_me : Ob) (p0 : Int32) : Option (Int32 × Ob) :=
  if (0 : Int32) ≤ p0 then
  (bk_X9_settled_13   p0 (0 : Int32) o_me)
  else
  (bk_X9_settled_13   p0 (gI o_me 8) o_me)
set_option maxHeartbeats 4000000 in
set_option maxRecDepth 100000 in
theorem m_X9_settled (l : Launch) (dC : Nat → ClassId) (dI : Nat → Nat → Nat) (sz : Nat) (h_me : Nat) (q_me : Nat → Nat) (k_me : Nat → ClassId) (o_me : Ob) (p0 : Int32) (y : Int32 × Ob) (h : f_X9_settled o_me p0 = some y) : CI l yX9_settled cX9_settled 2 (some .int) ({ frames := 1, cells := 0, slots := 0, locals := 21 } : Room) dC dI sz [.ref h_me, .int p0] [wX9 h_me q_me k_me o_me] [tX9 k_me] y.1 [wX9 h_me q_me k_me y.2] := by
  refine CC_of (by decide) (Nat.le_of_ble_eq_true rfl) ?_
  intro p e s m below meth c A ls hx hb hml hr hlk hnm hown hts hX hK hP hD hA hl
  have hl : lv_has ls 2 [(0, .ref h_me), (1, .int p0)] := hl
  have hown : s.vm.findClass RX9 = some m.cls := hown
  have hw : Wd dC dI A s.heap [wX9 h_me q_me k_me o_me] s.heap [] := ⟨hP, hD, va_S.rf⟩
  generalize hQz : (MQ below (QI dC dI (fun r (_ : Unit) => r = y.1) (fun _ => Jn [wX9 h_me q_me k_me y.2]) (fun _ => Jt [tX9 k_me]) A) ([.ref h_me, .int p0] : List Value).toArray s 0 0 A) = Qz
  clear hP hD hnm
  have bk_13_0 : ∀ (v1 : Int32) (s0 : Int32) (o_me : Ob) (H : Heap) (locs : List Loc) (ls : Array Slot), bk_X9_settled_13   v1 s0 o_me = some y → Wd dC dI A s.heap [wX9 h_me q_me k_me o_me] H locs → lv_has ls 2 [(0, .ref h_me), (1, .int v1)] → W p l e ({ frames := 1, cells := 0, slots := 0, locals := 21 } : Room) s m ([.ref h_me, .int p0] : List Value).toArray below meth c H locs 0 0 Qz (F0 m 13 ls [.int s0, .ref h_me]) := by
    intro v1 s0 o_me H locs ls h hw hl
    unfold bk_X9_settled_13 at h
    refine fpX9_8 hx hb hts hown hK hw 0 rfl kw1184 dX9_settled_13 (fun H locs hw => ?_)
    obtain ⟨o1, eo1, h⟩ := z_lt h
    have hw : Wd dC dI A s.heap [wX9 h_me q_me k_me o1] H locs := by rw [eo1]; exact hw
    refine lv_aload_n hx hb dX9_settled_16 rfl (lv_at hl 0 rfl) ?_
    refine lv_iload_n hx hb dX9_settled_17 rfl (lv_at hl 1 rfl) ?_
    obtain ⟨z2, ez2, h⟩ := z_bd h
    refine xj_i (xrV (As := [.int v1]) (rest := []) ⟨hx, hb, hml, hown, hts⟩ (m_X9_tell l dC dI _ h_me q_me k_me o1 v1 z2 ez2) kw1374 kw1371 kw1373 kw39 kw120 hd_X9_tell ⟨rfl, rfl⟩ rfl rfl ⟨rfl, rfl⟩ hX hK hw [0] (by decide) rfl rfl rfl rfl rfl hl.1 rfl rfl dX9_settled_18) hw hA [0] (by decide) rfl rfl (fun H locs hw => ?_)
    have hw : Wd dC dI A s.heap [wX9 h_me q_me k_me z2.2] H locs := hw
    have hy := Option.some.inj h
    rw [← hQz, ← hy]
    exact xr_i (v := z2.1) hx hb hr rfl hlk hK hw dX9_settled_21
  unfold f_X9_settled at h
  refine lv_aload_n hx hb dX9_settled_0 rfl (lv_at hl 0 rfl) ?_
  refine lv_iload_n hx hb dX9_settled_1 rfl (lv_at hl 1 rfl) ?_
  refine lv_if_ge (tgt := 12) hx hb dX9_settled_2 (by decide) (fun c => ?_) (fun c => ?_)
  · have h := z_t h c
    refine lv_iconst (v := 0) hx hb dX9_settled_12 (by decide) ?_
    exact bk_13_0  p0 (0 : Int32) o_me _ _ _ h hw (lv_sub hl [0, 1] rfl)
  · have h := z_f h c
    refine lv_aload_n hx hb dX9_settled_5 rfl (lv_at hl 0 rfl) ?_
    refine fgX9_8 hx hb hts hown hK hw 0 rfl kw1184 dX9_settled_6 ?_
    refine lv_goto (tgt := 13) hx hb dX9_settled_9 (by decide) ?_
    exact bk_13_0  p0 (gI o_me 8) o_me _ _ _ h hw (lv_sub hl [0, 1] rfl)

def lb_X9_back_39   (rec_39_0 : Int32 × Int32 × Ob → Option (Int32 × Ob)) (v1 : Int32) (v2 : Int32) (o_me : Ob) : Option (Int32 × Ob) :=
  if (5484 : Int32) ≤ v2 then
  ((f_X9_settled o_me (0 : Int32)).bind fun z4 =>
  some (z4.1, z4.2))
  else
  (zgd (zin (((5484 : Int32) * v1) + v2) 10968) <|
  zgd (zin v2 5484) <|
  zlt (tA o_me 3 v2.toNatClampNeg (gA o_me 4 (((5484 : Int32) * v1) + v2).toNatClampNeg)) fun o7 =>
  zlt (v2 + (1 : Int32)) fun x8 =>
  rec_39_0 (v1, x8, o7))
def lp_X9_back_39   : Nat → (Int32 × Int32 × Ob) → Option (Int32 × Ob) := zit (fun rec a => lb_X9_back_39   rec a.1 a.2.1 a.2.2)
def f_X9_back (o_me : Ob) (p0 : Int32) : Option (Int32 × Ob) :=
  zlt (sI o_me 0 (0 : Int32)) fun o1 =>
  (f_X9_in p0.toInt64 (0 : Int64) (1 : Int64)).bind fun z2 =>
  if z2 = (0 : Int32) then
  ((f_X9_tell o1 (-1 : Int32)).bind fun z10 =>
  some (z10.1, z10.2))
  else
  (zgd (zin p0 2) <|
  if (gA o1 5 p0.toNatClampNeg) = (0 : Int32) then
  ((f_X9_tell o1 (-2 : Int32)).bind fun z9 =>
  some (z9.1, z9.2))
  else
  (lp_X9_back_39   zfu (p0, (0 : Int32), o1)))
set_option maxHeartbeats 4000000 in
set_option maxRecDepth 100000 in
theorem m_X9_back (l : Launch) (dC : Nat → ClassId) (dI : Nat → Nat → Nat) (sz : Nat) (h_me : Nat) (q_me : Nat → Nat) (k_me : Nat → ClassId) (o_me : Ob) (p0 : Int32) (y : Int32 × Ob) (h : f_X9_back o_me p0 = some y) : CI l yX9_back cX9_back 3 (some .int) ({ frames := 2, cells := 0, slots := 0, locals := 42 } : Room) dC dI sz [.ref h_me, .int p0] [wX9 h_me q_me k_me o_me] [tX9 k_me] y.1 [wX9 h_me q_me k_me y.2] := by
  refine CC_of (by decide) (Nat.le_of_ble_eq_true rfl) ?_
  intro p e s m below meth c A ls hx hb hml hr hlk hnm hown hts hX hK hP hD hA hl
  have hl : lv_has ls 3 [(0, .ref h_me), (1, .int p0)] := hl
  have hown : s.vm.findClass RX9 = some m.cls := hown
  have hw : Wd dC dI A s.heap [wX9 h_me q_me k_me o_me] s.heap [] := ⟨hP, hD, va_S.rf⟩
  generalize hQz : (MQ below (QI dC dI (fun r (_ : Unit) => r = y.1) (fun _ => Jn [wX9 h_me q_me k_me y.2]) (fun _ => Jt [tX9 k_me]) A) ([.ref h_me, .int p0] : List Value).toArray s 0 0 A) = Qz
  clear hP hD hnm
  have lp_39_0 : ∀ (N : Nat), ∀ (v1 : Int32) (v2 : Int32) (o_me : Ob) (H : Heap) (locs : List Loc) (ls : Array Slot), lp_X9_back_39   N (v1, v2, o_me) = some y → Wd dC dI A s.heap [wX9 h_me q_me k_me o_me] H locs → lv_has ls 3 [(0, .ref h_me), (1, .int v1), (2, .int v2)] → W p l e ({ frames := 2, cells := 0, slots := 0, locals := 42 } : Room) s m ([.ref h_me, .int p0] : List Value).toArray below meth c H locs 0 0 Qz (F0 m 39 ls []) := by
    intro N
    induction N with
    | zero =>
      intro v1 v2 o_me H locs ls h hw hl
      exact absurd (show (none : Option (Int32 × Ob)) = some y from h) (by simp)
    | succ N ih =>
      intro v1 v2 o_me H locs ls h hw hl
      have h : lb_X9_back_39   (lp_X9_back_39   N) v1 v2 o_me = some y := h
      unfold lb_X9_back_39 at h
      refine lv_iload_n hx hb dX9_back_39 rfl (lv_at hl 2 rfl) ?_
      refine lv_sipush (v := 5484) hx hb dX9_back_40 (by decide) ?_
      refine lv_icmp_ge (tgt := 70) hx hb dX9_back_43 (by decide) (fun c => ?_) (fun c => ?_)
      · have h := z_t h c
        refine lv_aload_n hx hb dX9_back_70 rfl (lv_at hl 0 rfl) ?_
        refine lv_iconst (v := 0) hx hb dX9_back_71 (by decide) ?_
        obtain ⟨z4, ez4, h⟩ := z_bd h
        refine xj_i (xrV (As := [.int (0 : Int32)]) (rest := []) ⟨hx, hb, hml, hown, hts⟩ (m_X9_settled l dC dI _ h_me q_me k_me o_me (0 : Int32) z4 ez4) kw1393 kw1390 kw1392 kw41 kw120 hd_X9_settled ⟨rfl, rfl⟩ rfl rfl ⟨rfl, rfl⟩ hX hK hw [0] (by decide) rfl rfl rfl rfl rfl hl.1 rfl rfl dX9_back_72) hw hA [0] (by decide) rfl rfl (fun H locs hw => ?_)
        have hw : Wd dC dI A s.heap [wX9 h_me q_me k_me z4.2] H locs := hw
        have hy := Option.some.inj h
        rw [← hQz, ← hy]
        exact xr_i (v := z4.1) hx hb hr rfl hlk hK hw dX9_back_75
      · have h := z_f h c
        refine lv_aload_n hx hb dX9_back_46 rfl (lv_at hl 0 rfl) ?_
        refine fgX9_3 hx hb hts hown hK hw 0 rfl kw1179 dX9_back_47 ?_
        refine lv_iload_n hx hb dX9_back_50 rfl (lv_at hl 2 rfl) ?_
        refine lv_aload_n hx hb dX9_back_51 rfl (lv_at hl 0 rfl) ?_
        refine fgX9_4 hx hb hts hown hK hw 0 rfl kw1180 dX9_back_52 ?_
        refine lv_sipush (v := 5484) hx hb dX9_back_55 (by decide) ?_
        refine lv_iload_n hx hb dX9_back_58 rfl (lv_at hl 1 rfl) ?_
        refine lv_imul hx hb dX9_back_59 ?_
        refine lv_iload_n hx hb dX9_back_60 rfl (lv_at hl 2 rfl) ?_
        refine lv_iadd hx hb dX9_back_61 ?_
        obtain ⟨g5, h⟩ := z_gd h
        refine faX9_4 hx hb hK hw 0 rfl rfl g5 dX9_back_62 ?_
        obtain ⟨g6, h⟩ := z_gd h
        refine fbX9_3 hx hb hK hw 0 rfl rfl g6 dX9_back_63 (fun H locs hw => ?_)
        obtain ⟨o7, eo7, h⟩ := z_lt h
        have hw : Wd dC dI A s.heap [wX9 h_me q_me k_me o7] H locs := by rw [eo7]; exact hw
        obtain ⟨x8, ex8, h⟩ := z_lt h
        refine lv_iinc (v := x8) (lv' := [(2, .int x8), (0, .ref h_me), (1, .int v1)]) hx hb dX9_back_64 hl (k := 2) rfl ((congrArg (v2 + ·) (show Int32.ofInt 1 = (1 : Int32) from by decide)).trans ex8.symm) (by decide) rfl (fun ls hl => ?_)
        refine lv_goto (tgt := 39) hx hb dX9_back_67 (by decide) ?_
        exact ih v1 x8 o7 _ _ _ h hw (lv_sub hl [1, 2, 0] rfl)
  unfold f_X9_back at h
  refine lv_aload_n hx hb dX9_back_0 rfl (lv_at hl 0 rfl) ?_
  refine lv_iconst (v := 0) hx hb dX9_back_1 (by decide) ?_
  refine fpX9_0 hx hb hts hown hK hw 0 rfl kw1176 dX9_back_2 (fun H locs hw => ?_)
  obtain ⟨o1, eo1, h⟩ := z_lt h
  have hw : Wd dC dI A s.heap [wX9 h_me q_me k_me o1] H locs := by rw [eo1]; exact hw
  refine lv_iload_n hx hb dX9_back_5 rfl (lv_at hl 1 rfl) ?_
  refine lv_i2l hx hb dX9_back_6 rfl ?_
  refine lv_lconst (v := 0) hx hb dX9_back_7 (by decide) ?_
  refine lv_lconst (v := 1) hx hb dX9_back_8 (by decide) ?_
  obtain ⟨z2, ez2, h⟩ := z_bd h
  refine xj_i (xrS (As := [.long p0.toInt64, .long (0 : Int64), .long (1 : Int64)]) (rest := []) ⟨hx, hb, hml, hown, hts⟩ (m_X9_in l dC dI _  p0.toInt64 (0 : Int64) (1 : Int64) z2 ez2) kw1385 kw1383 kw1384 kw120 hd_X9_in ⟨rfl, rfl⟩ rfl rfl ⟨rfl, rfl⟩ hX hK hw [] (by decide) rfl rfl hl.1 rfl rfl dX9_back_9) hw hA [] (by decide) rfl rfl (fun H locs hw => ?_)
  refine lv_if_ne (tgt := 21) hx hb dX9_back_12 (by decide) (fun c => ?_) (fun c => ?_)
  · have h := z_f h c
    refine lv_aload_n hx hb dX9_back_21 rfl (lv_at hl 0 rfl) ?_
    refine fgX9_5 hx hb hts hown hK hw 0 rfl kw1181 dX9_back_22 ?_
    refine lv_iload_n hx hb dX9_back_25 rfl (lv_at hl 1 rfl) ?_
    obtain ⟨g3, h⟩ := z_gd h
    refine faX9_5 hx hb hK hw 0 rfl rfl g3 dX9_back_26 ?_
    refine lv_if_ne (tgt := 37) hx hb dX9_back_27 (by decide) (fun c => ?_) (fun c => ?_)
    · have h := z_f h c
      refine lv_iconst (v := 0) hx hb dX9_back_37 (by decide) ?_
      refine lv_istore_n (lv' := [(2, .int (0 : Int32)), (0, .ref h_me), (1, .int p0)]) hx hb dX9_back_38 rfl hl (by decide) rfl (fun ls hl => ?_)
      exact lp_39_0  zfu p0 (0 : Int32) o1 _ _ _ h hw (lv_sub hl [1, 2, 0] rfl)
    · have h := z_t h c
      refine lv_aload_n hx hb dX9_back_30 rfl (lv_at hl 0 rfl) ?_
      refine lv_bipush (v := (-2)) hx hb dX9_back_31 (by decide) ?_
      obtain ⟨z9, ez9, h⟩ := z_bd h
      refine xj_i (xrV (As := [.int (-2 : Int32)]) (rest := []) ⟨hx, hb, hml, hown, hts⟩ (m_X9_tell l dC dI _ h_me q_me k_me o1 (-2 : Int32) z9 ez9) kw1374 kw1371 kw1373 kw39 kw120 hd_X9_tell ⟨rfl, rfl⟩ rfl rfl ⟨rfl, rfl⟩ hX hK hw [0] (by decide) rfl rfl rfl rfl rfl hl.1 rfl rfl dX9_back_33) hw hA [0] (by decide) rfl rfl (fun H locs hw => ?_)
      have hw : Wd dC dI A s.heap [wX9 h_me q_me k_me z9.2] H locs := hw
      have hy := Option.some.inj h
      rw [← hQz, ← hy]
      exact xr_i (v := z9.1) hx hb hr rfl hlk hK hw dX9_back_36
  · have h := z_t h c
    refine lv_aload_n hx hb dX9_back_15 rfl (lv_at hl 0 rfl) ?_
    refine lv_iconst (v := (-1)) hx hb dX9_back_16 (by decide) ?_
    obtain ⟨z10, ez10, h⟩ := z_bd h
    refine xj_i (xrV (As := [.int (-1 : Int32)]) (rest := []) ⟨hx, hb, hml, hown, hts⟩ (m_X9_tell l dC dI _ h_me q_me k_me o1 (-1 : Int32) z10 ez10) kw1374 kw1371 kw1373 kw39 kw120 hd_X9_tell ⟨rfl, rfl⟩ rfl rfl ⟨rfl, rfl⟩ hX hK hw [0] (by decide) rfl rfl rfl rfl rfl hl.1 rfl rfl dX9_back_17) hw hA [0] (by decide) rfl rfl (fun H locs hw => ?_)
    have hw : Wd dC dI A s.heap [wX9 h_me q_me k_me z10.2] H locs := hw
    have hy := Option.some.inj h
    rw [← hQz, ← hy]
    exact xr_i (v := z10.1) hx hb hr rfl hlk hK hw dX9_back_20

def lb_X9_layRuns_2   (rec_2_0 : Int32 × Int32 × Ob → Option (Ob)) (v1 : Int32) (v2 : Int32) (o_me : Ob) : Option (Ob) :=
  if (gA o_me 3 (0 : Int32).toNatClampNeg) ≤ v2 then
  (some o_me)
  else
  ((f_X9_runsOf o_me v2 v1).bind fun z1 =>
  zgd (zin v2 7) <|
  zlt (tA z1.2 41 v2.toNatClampNeg z1.1) fun o3 =>
  (f_X9_isBarred o3 v2 v1).bind fun z4 =>
  zgd (zin v2 7) <|
  zlt (tA z4.2 44 v2.toNatClampNeg (vp_nar .boolean z4.1)) fun o6 =>
  zlt (v2 + (1 : Int32)) fun x7 =>
  rec_2_0 (v1, x7, o6))
def lp_X9_layRuns_2   : Nat → (Int32 × Int32 × Ob) → Option (Ob) := zit (fun rec a => lb_X9_layRuns_2   rec a.1 a.2.1 a.2.2)
def f_X9_layRuns (o_me : Ob) (p0 : Int32) : Option (Ob) :=
  lp_X9_layRuns_2   zfu (p0, (0 : Int32), o_me)
set_option maxHeartbeats 4000000 in
set_option maxRecDepth 100000 in
theorem m_X9_layRuns (l : Launch) (dC : Nat → ClassId) (dI : Nat → Nat → Nat) (sz : Nat) (h_me : Nat) (q_me : Nat → Nat) (k_me : Nat → ClassId) (o_me : Ob) (p0 : Int32) (y : Ob) (h : f_X9_layRuns o_me p0 = some y) : CV l yX9_layRuns cX9_layRuns 3 none ({ frames := 6, cells := 0, slots := 0, locals := 145 } : Room) dC dI sz [.ref h_me, .int p0] [wX9 h_me q_me k_me o_me] [tX9 k_me] [wX9 h_me q_me k_me y] := by
  refine CC_of (by decide) (Nat.le_of_ble_eq_true rfl) ?_
  intro p e s m below meth c A ls hx hb hml hr hlk hnm hown hts hX hK hP hD hA hl
  have hl : lv_has ls 3 [(0, .ref h_me), (1, .int p0)] := hl
  have hown : s.vm.findClass RX9 = some m.cls := hown
  have hw : Wd dC dI A s.heap [wX9 h_me q_me k_me o_me] s.heap [] := ⟨hP, hD, va_S.rf⟩
  generalize hQz : (MQ below (QV dC dI (fun (_ : Unit) => True) (fun _ => Jn [wX9 h_me q_me k_me y]) (fun _ => Jt [tX9 k_me]) A) ([.ref h_me, .int p0] : List Value).toArray s 0 0 A) = Qz
  clear hP hD hnm
  have lp_2_0 : ∀ (N : Nat), ∀ (v1 : Int32) (v2 : Int32) (o_me : Ob) (H : Heap) (locs : List Loc) (ls : Array Slot), lp_X9_layRuns_2   N (v1, v2, o_me) = some y → Wd dC dI A s.heap [wX9 h_me q_me k_me o_me] H locs → lv_has ls 3 [(0, .ref h_me), (1, .int v1), (2, .int v2)] → W p l e ({ frames := 6, cells := 0, slots := 0, locals := 145 } : Room) s m ([.ref h_me, .int p0] : List Value).toArray below meth c H locs 0 0 Qz (F0 m 2 ls []) := by
    intro N
    induction N with
    | zero =>
      intro v1 v2 o_me H locs ls h hw hl
      exact absurd (show (none : Option (Ob)) = some y from h) (by simp)
    | succ N ih =>
      intro v1 v2 o_me H locs ls h hw hl
      have h : lb_X9_layRuns_2   (lp_X9_layRuns_2   N) v1 v2 o_me = some y := h
      unfold lb_X9_layRuns_2 at h
      refine lv_iload_n hx hb dX9_layRuns_2 rfl (lv_at hl 2 rfl) ?_
      refine lv_aload_n hx hb dX9_layRuns_3 rfl (lv_at hl 0 rfl) ?_
      refine fgX9_3 hx hb hts hown hK hw 0 rfl kw1179 dX9_layRuns_4 ?_
      refine lv_iconst (v := 0) hx hb dX9_layRuns_7 (by decide) ?_
      refine faX9_3 hx hb hK hw 0 rfl rfl (by decide) dX9_layRuns_8 ?_
      refine lv_icmp_ge (tgt := 42) hx hb dX9_layRuns_9 (by decide) (fun c => ?_) (fun c => ?_)
      · have h := z_t h c
        have hy := Option.some.inj h
        rw [← hQz, ← hy]
        exact xr_v hx hb hr hlk hK hw dX9_layRuns_42
      · have h := z_f h c
        refine lv_aload_n hx hb dX9_layRuns_12 rfl (lv_at hl 0 rfl) ?_
        refine fgX9_41 hx hb hts hown hK hw 0 rfl kw1217 dX9_layRuns_13 ?_
        refine lv_iload_n hx hb dX9_layRuns_16 rfl (lv_at hl 2 rfl) ?_
        refine lv_aload_n hx hb dX9_layRuns_17 rfl (lv_at hl 0 rfl) ?_
        refine lv_iload_n hx hb dX9_layRuns_18 rfl (lv_at hl 2 rfl) ?_
        refine lv_iload_n hx hb dX9_layRuns_19 rfl (lv_at hl 1 rfl) ?_
        obtain ⟨z1, ez1, h⟩ := z_bd h
        refine xj_i (xrV (As := [.int v2, .int v1]) (rest := [.int v2, .ref (q_me 41)]) ⟨hx, hb, hml, hown, hts⟩ (m_X9_runsOf l dC dI _ h_me q_me k_me o_me v2 v1 z1 ez1) kw1411 kw1408 kw1410 kw43 kw120 hd_X9_runsOf ⟨rfl, rfl⟩ rfl rfl ⟨rfl, rfl⟩ hX hK hw [0] (by decide) rfl rfl rfl rfl rfl hl.1 rfl rfl dX9_layRuns_20) hw hA [0] (by decide) rfl rfl (fun H locs hw => ?_)
        have hw : Wd dC dI A s.heap [wX9 h_me q_me k_me z1.2] H locs := hw
        obtain ⟨g2, h⟩ := z_gd h
        refine fbX9_41 hx hb hK hw 0 rfl rfl g2 dX9_layRuns_23 (fun H locs hw => ?_)
        obtain ⟨o3, eo3, h⟩ := z_lt h
        have hw : Wd dC dI A s.heap [wX9 h_me q_me k_me o3] H locs := by rw [eo3]; exact hw
        refine lv_aload_n hx hb dX9_layRuns_24 rfl (lv_at hl 0 rfl) ?_
        refine fgX9_44 hx hb hts hown hK hw 0 rfl kw1220 dX9_layRuns_25 ?_
        refine lv_iload_n hx hb dX9_layRuns_28 rfl (lv_at hl 2 rfl) ?_
        refine lv_aload_n hx hb dX9_layRuns_29 rfl (lv_at hl 0 rfl) ?_
        refine lv_iload_n hx hb dX9_layRuns_30 rfl (lv_at hl 2 rfl) ?_
        refine lv_iload_n hx hb dX9_layRuns_31 rfl (lv_at hl 1 rfl) ?_
        obtain ⟨z4, ez4, h⟩ := z_bd h
        refine xj_i (xrV (As := [.int v2, .int v1]) (rest := [.int v2, .ref (q_me 44)]) ⟨hx, hb, hml, hown, hts⟩ (m_X9_isBarred l dC dI _ h_me q_me k_me o3 v2 v1 z4 ez4) kw1437 kw1434 kw1436 kw48 kw120 hd_X9_isBarred ⟨rfl, rfl⟩ rfl rfl ⟨rfl, rfl⟩ hX hK hw [0] (by decide) rfl rfl rfl rfl rfl hl.1 rfl rfl dX9_layRuns_32) hw hA [0] (by decide) rfl rfl (fun H locs hw => ?_)
        have hw : Wd dC dI A s.heap [wX9 h_me q_me k_me z4.2] H locs := hw
        obtain ⟨g5, h⟩ := z_gd h
        refine fbX9_44 hx hb hK hw 0 rfl rfl g5 dX9_layRuns_35 (fun H locs hw => ?_)
        obtain ⟨o6, eo6, h⟩ := z_lt h
        have hw : Wd dC dI A s.heap [wX9 h_me q_me k_me o6] H locs := by rw [eo6]; exact hw
        obtain ⟨x7, ex7, h⟩ := z_lt h
        refine lv_iinc (v := x7) (lv' := [(2, .int x7), (0, .ref h_me), (1, .int v1)]) hx hb dX9_layRuns_36 hl (k := 2) rfl ((congrArg (v2 + ·) (show Int32.ofInt 1 = (1 : Int32) from by decide)).trans ex7.symm) (by decide) rfl (fun ls hl => ?_)
        refine lv_goto (tgt := 2) hx hb dX9_layRuns_39 (by decide) ?_
        exact ih v1 x7 o6 _ _ _ h hw (lv_sub hl [1, 2, 0] rfl)
  unfold f_X9_layRuns at h
  refine lv_iconst (v := 0) hx hb dX9_layRuns_0 (by decide) ?_
  refine lv_istore_n (lv' := [(2, .int (0 : Int32)), (0, .ref h_me), (1, .int p0)]) hx hb dX9_layRuns_1 rfl hl (by decide) rfl (fun ls hl => ?_)
  exact lp_2_0  zfu p0 (0 : Int32) o_me _ _ _ h hw (lv_sub hl [1, 2, 0] rfl)

def lb_X9_enteredBits_4 (o_me : Ob)  (rec_4_0 : Int32 × Int32 → Option (Int32)) (v1 : Int32) (v2 : Int32) : Option (Int32) :=
  if (gA o_me 3 (0 : Int32).toNatClampNeg) ≤ v2 then
  (some v1)
  else
  (zgd (zin ((22 : Int32) + v2) 5484) <|
  zlt (v1 ||| ((gA o_me 3 ((22 : Int32) + v2).toNatClampNeg) <<< (v2 &&& 31))) fun x2 =>
  zlt (v2 + (1 : Int32)) fun x3 =>
  rec_4_0 (x2, x3))
def lp_X9_enteredBits_4 (o_me : Ob)  : Nat → (Int32 × Int32) → Option (Int32) := zit (fun rec a => lb_X9_enteredBits_4 o_me  rec a.1 a.2)
def f_X9_enteredBits (o_me : Ob) : Option (Int32) :=
  lp_X9_enteredBits_4 o_me  zfu ((0 : Int32), (0 : Int32))
set_option maxHeartbeats 4000000 in
set_option maxRecDepth 100000 in
theorem m_X9_enteredBits (l : Launch) (dC : Nat → ClassId) (dI : Nat → Nat → Nat) (sz : Nat) (h_me : Nat) (q_me : Nat → Nat) (k_me : Nat → ClassId) (o_me : Ob) (y : Int32) (h : f_X9_enteredBits o_me = some y) : CI l yX9_enteredBits cX9_enteredBits 3 (some .int) ({ frames := 0, cells := 0, slots := 0, locals := 0 } : Room) dC dI sz [.ref h_me] [wX9 h_me q_me k_me o_me] [tX9 k_me] y [wX9 h_me q_me k_me o_me] := by
  refine CC_of (by decide) (Nat.le_of_ble_eq_true rfl) ?_
  intro p e s m below meth c A ls hx hb hml hr hlk hnm hown hts hX hK hP hD hA hl
  have hl : lv_has ls 3 [(0, .ref h_me)] := hl
  have hown : s.vm.findClass RX9 = some m.cls := hown
  have hw : Wd dC dI A s.heap [wX9 h_me q_me k_me o_me] s.heap [] := ⟨hP, hD, va_S.rf⟩
  generalize hQz : (MQ below (QI dC dI (fun r (_ : Unit) => r = y) (fun _ => Jn [wX9 h_me q_me k_me o_me]) (fun _ => Jt [tX9 k_me]) A) ([.ref h_me] : List Value).toArray s 0 0 A) = Qz
  clear hP hD hnm
  have lp_4_0 : ∀ (N : Nat), ∀ (v1 : Int32) (v2 : Int32) (H : Heap) (locs : List Loc) (ls : Array Slot), lp_X9_enteredBits_4 o_me  N (v1, v2) = some y → Wd dC dI A s.heap [wX9 h_me q_me k_me o_me] H locs → lv_has ls 3 [(0, .ref h_me), (1, .int v1), (2, .int v2)] → W p l e ({ frames := 0, cells := 0, slots := 0, locals := 0 } : Room) s m ([.ref h_me] : List Value).toArray below meth c H locs 0 0 Qz (F0 m 4 ls []) := by
    intro N
    induction N with
    | zero =>
      intro v1 v2 H locs ls h hw hl
      exact absurd (show (none : Option (Int32)) = some y from h) (by simp)
    | succ N ih =>
      intro v1 v2 H locs ls h hw hl
      have h : lb_X9_enteredBits_4 o_me  (lp_X9_enteredBits_4 o_me  N) v1 v2 = some y := h
      unfold lb_X9_enteredBits_4 at h
      refine lv_iload_n hx hb dX9_enteredBits_4 rfl (lv_at hl 2 rfl) ?_
      refine lv_aload_n hx hb dX9_enteredBits_5 rfl (lv_at hl 0 rfl) ?_
      refine fgX9_3 hx hb hts hown hK hw 0 rfl kw1179 dX9_enteredBits_6 ?_
      refine lv_iconst (v := 0) hx hb dX9_enteredBits_9 (by decide) ?_
      refine faX9_3 hx hb hK hw 0 rfl rfl (by decide) dX9_enteredBits_10 ?_
      refine lv_icmp_ge (tgt := 34) hx hb dX9_enteredBits_11 (by decide) (fun c => ?_) (fun c => ?_)
      · have h := z_t h c
        refine lv_iload_n hx hb dX9_enteredBits_34 rfl (lv_at hl 1 rfl) ?_
        have hy := Option.some.inj h
        rw [← hQz, ← hy]
        exact xr_i (v := v1) hx hb hr rfl hlk hK hw dX9_enteredBits_35
      · have h := z_f h c
        refine lv_iload_n hx hb dX9_enteredBits_14 rfl (lv_at hl 1 rfl) ?_
        refine lv_aload_n hx hb dX9_enteredBits_15 rfl (lv_at hl 0 rfl) ?_
        refine fgX9_3 hx hb hts hown hK hw 0 rfl kw1179 dX9_enteredBits_16 ?_
        refine lv_bipush (v := 22) hx hb dX9_enteredBits_19 (by decide) ?_
        refine lv_iload_n hx hb dX9_enteredBits_21 rfl (lv_at hl 2 rfl) ?_
        refine lv_iadd hx hb dX9_enteredBits_22 ?_
        obtain ⟨g1, h⟩ := z_gd h
        refine faX9_3 hx hb hK hw 0 rfl rfl g1 dX9_enteredBits_23 ?_
        refine lv_iload_n hx hb dX9_enteredBits_24 rfl (lv_at hl 2 rfl) ?_
        refine lv_ishl hx hb dX9_enteredBits_25 ?_
        refine lv_ior hx hb dX9_enteredBits_26 ?_
        obtain ⟨x2, ex2, h⟩ := z_lt h
        refine lv_fi (v := x2) ex2.symm ?_
        refine lv_istore_n (lv' := [(1, .int x2), (0, .ref h_me), (2, .int v2)]) hx hb dX9_enteredBits_27 rfl hl (by decide) rfl (fun ls hl => ?_)
        obtain ⟨x3, ex3, h⟩ := z_lt h
        refine lv_iinc (v := x3) (lv' := [(2, .int x3), (1, .int x2), (0, .ref h_me)]) hx hb dX9_enteredBits_28 hl (k := 2) rfl ((congrArg (v2 + ·) (show Int32.ofInt 1 = (1 : Int32) from by decide)).trans ex3.symm) (by decide) rfl (fun ls hl => ?_)
        refine lv_goto (tgt := 4) hx hb dX9_enteredBits_31 (by decide) ?_
        exact ih x2 x3 _ _ _ h hw (lv_sub hl [2, 1, 0] rfl)
  unfold f_X9_enteredBits at h
  refine lv_iconst (v := 0) hx hb dX9_enteredBits_0 (by decide) ?_
  refine lv_istore_n (lv' := [(1, .int (0 : Int32)), (0, .ref h_me)]) hx hb dX9_enteredBits_1 rfl hl (by decide) rfl (fun ls hl => ?_)
  refine lv_iconst (v := 0) hx hb dX9_enteredBits_2 (by decide) ?_
  refine lv_istore_n (lv' := [(2, .int (0 : Int32)), (1, .int (0 : Int32)), (0, .ref h_me)]) hx hb dX9_enteredBits_3 rfl hl (by decide) rfl (fun ls hl => ?_)
  exact lp_4_0  zfu (0 : Int32) (0 : Int32) _ _ _ h hw (lv_sub hl [2, 1, 0] rfl)

def f_X9_is (p0 : Int32) (p1 : Int32) : Option (Int32) :=
  if ((p0 >>> (p1 &&& 31)) &&& (1 : Int32)) = (1 : Int32) then
  (some (1 : Int32))
  else
  (some (0 : Int32))
set_option maxHeartbeats 4000000 in
set_option maxRecDepth 100000 in
theorem m_X9_is (l : Launch) (dC : Nat → ClassId) (dI : Nat → Nat → Nat) (sz : Nat)  (p0 : Int32) (p1 : Int32) (y : Int32) (h : f_X9_is p0 p1 = some y) : CI l yX9_is cX9_is 2 (some .boolean) ({ frames := 0, cells := 0, slots := 0, locals := 0 } : Room) dC dI sz [.int p0, .int p1] [] [] y [] := by
  refine CC_of (by decide) (Nat.le_of_ble_eq_true rfl) ?_
  intro p e s m below meth c A ls hx hb hml hr hlk hnm hown hts hX hK hP hD hA hl
  have hl : lv_has ls 2 [(0, .int p0), (1, .int p1)] := hl
  have hown : s.vm.findClass RX9 = some m.cls := hown
  have hw : Wd dC dI A s.heap [] s.heap [] := ⟨hP, hD, va_S.rf⟩
  generalize hQz : (MQ below (QI dC dI (fun r (_ : Unit) => r = y) (fun _ => Jn []) (fun _ => Jt []) A) ([.int p0, .int p1] : List Value).toArray s 0 0 A) = Qz
  clear hP hD hnm
  unfold f_X9_is at h
  refine lv_iload_n hx hb dX9_is_0 rfl (lv_at hl 0 rfl) ?_
  refine lv_iload_n hx hb dX9_is_1 rfl (lv_at hl 1 rfl) ?_
  refine lv_ishr hx hb dX9_is_2 ?_
  refine lv_iconst (v := 1) hx hb dX9_is_3 (by decide) ?_
  refine lv_iand hx hb dX9_is_4 ?_
  refine lv_iconst (v := 1) hx hb dX9_is_5 (by decide) ?_
  refine lv_icmp_ne (tgt := 13) hx hb dX9_is_6 (by decide) (fun c => ?_) (fun c => ?_)
  · have h := z_f h c
    refine lv_iconst (v := 0) hx hb dX9_is_13 (by decide) ?_
    have hy := Option.some.inj h
    rw [← hQz, ← hy]
    exact xr_i (v := (0 : Int32)) hx hb hr rfl hlk hK hw dX9_is_14
  · have h := z_t h c
    refine lv_iconst (v := 1) hx hb dX9_is_9 (by decide) ?_
    refine lv_goto (tgt := 14) hx hb dX9_is_10 (by decide) ?_
    have hy := Option.some.inj h
    rw [← hQz, ← hy]
    exact xr_i (v := (1 : Int32)) hx hb hr rfl hlk hK hw dX9_is_14

def lb_X9_ones_4   (rec_4_0 : Int32 × Int32 × Int32 → Option (Int32)) (v0 : Int32) (v1 : Int32) (v2 : Int32) : Option (Int32) :=
  if (7 : Int32) ≤ v2 then
  (some v1)
  else
  (zlt (v1 + ((v0 >>> (v2 &&& 31)) &&& (1 : Int32))) fun x1 =>
  zlt (v2 + (1 : Int32)) fun x2 =>
  rec_4_0 (v0, x1, x2))
def lp_X9_ones_4   : Nat → (Int32 × Int32 × Int32) → Option (Int32) := zit (fun rec a => lb_X9_ones_4   rec a.1 a.2.1 a.2.2)
def f_X9_ones (p0 : Int32) : Option (Int32) :=
  lp_X9_ones_4   zfu (p0, (0 : Int32), (0 : Int32))
set_option maxHeartbeats 4000000 in
set_option maxRecDepth 100000 in
theorem m_X9_ones (l : Launch) (dC : Nat → ClassId) (dI : Nat → Nat → Nat) (sz : Nat)  (p0 : Int32) (y : Int32) (h : f_X9_ones p0 = some y) : CI l yX9_ones cX9_ones 3 (some .int) ({ frames := 0, cells := 0, slots := 0, locals := 0 } : Room) dC dI sz [.int p0] [] [] y [] := by
  refine CC_of (by decide) (Nat.le_of_ble_eq_true rfl) ?_
  intro p e s m below meth c A ls hx hb hml hr hlk hnm hown hts hX hK hP hD hA hl
  have hl : lv_has ls 3 [(0, .int p0)] := hl
  have hown : s.vm.findClass RX9 = some m.cls := hown
  have hw : Wd dC dI A s.heap [] s.heap [] := ⟨hP, hD, va_S.rf⟩
  generalize hQz : (MQ below (QI dC dI (fun r (_ : Unit) => r = y) (fun _ => Jn []) (fun _ => Jt []) A) ([.int p0] : List Value).toArray s 0 0 A) = Qz
  clear hP hD hnm
  have lp_4_0 : ∀ (N : Nat), ∀ (v0 : Int32) (v1 : Int32) (v2 : Int32) (H : Heap) (locs : List Loc) (ls : Array Slot), lp_X9_ones_4   N (v0, v1, v2) = some y → Wd dC dI A s.heap [] H locs → lv_has ls 3 [(0, .int v0), (1, .int v1), (2, .int v2)] → W p l e ({ frames := 0, cells := 0, slots := 0, locals := 0 } : Room) s m ([.int p0] : List Value).toArray below meth c H locs 0 0 Qz (F0 m 4 ls []) := by
    intro N
    induction N with
    | zero =>
      intro v0 v1 v2 H locs ls h hw hl
      exact absurd (show (none : Option (Int32)) = some y from h) (by simp)
    | succ N ih =>
      intro v0 v1 v2 H locs ls h hw hl
      have h : lb_X9_ones_4   (lp_X9_ones_4   N) v0 v1 v2 = some y := h
      unfold lb_X9_ones_4 at h
      refine lv_iload_n hx hb dX9_ones_4 rfl (lv_at hl 2 rfl) ?_
      refine lv_bipush (v := 7) hx hb dX9_ones_5 (by decide) ?_
      refine lv_icmp_ge (tgt := 24) hx hb dX9_ones_7 (by decide) (fun c => ?_) (fun c => ?_)
      · have h := z_t h c
        refine lv_iload_n hx hb dX9_ones_24 rfl (lv_at hl 1 rfl) ?_
        have hy := Option.some.inj h
        rw [← hQz, ← hy]
        exact xr_i (v := v1) hx hb hr rfl hlk hK hw dX9_ones_25
      · have h := z_f h c
        refine lv_iload_n hx hb dX9_ones_10 rfl (lv_at hl 1 rfl) ?_
        refine lv_iload_n hx hb dX9_ones_11 rfl (lv_at hl 0 rfl) ?_
        refine lv_iload_n hx hb dX9_ones_12 rfl (lv_at hl 2 rfl) ?_
        refine lv_ishr hx hb dX9_ones_13 ?_
        refine lv_iconst (v := 1) hx hb dX9_ones_14 (by decide) ?_
        refine lv_iand hx hb dX9_ones_15 ?_
        refine lv_iadd hx hb dX9_ones_16 ?_
        obtain ⟨x1, ex1, h⟩ := z_lt h
        refine lv_fi (v := x1) ex1.symm ?_
        refine lv_istore_n (lv' := [(1, .int x1), (0, .int v0), (2, .int v2)]) hx hb dX9_ones_17 rfl hl (by decide) rfl (fun ls hl => ?_)
        obtain ⟨x2, ex2, h⟩ := z_lt h
        refine lv_iinc (v := x2) (lv' := [(2, .int x2), (1, .int x1), (0, .int v0)]) hx hb dX9_ones_18 hl (k := 2) rfl ((congrArg (v2 + ·) (show Int32.ofInt 1 = (1 : Int32) from by decide)).trans ex2.symm) (by decide) rfl (fun ls hl => ?_)
        refine lv_goto (tgt := 4) hx hb dX9_ones_21 (by decide) ?_
        exact ih v0 x1 x2 _ _ _ h hw (lv_sub hl [2, 1, 0] rfl)
  unfold f_X9_ones at h
  refine lv_iconst (v := 0) hx hb dX9_ones_0 (by decide) ?_
  refine lv_istore_n (lv' := [(1, .int (0 : Int32)), (0, .int p0)]) hx hb dX9_ones_1 rfl hl (by decide) rfl (fun ls hl => ?_)
  refine lv_iconst (v := 0) hx hb dX9_ones_2 (by decide) ?_
  refine lv_istore_n (lv' := [(2, .int (0 : Int32)), (1, .int (0 : Int32)), (0, .int p0)]) hx hb dX9_ones_3 rfl hl (by decide) rfl (fun ls hl => ?_)
  exact lp_4_0  zfu p0 (0 : Int32) (0 : Int32) _ _ _ h hw (lv_sub hl [2, 1, 0] rfl)

def bk_X9_placeOf_85 (o_me : Ob) (rec_5_0 : Int32 × Int32 × Int32 × Int32 → Option (Int32)) (v1 : Int32) (v2 : Int32) (v4 : Int32) (s0 : Int32) (s1 : Int32) : Option (Int32) :=
  zlt (s1 + s0) fun x1 =>
  zlt (v4 + (1 : Int32)) fun x2 =>
  rec_5_0 (v1, v2, x1, x2)
def bk_X9_placeOf_84 (o_me : Ob) (rec_5_0 : Int32 × Int32 × Int32 × Int32 → Option (Int32)) (v1 : Int32) (v2 : Int32) (v4 : Int32) (s0 : Int32) : Option (Int32) :=
  bk_X9_placeOf_85 o_me rec_5_0 v1 v2 v4 (0 : Int32) s0
def bk_X9_placeOf_80 (o_me : Ob) (rec_5_0 : Int32 × Int32 × Int32 × Int32 → Option (Int32)) (v1 : Int32) (v2 : Int32) (v4 : Int32) (s0 : Int32) : Option (Int32) :=
  bk_X9_placeOf_85 o_me rec_5_0 v1 v2 v4 (1 : Int32) s0
def lb_X9_placeOf_5 (o_me : Ob)  (rec_5_0 : Int32 × Int32 × Int32 × Int32 → Option (Int32)) (v1 : Int32) (v2 : Int32) (v3 : Int32) (v4 : Int32) : Option (Int32) :=
  if (gA o_me 3 (0 : Int32).toNatClampNeg) ≤ v4 then
  (some v3)
  else
  (if v4 = v1 then
  (bk_X9_placeOf_84 o_me rec_5_0 v1 v2 v4 v3)
  else
  ((f_X9_is v2 v4).bind fun z3 =>
  if z3 = (0 : Int32) then
  (bk_X9_placeOf_84 o_me rec_5_0 v1 v2 v4 v3)
  else
  (zgd (zin v4 7) <|
  if (gA o_me 44 v4.toNatClampNeg) = (0 : Int32) then
  (zgd (zin v4 7) <|
  zgd (zin v1 7) <|
  if (gA o_me 41 v1.toNatClampNeg) < (gA o_me 41 v4.toNatClampNeg) then
  (bk_X9_placeOf_80 o_me rec_5_0 v1 v2 v4 v3)
  else
  (zgd (zin v4 7) <|
  zgd (zin v1 7) <|
  if (gA o_me 41 v4.toNatClampNeg) = (gA o_me 41 v1.toNatClampNeg) then
  (if v1 ≤ v4 then
  (bk_X9_placeOf_84 o_me rec_5_0 v1 v2 v4 v3)
  else
  (bk_X9_placeOf_80 o_me rec_5_0 v1 v2 v4 v3))
  else
  (bk_X9_placeOf_84 o_me rec_5_0 v1 v2 v4 v3)))
  else
  (bk_X9_placeOf_84 o_me rec_5_0 v1 v2 v4 v3))))
def lp_X9_placeOf_5 (o_me : Ob)  : Nat → (Int32 × Int32 × Int32 × Int32) → Option (Int32) := zit (fun rec a => lb_X9_placeOf_5 o_me  rec a.1 a.2.1 a.2.2.1 a.2.2.2)
def f_X9_placeOf (o_me : Ob) (p0 : Int32) (p1 : Int32) : Option (Int32) :=
  lp_X9_placeOf_5 o_me  zfu (p0, p1, (1 : Int32), (0 : Int32))
set_option maxHeartbeats 4000000 in
set_option maxRecDepth 100000 in
theorem m_X9_placeOf (l : Launch) (dC : Nat → ClassId) (dI : Nat → Nat → Nat) (sz : Nat) (h_me : Nat) (q_me : Nat → Nat) (k_me : Nat → ClassId) (o_me : Ob) (p0 : Int32) (p1 : Int32) (y : Int32) (h : f_X9_placeOf o_me p0 p1 = some y) : CI l yX9_placeOf cX9_placeOf 5 (some .int) ({ frames := 1, cells := 0, slots := 0, locals := 21 } : Room) dC dI sz [.ref h_me, .int p0, .int p1] [wX9 h_me q_me k_me o_me] [tX9 k_me] y [wX9 h_me q_me k_me o_me] := by
  refine CC_of (by decide) (Nat.le_of_ble_eq_true rfl) ?_
  intro p e s m below meth c A ls hx hb hml hr hlk hnm hown hts hX hK hP hD hA hl
  have hl : lv_has ls 5 [(0, .ref h_me), (1, .int p0), (2, .int p1)] := hl
  have hown : s.vm.findClass RX9 = some m.cls := hown
  have hw : Wd dC dI A s.heap [wX9 h_me q_me k_me o_me] s.heap [] := ⟨hP, hD, va_S.rf⟩
  generalize hQz : (MQ below (QI dC dI (fun r (_ : Unit) => r = y) (fun _ => Jn [wX9 h_me q_me k_me o_me]) (fun _ => Jt [tX9 k_me]) A) ([.ref h_me, .int p0, .int p1] : List Value).toArray s 0 0 A) = Qz
  clear hP hD hnm
  have bk_85_2 : ∀ (rec_5_0 : Int32 × Int32 × Int32 × Int32 → Option (Int32)) (hrec_5_0 : ∀ (v1 : Int32) (v2 : Int32) (v3 : Int32) (v4 : Int32) (H : Heap) (locs : List Loc) (ls : Array Slot), rec_5_0 (v1, v2, v3, v4) = some y → Wd dC dI A s.heap [wX9 h_me q_me k_me o_me] H locs → lv_has ls 5 [(0, .ref h_me), (1, .int v1), (2, .int v2), (3, .int v3), (4, .int v4)] → W p l e ({ frames := 1, cells := 0, slots := 0, locals := 21 } : Room) s m ([.ref h_me, .int p0, .int p1] : List Value).toArray below meth c H locs 0 0 Qz (F0 m 5 ls [])), ∀ (v1 : Int32) (v2 : Int32) (v4 : Int32) (s0 : Int32) (s1 : Int32) (H : Heap) (locs : List Loc) (ls : Array Slot), bk_X9_placeOf_85 o_me rec_5_0 v1 v2 v4 s0 s1 = some y → Wd dC dI A s.heap [wX9 h_me q_me k_me o_me] H locs → lv_has ls 5 [(0, .ref h_me), (1, .int v1), (2, .int v2), (4, .int v4)] → W p l e ({ frames := 1, cells := 0, slots := 0, locals := 21 } : Room) s m ([.ref h_me, .int p0, .int p1] : List Value).toArray below meth c H locs 0 0 Qz (F0 m 85 ls [.int s0, .int s1]) := by
    intro rec_5_0 hrec_5_0
    intro v1 v2 v4 s0 s1 H locs ls h hw hl
    unfold bk_X9_placeOf_85 at h
    refine lv_iadd hx hb dX9_placeOf_85 ?_
    obtain ⟨x1, ex1, h⟩ := z_lt h
    refine lv_fi (v := x1) ex1.symm ?_
    refine lv_istore_n (lv' := [(3, .int x1), (0, .ref h_me), (1, .int v1), (2, .int v2), (4, .int v4)]) hx hb dX9_placeOf_86 rfl hl (by decide) rfl (fun ls hl => ?_)
    obtain ⟨x2, ex2, h⟩ := z_lt h
    refine lv_iinc (v := x2) (lv' := [(4, .int x2), (3, .int x1), (0, .ref h_me), (1, .int v1), (2, .int v2)]) hx hb dX9_placeOf_87 hl (k := 4) rfl ((congrArg (v4 + ·) (show Int32.ofInt 1 = (1 : Int32) from by decide)).trans ex2.symm) (by decide) rfl (fun ls hl => ?_)
    refine lv_goto (tgt := 5) hx hb dX9_placeOf_90 (by decide) ?_
    exact hrec_5_0 v1 v2 x1 x2 _ _ _ h hw (lv_sub hl [2, 3, 4, 1, 0] rfl)
  have bk_84_1 : ∀ (rec_5_0 : Int32 × Int32 × Int32 × Int32 → Option (Int32)) (hrec_5_0 : ∀ (v1 : Int32) (v2 : Int32) (v3 : Int32) (v4 : Int32) (H : Heap) (locs : List Loc) (ls : Array Slot), rec_5_0 (v1, v2, v3, v4) = some y → Wd dC dI A s.heap [wX9 h_me q_me k_me o_me] H locs → lv_has ls 5 [(0, .ref h_me), (1, .int v1), (2, .int v2), (3, .int v3), (4, .int v4)] → W p l e ({ frames := 1, cells := 0, slots := 0, locals := 21 } : Room) s m ([.ref h_me, .int p0, .int p1] : List Value).toArray below meth c H locs 0 0 Qz (F0 m 5 ls [])), ∀ (v1 : Int32) (v2 : Int32) (v4 : Int32) (s0 : Int32) (H : Heap) (locs : List Loc) (ls : Array Slot), bk_X9_placeOf_84 o_me rec_5_0 v1 v2 v4 s0 = some y → Wd dC dI A s.heap [wX9 h_me q_me k_me o_me] H locs → lv_has ls 5 [(0, .ref h_me), (1, .int v1), (2, .int v2), (4, .int v4)] → W p l e ({ frames := 1, cells := 0, slots := 0, locals := 21 } : Room) s m ([.ref h_me, .int p0, .int p1] : List Value).toArray below meth c H locs 0 0 Qz (F0 m 84 ls [.int s0]) := by
    intro rec_5_0 hrec_5_0
    intro v1 v2 v4 s0 H locs ls h hw hl
    unfold bk_X9_placeOf_84 at h
    refine lv_iconst (v := 0) hx hb dX9_placeOf_84 (by decide) ?_
    exact bk_85_2 rec_5_0 hrec_5_0 v1 v2 v4 (0 : Int32) s0 _ _ _ h hw (lv_sub hl [0, 1, 2, 3] rfl)
  have bk_80_3 : ∀ (rec_5_0 : Int32 × Int32 × Int32 × Int32 → Option (Int32)) (hrec_5_0 : ∀ (v1 : Int32) (v2 : Int32) (v3 : Int32) (v4 : Int32) (H : Heap) (locs : List Loc) (ls : Array Slot), rec_5_0 (v1, v2, v3, v4) = some y → Wd dC dI A s.heap [wX9 h_me q_me k_me o_me] H locs → lv_has ls 5 [(0, .ref h_me), (1, .int v1), (2, .int v2), (3, .int v3), (4, .int v4)] → W p l e ({ frames := 1, cells := 0, slots := 0, locals := 21 } : Room) s m ([.ref h_me, .int p0, .int p1] : List Value).toArray below meth c H locs 0 0 Qz (F0 m 5 ls [])), ∀ (v1 : Int32) (v2 : Int32) (v4 : Int32) (s0 : Int32) (H : Heap) (locs : List Loc) (ls : Array Slot), bk_X9_placeOf_80 o_me rec_5_0 v1 v2 v4 s0 = some y → Wd dC dI A s.heap [wX9 h_me q_me k_me o_me] H locs → lv_has ls 5 [(0, .ref h_me), (1, .int v1), (2, .int v2), (4, .int v4)] → W p l e ({ frames := 1, cells := 0, slots := 0, locals := 21 } : Room) s m ([.ref h_me, .int p0, .int p1] : List Value).toArray below meth c H locs 0 0 Qz (F0 m 80 ls [.int s0]) := by
    intro rec_5_0 hrec_5_0
    intro v1 v2 v4 s0 H locs ls h hw hl
    unfold bk_X9_placeOf_80 at h
    refine lv_iconst (v := 1) hx hb dX9_placeOf_80 (by decide) ?_
    refine lv_goto (tgt := 85) hx hb dX9_placeOf_81 (by decide) ?_
    exact bk_85_2 rec_5_0 hrec_5_0 v1 v2 v4 (1 : Int32) s0 _ _ _ h hw (lv_sub hl [0, 1, 2, 3] rfl)
  have lp_5_0 : ∀ (N : Nat), ∀ (v1 : Int32) (v2 : Int32) (v3 : Int32) (v4 : Int32) (H : Heap) (locs : List Loc) (ls : Array Slot), lp_X9_placeOf_5 o_me  N (v1, v2, v3, v4) = some y → Wd dC dI A s.heap [wX9 h_me q_me k_me o_me] H locs → lv_has ls 5 [(0, .ref h_me), (1, .int v1), (2, .int v2), (3, .int v3), (4, .int v4)] → W p l e ({ frames := 1, cells := 0, slots := 0, locals := 21 } : Room) s m ([.ref h_me, .int p0, .int p1] : List Value).toArray below meth c H locs 0 0 Qz (F0 m 5 ls []) := by
    intro N
    induction N with
    | zero =>
      intro v1 v2 v3 v4 H locs ls h hw hl
      exact absurd (show (none : Option (Int32)) = some y from h) (by simp)
    | succ N ih =>
      intro v1 v2 v3 v4 H locs ls h hw hl
      have h : lb_X9_placeOf_5 o_me  (lp_X9_placeOf_5 o_me  N) v1 v2 v3 v4 = some y := h
      unfold lb_X9_placeOf_5 at h
      refine lv_iload hx hb dX9_placeOf_5 (lv_at hl 4 rfl) ?_
      refine lv_aload_n hx hb dX9_placeOf_7 rfl (lv_at hl 0 rfl) ?_
      refine fgX9_3 hx hb hts hown hK hw 0 rfl kw1179 dX9_placeOf_8 ?_
      refine lv_iconst (v := 0) hx hb dX9_placeOf_11 (by decide) ?_
      refine faX9_3 hx hb hK hw 0 rfl rfl (by decide) dX9_placeOf_12 ?_
      refine lv_icmp_ge (tgt := 93) hx hb dX9_placeOf_13 (by decide) (fun c => ?_) (fun c => ?_)
      · have h := z_t h c
        refine lv_iload_n hx hb dX9_placeOf_93 rfl (lv_at hl 3 rfl) ?_
        have hy := Option.some.inj h
        rw [← hQz, ← hy]
        exact xr_i (v := v3) hx hb hr rfl hlk hK hw dX9_placeOf_94
      · have h := z_f h c
        refine lv_iload_n hx hb dX9_placeOf_16 rfl (lv_at hl 3 rfl) ?_
        refine lv_iload hx hb dX9_placeOf_17 (lv_at hl 4 rfl) ?_
        refine lv_iload_n hx hb dX9_placeOf_19 rfl (lv_at hl 1 rfl) ?_
        refine lv_icmp_eq (tgt := 84) hx hb dX9_placeOf_20 (by decide) (fun c => ?_) (fun c => ?_)
        · have h := z_t h c
          exact bk_84_1 (lp_X9_placeOf_5 o_me  N) ih v1 v2 v4 v3 _ _ _ h hw (lv_sub hl [0, 1, 2, 4] rfl)
        · have h := z_f h c
          refine lv_iload_n hx hb dX9_placeOf_23 rfl (lv_at hl 2 rfl) ?_
          refine lv_iload hx hb dX9_placeOf_24 (lv_at hl 4 rfl) ?_
          obtain ⟨z3, ez3, h⟩ := z_bd h
          refine xj_i (xrS (As := [.int v2, .int v4]) (rest := [.int v3]) ⟨hx, hb, hml, hown, hts⟩ (m_X9_is l dC dI _  v2 v4 z3 ez3) kw1704 kw1702 kw1703 kw120 hd_X9_is ⟨rfl, rfl⟩ rfl rfl ⟨rfl, rfl⟩ hX hK hw [] (by decide) rfl rfl hl.1 rfl rfl dX9_placeOf_26) hw hA [] (by decide) rfl rfl (fun H locs hw => ?_)
          refine lv_if_eq (tgt := 84) hx hb dX9_placeOf_29 (by decide) (fun c => ?_) (fun c => ?_)
          · have h := z_t h c
            exact bk_84_1 (lp_X9_placeOf_5 o_me  N) ih v1 v2 v4 v3 _ _ _ h hw (lv_sub hl [0, 1, 2, 4] rfl)
          · have h := z_f h c
            refine lv_aload_n hx hb dX9_placeOf_32 rfl (lv_at hl 0 rfl) ?_
            refine fgX9_44 hx hb hts hown hK hw 0 rfl kw1220 dX9_placeOf_33 ?_
            refine lv_iload hx hb dX9_placeOf_36 (lv_at hl 4 rfl) ?_
            obtain ⟨g4, h⟩ := z_gd h
            refine faX9_44 hx hb hK hw 0 rfl rfl g4 dX9_placeOf_38 ?_
            refine lv_if_ne (tgt := 84) hx hb dX9_placeOf_39 (by decide) (fun c => ?_) (fun c => ?_)
            · have h := z_f h c
              exact bk_84_1 (lp_X9_placeOf_5 o_me  N) ih v1 v2 v4 v3 _ _ _ h hw (lv_sub hl [0, 1, 2, 4] rfl)
            · have h := z_t h c
              refine lv_aload_n hx hb dX9_placeOf_42 rfl (lv_at hl 0 rfl) ?_
              refine fgX9_41 hx hb hts hown hK hw 0 rfl kw1217 dX9_placeOf_43 ?_
              refine lv_iload hx hb dX9_placeOf_46 (lv_at hl 4 rfl) ?_
              obtain ⟨g5, h⟩ := z_gd h
              refine faX9_41 hx hb hK hw 0 rfl rfl g5 dX9_placeOf_48 ?_
              refine lv_aload_n hx hb dX9_placeOf_49 rfl (lv_at hl 0 rfl) ?_
              refine fgX9_41 hx hb hts hown hK hw 0 rfl kw1217 dX9_placeOf_50 ?_
              refine lv_iload_n hx hb dX9_placeOf_53 rfl (lv_at hl 1 rfl) ?_
              obtain ⟨g6, h⟩ := z_gd h
              refine faX9_41 hx hb hK hw 0 rfl rfl g6 dX9_placeOf_54 ?_
              refine lv_icmp_gt (tgt := 80) hx hb dX9_placeOf_55 (by decide) (fun c => ?_) (fun c => ?_)
              · have h := z_t h c
                exact bk_80_3 (lp_X9_placeOf_5 o_me  N) ih v1 v2 v4 v3 _ _ _ h hw (lv_sub hl [0, 1, 2, 4] rfl)
              · have h := z_f h c
                refine lv_aload_n hx hb dX9_placeOf_58 rfl (lv_at hl 0 rfl) ?_
                refine fgX9_41 hx hb hts hown hK hw 0 rfl kw1217 dX9_placeOf_59 ?_
                refine lv_iload hx hb dX9_placeOf_62 (lv_at hl 4 rfl) ?_
                obtain ⟨g7, h⟩ := z_gd h
                refine faX9_41 hx hb hK hw 0 rfl rfl g7 dX9_placeOf_64 ?_
                refine lv_aload_n hx hb dX9_placeOf_65 rfl (lv_at hl 0 rfl) ?_
                refine fgX9_41 hx hb hts hown hK hw 0 rfl kw1217 dX9_placeOf_66 ?_
                refine lv_iload_n hx hb dX9_placeOf_69 rfl (lv_at hl 1 rfl) ?_
                obtain ⟨g8, h⟩ := z_gd h
                refine faX9_41 hx hb hK hw 0 rfl rfl g8 dX9_placeOf_70 ?_
                refine lv_icmp_ne (tgt := 84) hx hb dX9_placeOf_71 (by decide) (fun c => ?_) (fun c => ?_)
                · have h := z_f h c
                  exact bk_84_1 (lp_X9_placeOf_5 o_me  N) ih v1 v2 v4 v3 _ _ _ h hw (lv_sub hl [0, 1, 2, 4] rfl)
                · have h := z_t h c
                  refine lv_iload hx hb dX9_placeOf_74 (lv_at hl 4 rfl) ?_
                  refine lv_iload_n hx hb dX9_placeOf_76 rfl (lv_at hl 1 rfl) ?_
                  refine lv_icmp_ge (tgt := 84) hx hb dX9_placeOf_77 (by decide) (fun c => ?_) (fun c => ?_)
                  · have h := z_t h c
                    exact bk_84_1 (lp_X9_placeOf_5 o_me  N) ih v1 v2 v4 v3 _ _ _ h hw (lv_sub hl [0, 1, 2, 4] rfl)
                  · have h := z_f h c
                    exact bk_80_3 (lp_X9_placeOf_5 o_me  N) ih v1 v2 v4 v3 _ _ _ h hw (lv_sub hl [0, 1, 2, 4] rfl)
  unfold f_X9_placeOf at h
  refine lv_iconst (v := 1) hx hb dX9_placeOf_0 (by decide) ?_
  refine lv_istore_n (lv' := [(3, .int (1 : Int32)), (0, .ref h_me), (1, .int p0), (2, .int p1)]) hx hb dX9_placeOf_1 rfl hl (by decide) rfl (fun ls hl => ?_)
  refine lv_iconst (v := 0) hx hb dX9_placeOf_2 (by decide) ?_
  refine lv_istore (lv' := [(4, .int (0 : Int32)), (3, .int (1 : Int32)), (0, .ref h_me), (1, .int p0), (2, .int p1)]) hx hb dX9_placeOf_3 hl (by decide) rfl (fun ls hl => ?_)
  exact lp_5_0  zfu p0 p1 (1 : Int32) (0 : Int32) _ _ _ h hw (lv_sub hl [2, 3, 4, 1, 0] rfl)

def bk_X9_be_178   (v7 : Int32) (o_me : Ob) : Option (Int32 × Ob) :=
  some (v7, o_me)
def bk_X9_be_158  (rec_76_0 : Int32 × Int32 × Int32 × Int32 × Int32 × Int32 × Int32 × Ob → Option (Int32 × Ob)) (v1 : Int32) (v3 : Int32) (v4 : Int32) (v5 : Int32) (v7 : Int32) (v8 : Int32) (s0 : Int32) (o_me : Ob) : Option (Int32 × Ob) :=
  zlt (v8 + (1 : Int32)) fun x10 =>
  rec_76_0 (v1, v3, v4, v5, s0, v7, x10, o_me)
def bk_X9_be_141  (rec_76_0 : Int32 × Int32 × Int32 × Int32 × Int32 × Int32 × Int32 × Ob → Option (Int32 × Ob)) (v1 : Int32) (v3 : Int32) (v4 : Int32) (v5 : Int32) (v6 : Int32) (v8 : Int32) (v9 : Int32) (s0 : Int32) (o_me : Ob) : Option (Int32 × Ob) :=
  if v9 = (0 : Int32) then
  (bk_X9_be_158  rec_76_0 v1 v3 v4 v5 s0 v8 v6 o_me)
  else
  ((f_X9_ones v8).bind fun z11 =>
  bk_X9_be_158  rec_76_0 v1 v3 v4 v5 s0 v8 z11 o_me)
def bk_X9_be_127  (rec_76_0 : Int32 × Int32 × Int32 × Int32 × Int32 × Int32 × Int32 × Ob → Option (Int32 × Ob)) (v1 : Int32) (v3 : Int32) (v4 : Int32) (v5 : Int32) (v6 : Int32) (v7 : Int32) (v8 : Int32) (s0 : Int32) (o_me : Ob) : Option (Int32 × Ob) :=
  if s0 = (0 : Int32) then
  (bk_X9_be_141  rec_76_0 v1 v3 v4 v5 v6 v8 s0 v7 o_me)
  else
  (bk_X9_be_141  rec_76_0 v1 v3 v4 v5 v6 v8 s0 v8 o_me)
def bk_X9_be_126  (rec_76_0 : Int32 × Int32 × Int32 × Int32 × Int32 × Int32 × Int32 × Ob → Option (Int32 × Ob)) (v1 : Int32) (v3 : Int32) (v4 : Int32) (v5 : Int32) (v6 : Int32) (v7 : Int32) (v8 : Int32) (o_me : Ob) : Option (Int32 × Ob) :=
  bk_X9_be_127  rec_76_0 v1 v3 v4 v5 v6 v7 v8 (0 : Int32) o_me
def lb_X9_be_76   (rec_76_0 : Int32 × Int32 × Int32 × Int32 × Int32 × Int32 × Int32 × Ob → Option (Int32 × Ob)) (v1 : Int32) (v3 : Int32) (v4 : Int32) (v5 : Int32) (v6 : Int32) (v7 : Int32) (v8 : Int32) (o_me : Ob) : Option (Int32 × Ob) :=
  if ((1 : Int32) <<< ((gA o_me 3 (0 : Int32).toNatClampNeg) &&& 31)) ≤ v8 then
  (if v7 = (-1 : Int32) then
  (bk_X9_be_178   v7 o_me)
  else
  (if v4 = (1 : Int32) then
  (bk_X9_be_178   v7 o_me)
  else
  (some (v6, o_me))))
  else
  ((f_X9_is v8 v1).bind fun z9 =>
  if z9 = (0 : Int32) then
  ((f_X9_ones v8).bind fun z12 =>
  if v6 ≤ z12 then
  (bk_X9_be_126  rec_76_0 v1 v3 v4 v5 v6 v7 v8 o_me)
  else
  ((f_X9_placeOf o_me v1 (v5 ^^^ v8)).bind fun z13 =>
  if z13 = v3 then
  (bk_X9_be_127  rec_76_0 v1 v3 v4 v5 v6 v7 v8 (1 : Int32) o_me)
  else
  (bk_X9_be_126  rec_76_0 v1 v3 v4 v5 v6 v7 v8 o_me)))
  else
  (bk_X9_be_126  rec_76_0 v1 v3 v4 v5 v6 v7 v8 o_me))
def lp_X9_be_76   : Nat → (Int32 × Int32 × Int32 × Int32 × Int32 × Int32 × Int32 × Ob) → Option (Int32 × Ob) := zit (fun rec a => lb_X9_be_76   rec a.1 a.2.1 a.2.2.1 a.2.2.2.1 a.2.2.2.2.1 a.2.2.2.2.2.1 a.2.2.2.2.2.2.1 a.2.2.2.2.2.2.2)
def f_X9_be (o_me : Ob) (p0 : Int32) (p1 : Int32) (p2 : Int32) (p3 : Int32) : Option (Int32 × Ob) :=
  zlt (sI o_me 0 (0 : Int32)) fun o1 =>
  (f_X9_isPerson o1 p0).bind fun z2 =>
  if z2 = (0 : Int32) then
  (some ((-1 : Int32), o1))
  else
  ((f_X9_isRace p1).bind fun z3 =>
  if z3 = (0 : Int32) then
  (some ((-1 : Int32), o1))
  else
  ((f_X9_in p2.toInt64 (1 : Int64) (7 : Int64)).bind fun z4 =>
  if z4 = (0 : Int32) then
  (some ((-1 : Int32), o1))
  else
  ((f_X9_in p3.toInt64 (0 : Int64) (1 : Int64)).bind fun z5 =>
  if z5 = (0 : Int32) then
  (some ((-1 : Int32), o1))
  else
  ((f_X9_isBarred o1 p0 p1).bind fun z6 =>
  if z6.1 = (0 : Int32) then
  ((f_X9_layRuns z6.2 p1).bind fun z7 =>
  (f_X9_enteredBits z7).bind fun z8 =>
  lp_X9_be_76   zfu (p0, p2, p3, z8, (100000000 : Int32), (-1 : Int32), (0 : Int32), z7))
  else
  (some ((-1 : Int32), z6.2))))))
set_option maxHeartbeats 4000000 in
set_option maxRecDepth 100000 in
theorem m_X9_be (l : Launch) (dC : Nat → ClassId) (dI : Nat → Nat → Nat) (sz : Nat) (h_me : Nat) (q_me : Nat → Nat) (k_me : Nat → ClassId) (o_me : Ob) (p0 : Int32) (p1 : Int32) (p2 : Int32) (p3 : Int32) (y : Int32 × Ob) (h : f_X9_be o_me p0 p1 p2 p3 = some y) : CI l yX9_be cX9_be 10 (some .int) ({ frames := 7, cells := 0, slots := 0, locals := 167 } : Room) dC dI sz [.ref h_me, .int p0, .int p1, .int p2, .int p3] [wX9 h_me q_me k_me o_me] [tX9 k_me] y.1 [wX9 h_me q_me k_me y.2] := by
  refine CC_of (by decide) (Nat.le_of_ble_eq_true rfl) ?_
  intro p e s m below meth c A ls hx hb hml hr hlk hnm hown hts hX hK hP hD hA hl
  have hl : lv_has ls 10 [(0, .ref h_me), (1, .int p0), (2, .int p1), (3, .int p2), (4, .int p3)] := hl
  have hown : s.vm.findClass RX9 = some m.cls := hown
  have hw : Wd dC dI A s.heap [wX9 h_me q_me k_me o_me] s.heap [] := ⟨hP, hD, va_S.rf⟩
  generalize hQz : (MQ below (QI dC dI (fun r (_ : Unit) => r = y.1) (fun _ => Jn [wX9 h_me q_me k_me y.2]) (fun _ => Jt [tX9 k_me]) A) ([.ref h_me, .int p0, .int p1, .int p2, .int p3] : List Value).toArray s 0 0 A) = Qz
  clear hP hD hnm
  have bk_178_1 : ∀ (v7 : Int32) (o_me : Ob) (H : Heap) (locs : List Loc) (ls : Array Slot), bk_X9_be_178   v7 o_me = some y → Wd dC dI A s.heap [wX9 h_me q_me k_me o_me] H locs → lv_has ls 10 [(7, .int v7)] → W p l e ({ frames := 7, cells := 0, slots := 0, locals := 167 } : Room) s m ([.ref h_me, .int p0, .int p1, .int p2, .int p3] : List Value).toArray below meth c H locs 0 0 Qz (F0 m 178 ls []) := by
    intro v7 o_me H locs ls h hw hl
    unfold bk_X9_be_178 at h
    refine lv_iload hx hb dX9_be_178 (lv_at hl 0 rfl) ?_
    refine lv_goto (tgt := 185) hx hb dX9_be_180 (by decide) ?_
    have hy := Option.some.inj h
    rw [← hQz, ← hy]
    exact xr_i (v := v7) hx hb hr rfl hlk hK hw dX9_be_185
  have bk_158_5 : ∀ (rec_76_0 : Int32 × Int32 × Int32 × Int32 × Int32 × Int32 × Int32 × Ob → Option (Int32 × Ob)) (hrec_76_0 : ∀ (v1 : Int32) (v3 : Int32) (v4 : Int32) (v5 : Int32) (v6 : Int32) (v7 : Int32) (v8 : Int32) (o_me : Ob) (H : Heap) (locs : List Loc) (ls : Array Slot), rec_76_0 (v1, v3, v4, v5, v6, v7, v8, o_me) = some y → Wd dC dI A s.heap [wX9 h_me q_me k_me o_me] H locs → lv_has ls 10 [(0, .ref h_me), (1, .int v1), (3, .int v3), (4, .int v4), (5, .int v5), (6, .int v6), (7, .int v7), (8, .int v8)] → W p l e ({ frames := 7, cells := 0, slots := 0, locals := 167 } : Room) s m ([.ref h_me, .int p0, .int p1, .int p2, .int p3] : List Value).toArray below meth c H locs 0 0 Qz (F0 m 76 ls [])), ∀ (v1 : Int32) (v3 : Int32) (v4 : Int32) (v5 : Int32) (v7 : Int32) (v8 : Int32) (s0 : Int32) (o_me : Ob) (H : Heap) (locs : List Loc) (ls : Array Slot), bk_X9_be_158  rec_76_0 v1 v3 v4 v5 v7 v8 s0 o_me = some y → Wd dC dI A s.heap [wX9 h_me q_me k_me o_me] H locs → lv_has ls 10 [(0, .ref h_me), (1, .int v1), (3, .int v3), (4, .int v4), (5, .int v5), (7, .int v7), (8, .int v8)] → W p l e ({ frames := 7, cells := 0, slots := 0, locals := 167 } : Room) s m ([.ref h_me, .int p0, .int p1, .int p2, .int p3] : List Value).toArray below meth c H locs 0 0 Qz (F0 m 158 ls [.int s0]) := by
    intro rec_76_0 hrec_76_0
    intro v1 v3 v4 v5 v7 v8 s0 o_me H locs ls h hw hl
    unfold bk_X9_be_158 at h
    refine lv_istore (lv' := [(6, .int s0), (0, .ref h_me), (1, .int v1), (3, .int v3), (4, .int v4), (5, .int v5), (7, .int v7), (8, .int v8)]) hx hb dX9_be_158 hl (by decide) rfl (fun ls hl => ?_)
    obtain ⟨x10, ex10, h⟩ := z_lt h
    refine lv_iinc (v := x10) (lv' := [(8, .int x10), (6, .int s0), (0, .ref h_me), (1, .int v1), (3, .int v3), (4, .int v4), (5, .int v5), (7, .int v7)]) hx hb dX9_be_160 hl (k := 7) rfl ((congrArg (v8 + ·) (show Int32.ofInt 1 = (1 : Int32) from by decide)).trans ex10.symm) (by decide) rfl (fun ls hl => ?_)
    refine lv_goto (tgt := 76) hx hb dX9_be_163 (by decide) ?_
    exact hrec_76_0 v1 v3 v4 v5 s0 v7 x10 o_me _ _ _ h hw (lv_sub hl [2, 3, 4, 5, 6, 1, 7, 0] rfl)
  have bk_141_4 : ∀ (rec_76_0 : Int32 × Int32 × Int32 × Int32 × Int32 × Int32 × Int32 × Ob → Option (Int32 × Ob)) (hrec_76_0 : ∀ (v1 : Int32) (v3 : Int32) (v4 : Int32) (v5 : Int32) (v6 : Int32) (v7 : Int32) (v8 : Int32) (o_me : Ob) (H : Heap) (locs : List Loc) (ls : Array Slot), rec_76_0 (v1, v3, v4, v5, v6, v7, v8, o_me) = some y → Wd dC dI A s.heap [wX9 h_me q_me k_me o_me] H locs → lv_has ls 10 [(0, .ref h_me), (1, .int v1), (3, .int v3), (4, .int v4), (5, .int v5), (6, .int v6), (7, .int v7), (8, .int v8)] → W p l e ({ frames := 7, cells := 0, slots := 0, locals := 167 } : Room) s m ([.ref h_me, .int p0, .int p1, .int p2, .int p3] : List Value).toArray below meth c H locs 0 0 Qz (F0 m 76 ls [])), ∀ (v1 : Int32) (v3 : Int32) (v4 : Int32) (v5 : Int32) (v6 : Int32) (v8 : Int32) (v9 : Int32) (s0 : Int32) (o_me : Ob) (H : Heap) (locs : List Loc) (ls : Array Slot), bk_X9_be_141  rec_76_0 v1 v3 v4 v5 v6 v8 v9 s0 o_me = some y → Wd dC dI A s.heap [wX9 h_me q_me k_me o_me] H locs → lv_has ls 10 [(0, .ref h_me), (1, .int v1), (3, .int v3), (4, .int v4), (5, .int v5), (6, .int v6), (8, .int v8), (9, .int v9)] → W p l e ({ frames := 7, cells := 0, slots := 0, locals := 167 } : Room) s m ([.ref h_me, .int p0, .int p1, .int p2, .int p3] : List Value).toArray below meth c H locs 0 0 Qz (F0 m 141 ls [.int s0]) := by
    intro rec_76_0 hrec_76_0
    intro v1 v3 v4 v5 v6 v8 v9 s0 o_me H locs ls h hw hl
    unfold bk_X9_be_141 at h
    refine lv_istore (lv' := [(7, .int s0), (0, .ref h_me), (1, .int v1), (3, .int v3), (4, .int v4), (5, .int v5), (6, .int v6), (8, .int v8), (9, .int v9)]) hx hb dX9_be_141 hl (by decide) rfl (fun ls hl => ?_)
    refine lv_iload hx hb dX9_be_143 (lv_at hl 8 rfl) ?_
    refine lv_if_eq (tgt := 156) hx hb dX9_be_145 (by decide) (fun c => ?_) (fun c => ?_)
    · have h := z_t h c
      refine lv_iload hx hb dX9_be_156 (lv_at hl 6 rfl) ?_
      exact bk_158_5 rec_76_0 hrec_76_0 v1 v3 v4 v5 s0 v8 v6 o_me _ _ _ h hw (lv_sub hl [1, 2, 3, 4, 5, 0, 7] rfl)
    · have h := z_f h c
      refine lv_iload hx hb dX9_be_148 (lv_at hl 7 rfl) ?_
      obtain ⟨z11, ez11, h⟩ := z_bd h
      refine xj_i (xrS (As := [.int v8]) (rest := []) ⟨hx, hb, hml, hown, hts⟩ (m_X9_ones l dC dI _  v8 z11 ez11) kw1707 kw1705 kw1706 kw120 hd_X9_ones ⟨rfl, rfl⟩ rfl rfl ⟨rfl, rfl⟩ hX hK hw [] (by decide) rfl rfl hl.1 rfl rfl dX9_be_150) hw hA [] (by decide) rfl rfl (fun H locs hw => ?_)
      refine lv_goto (tgt := 158) hx hb dX9_be_153 (by decide) ?_
      exact bk_158_5 rec_76_0 hrec_76_0 v1 v3 v4 v5 s0 v8 z11 o_me _ _ _ h hw (lv_sub hl [1, 2, 3, 4, 5, 0, 7] rfl)
  have bk_127_3 : ∀ (rec_76_0 : Int32 × Int32 × Int32 × Int32 × Int32 × Int32 × Int32 × Ob → Option (Int32 × Ob)) (hrec_76_0 : ∀ (v1 : Int32) (v3 : Int32) (v4 : Int32) (v5 : Int32) (v6 : Int32) (v7 : Int32) (v8 : Int32) (o_me : Ob) (H : Heap) (locs : List Loc) (ls : Array Slot), rec_76_0 (v1, v3, v4, v5, v6, v7, v8, o_me) = some y → Wd dC dI A s.heap [wX9 h_me q_me k_me o_me] H locs → lv_has ls 10 [(0, .ref h_me), (1, .int v1), (3, .int v3), (4, .int v4), (5, .int v5), (6, .int v6), (7, .int v7), (8, .int v8)] → W p l e ({ frames := 7, cells := 0, slots := 0, locals := 167 } : Room) s m ([.ref h_me, .int p0, .int p1, .int p2, .int p3] : List Value).toArray below meth c H locs 0 0 Qz (F0 m 76 ls [])), ∀ (v1 : Int32) (v3 : Int32) (v4 : Int32) (v5 : Int32) (v6 : Int32) (v7 : Int32) (v8 : Int32) (s0 : Int32) (o_me : Ob) (H : Heap) (locs : List Loc) (ls : Array Slot), bk_X9_be_127  rec_76_0 v1 v3 v4 v5 v6 v7 v8 s0 o_me = some y → Wd dC dI A s.heap [wX9 h_me q_me k_me o_me] H locs → lv_has ls 10 [(0, .ref h_me), (1, .int v1), (3, .int v3), (4, .int v4), (5, .int v5), (6, .int v6), (7, .int v7), (8, .int v8)] → W p l e ({ frames := 7, cells := 0, slots := 0, locals := 167 } : Room) s m ([.ref h_me, .int p0, .int p1, .int p2, .int p3] : List Value).toArray below meth c H locs 0 0 Qz (F0 m 127 ls [.int s0]) := by
    intro rec_76_0 hrec_76_0
    intro v1 v3 v4 v5 v6 v7 v8 s0 o_me H locs ls h hw hl
    unfold bk_X9_be_127 at h
    refine lv_istore (lv' := [(9, .int s0), (0, .ref h_me), (1, .int v1), (3, .int v3), (4, .int v4), (5, .int v5), (6, .int v6), (7, .int v7), (8, .int v8)]) hx hb dX9_be_127 hl (by decide) rfl (fun ls hl => ?_)
    refine lv_iload hx hb dX9_be_129 (lv_at hl 0 rfl) ?_
    refine lv_if_eq (tgt := 139) hx hb dX9_be_131 (by decide) (fun c => ?_) (fun c => ?_)
    · have h := z_t h c
      refine lv_iload hx hb dX9_be_139 (lv_at hl 7 rfl) ?_
      exact bk_141_4 rec_76_0 hrec_76_0 v1 v3 v4 v5 v6 v8 s0 v7 o_me _ _ _ h hw (lv_sub hl [1, 2, 3, 4, 5, 6, 8, 0] rfl)
    · have h := z_f h c
      refine lv_iload hx hb dX9_be_134 (lv_at hl 8 rfl) ?_
      refine lv_goto (tgt := 141) hx hb dX9_be_136 (by decide) ?_
      exact bk_141_4 rec_76_0 hrec_76_0 v1 v3 v4 v5 v6 v8 s0 v8 o_me _ _ _ h hw (lv_sub hl [1, 2, 3, 4, 5, 6, 8, 0] rfl)
  have bk_126_2 : ∀ (rec_76_0 : Int32 × Int32 × Int32 × Int32 × Int32 × Int32 × Int32 × Ob → Option (Int32 × Ob)) (hrec_76_0 : ∀ (v1 : Int32) (v3 : Int32) (v4 : Int32) (v5 : Int32) (v6 : Int32) (v7 : Int32) (v8 : Int32) (o_me : Ob) (H : Heap) (locs : List Loc) (ls : Array Slot), rec_76_0 (v1, v3, v4, v5, v6, v7, v8, o_me) = some y → Wd dC dI A s.heap [wX9 h_me q_me k_me o_me] H locs → lv_has ls 10 [(0, .ref h_me), (1, .int v1), (3, .int v3), (4, .int v4), (5, .int v5), (6, .int v6), (7, .int v7), (8, .int v8)] → W p l e ({ frames := 7, cells := 0, slots := 0, locals := 167 } : Room) s m ([.ref h_me, .int p0, .int p1, .int p2, .int p3] : List Value).toArray below meth c H locs 0 0 Qz (F0 m 76 ls [])), ∀ (v1 : Int32) (v3 : Int32) (v4 : Int32) (v5 : Int32) (v6 : Int32) (v7 : Int32) (v8 : Int32) (o_me : Ob) (H : Heap) (locs : List Loc) (ls : Array Slot), bk_X9_be_126  rec_76_0 v1 v3 v4 v5 v6 v7 v8 o_me = some y → Wd dC dI A s.heap [wX9 h_me q_me k_me o_me] H locs → lv_has ls 10 [(0, .ref h_me), (1, .int v1), (3, .int v3), (4, .int v4), (5, .int v5), (6, .int v6), (7, .int v7), (8, .int v8)] → W p l e ({ frames := 7, cells := 0, slots := 0, locals := 167 } : Room) s m ([.ref h_me, .int p0, .int p1, .int p2, .int p3] : List Value).toArray below meth c H locs 0 0 Qz (F0 m 126 ls []) := by
    intro rec_76_0 hrec_76_0
    intro v1 v3 v4 v5 v6 v7 v8 o_me H locs ls h hw hl
    unfold bk_X9_be_126 at h
    refine lv_iconst (v := 0) hx hb dX9_be_126 (by decide) ?_
    exact bk_127_3 rec_76_0 hrec_76_0 v1 v3 v4 v5 v6 v7 v8 (0 : Int32) o_me _ _ _ h hw (lv_sub hl [0, 1, 2, 3, 4, 5, 6, 7] rfl)
  have lp_76_0 : ∀ (N : Nat), ∀ (v1 : Int32) (v3 : Int32) (v4 : Int32) (v5 : Int32) (v6 : Int32) (v7 : Int32) (v8 : Int32) (o_me : Ob) (H : Heap) (locs : List Loc) (ls : Array Slot), lp_X9_be_76   N (v1, v3, v4, v5, v6, v7, v8, o_me) = some y → Wd dC dI A s.heap [wX9 h_me q_me k_me o_me] H locs → lv_has ls 10 [(0, .ref h_me), (1, .int v1), (3, .int v3), (4, .int v4), (5, .int v5), (6, .int v6), (7, .int v7), (8, .int v8)] → W p l e ({ frames := 7, cells := 0, slots := 0, locals := 167 } : Room) s m ([.ref h_me, .int p0, .int p1, .int p2, .int p3] : List Value).toArray below meth c H locs 0 0 Qz (F0 m 76 ls []) := by
    intro N
    induction N with
    | zero =>
      intro v1 v3 v4 v5 v6 v7 v8 o_me H locs ls h hw hl
      exact absurd (show (none : Option (Int32 × Ob)) = some y from h) (by simp)
    | succ N ih =>
      intro v1 v3 v4 v5 v6 v7 v8 o_me H locs ls h hw hl
      have h : lb_X9_be_76   (lp_X9_be_76   N) v1 v3 v4 v5 v6 v7 v8 o_me = some y := h
      unfold lb_X9_be_76 at h
      refine lv_iload hx hb dX9_be_76 (lv_at hl 7 rfl) ?_
      refine lv_iconst (v := 1) hx hb dX9_be_78 (by decide) ?_
      refine lv_aload_n hx hb dX9_be_79 rfl (lv_at hl 0 rfl) ?_
      refine fgX9_3 hx hb hts hown hK hw 0 rfl kw1179 dX9_be_80 ?_
      refine lv_iconst (v := 0) hx hb dX9_be_83 (by decide) ?_
      refine faX9_3 hx hb hK hw 0 rfl rfl (by decide) dX9_be_84 ?_
      refine lv_ishl hx hb dX9_be_85 ?_
      refine lv_icmp_ge (tgt := 166) hx hb dX9_be_86 (by decide) (fun c => ?_) (fun c => ?_)
      · have h := z_t h c
        refine lv_iload hx hb dX9_be_166 (lv_at hl 6 rfl) ?_
        refine lv_iconst (v := (-1)) hx hb dX9_be_168 (by decide) ?_
        refine lv_icmp_eq (tgt := 178) hx hb dX9_be_169 (by decide) (fun c => ?_) (fun c => ?_)
        · have h := z_t h c
          exact bk_178_1  v7 o_me _ _ _ h hw (lv_sub hl [6] rfl)
        · have h := z_f h c
          refine lv_iload hx hb dX9_be_172 (lv_at hl 3 rfl) ?_
          refine lv_iconst (v := 1) hx hb dX9_be_174 (by decide) ?_
          refine lv_icmp_ne (tgt := 183) hx hb dX9_be_175 (by decide) (fun c => ?_) (fun c => ?_)
          · have h := z_f h c
            refine lv_iload hx hb dX9_be_183 (lv_at hl 5 rfl) ?_
            have hy := Option.some.inj h
            rw [← hQz, ← hy]
            exact xr_i (v := v6) hx hb hr rfl hlk hK hw dX9_be_185
          · have h := z_t h c
            exact bk_178_1  v7 o_me _ _ _ h hw (lv_sub hl [6] rfl)
      · have h := z_f h c
        refine lv_iload hx hb dX9_be_89 (lv_at hl 7 rfl) ?_
        refine lv_iload_n hx hb dX9_be_91 rfl (lv_at hl 1 rfl) ?_
        obtain ⟨z9, ez9, h⟩ := z_bd h
        refine xj_i (xrS (As := [.int v8, .int v1]) (rest := []) ⟨hx, hb, hml, hown, hts⟩ (m_X9_is l dC dI _  v8 v1 z9 ez9) kw1704 kw1702 kw1703 kw120 hd_X9_is ⟨rfl, rfl⟩ rfl rfl ⟨rfl, rfl⟩ hX hK hw [] (by decide) rfl rfl hl.1 rfl rfl dX9_be_92) hw hA [] (by decide) rfl rfl (fun H locs hw => ?_)
        refine lv_if_ne (tgt := 126) hx hb dX9_be_95 (by decide) (fun c => ?_) (fun c => ?_)
        · have h := z_f h c
          exact bk_126_2 (lp_X9_be_76   N) ih v1 v3 v4 v5 v6 v7 v8 o_me _ _ _ h hw (lv_sub hl [0, 1, 2, 3, 4, 5, 6, 7] rfl)
        · have h := z_t h c
          refine lv_iload hx hb dX9_be_98 (lv_at hl 7 rfl) ?_
          obtain ⟨z12, ez12, h⟩ := z_bd h
          refine xj_i (xrS (As := [.int v8]) (rest := []) ⟨hx, hb, hml, hown, hts⟩ (m_X9_ones l dC dI _  v8 z12 ez12) kw1707 kw1705 kw1706 kw120 hd_X9_ones ⟨rfl, rfl⟩ rfl rfl ⟨rfl, rfl⟩ hX hK hw [] (by decide) rfl rfl hl.1 rfl rfl dX9_be_100) hw hA [] (by decide) rfl rfl (fun H locs hw => ?_)
          refine lv_iload hx hb dX9_be_103 (lv_at hl 5 rfl) ?_
          refine lv_icmp_ge (tgt := 126) hx hb dX9_be_105 (by decide) (fun c => ?_) (fun c => ?_)
          · have h := z_t h c
            exact bk_126_2 (lp_X9_be_76   N) ih v1 v3 v4 v5 v6 v7 v8 o_me _ _ _ h hw (lv_sub hl [0, 1, 2, 3, 4, 5, 6, 7] rfl)
          · have h := z_f h c
            refine lv_aload_n hx hb dX9_be_108 rfl (lv_at hl 0 rfl) ?_
            refine lv_iload_n hx hb dX9_be_109 rfl (lv_at hl 1 rfl) ?_
            refine lv_iload hx hb dX9_be_110 (lv_at hl 4 rfl) ?_
            refine lv_iload hx hb dX9_be_112 (lv_at hl 7 rfl) ?_
            refine lv_ixor hx hb dX9_be_114 ?_
            obtain ⟨z13, ez13, h⟩ := z_bd h
            refine xj_i (xrV (As := [.int v1, .int (v5 ^^^ v8)]) (rest := []) ⟨hx, hb, hml, hown, hts⟩ (m_X9_placeOf l dC dI _ h_me q_me k_me o_me v1 (v5 ^^^ v8) z13 ez13) kw1711 kw1708 kw1710 kw91 kw120 hd_X9_placeOf ⟨rfl, rfl⟩ rfl rfl ⟨rfl, rfl⟩ hX hK hw [0] (by decide) rfl rfl rfl rfl rfl hl.1 rfl rfl dX9_be_115) hw hA [0] (by decide) rfl rfl (fun H locs hw => ?_)
            have hw : Wd dC dI A s.heap [wX9 h_me q_me k_me o_me] H locs := hw
            refine lv_iload_n hx hb dX9_be_118 rfl (lv_at hl 2 rfl) ?_
            refine lv_icmp_ne (tgt := 126) hx hb dX9_be_119 (by decide) (fun c => ?_) (fun c => ?_)
            · have h := z_f h c
              exact bk_126_2 (lp_X9_be_76   N) ih v1 v3 v4 v5 v6 v7 v8 o_me _ _ _ h hw (lv_sub hl [0, 1, 2, 3, 4, 5, 6, 7] rfl)
            · have h := z_t h c
              refine lv_iconst (v := 1) hx hb dX9_be_122 (by decide) ?_
              refine lv_goto (tgt := 127) hx hb dX9_be_123 (by decide) ?_
              exact bk_127_3 (lp_X9_be_76   N) ih v1 v3 v4 v5 v6 v7 v8 (1 : Int32) o_me _ _ _ h hw (lv_sub hl [0, 1, 2, 3, 4, 5, 6, 7] rfl)
  unfold f_X9_be at h
  refine lv_aload_n hx hb dX9_be_0 rfl (lv_at hl 0 rfl) ?_
  refine lv_iconst (v := 0) hx hb dX9_be_1 (by decide) ?_
  refine fpX9_0 hx hb hts hown hK hw 0 rfl kw1176 dX9_be_2 (fun H locs hw => ?_)
  obtain ⟨o1, eo1, h⟩ := z_lt h
  have hw : Wd dC dI A s.heap [wX9 h_me q_me k_me o1] H locs := by rw [eo1]; exact hw
  refine lv_aload_n hx hb dX9_be_5 rfl (lv_at hl 0 rfl) ?_
  refine lv_iload_n hx hb dX9_be_6 rfl (lv_at hl 1 rfl) ?_
  obtain ⟨z2, ez2, h⟩ := z_bd h
  refine xj_i (xrV (As := [.int p0]) (rest := []) ⟨hx, hb, hml, hown, hts⟩ (m_X9_isPerson l dC dI _ h_me q_me k_me o1 p0 z2 ez2) kw1402 kw1399 kw1401 kw42 kw120 hd_X9_isPerson ⟨rfl, rfl⟩ rfl rfl ⟨rfl, rfl⟩ hX hK hw [0] (by decide) rfl rfl rfl rfl rfl hl.1 rfl rfl dX9_be_7) hw hA [0] (by decide) rfl rfl (fun H locs hw => ?_)
  have hw : Wd dC dI A s.heap [wX9 h_me q_me k_me o1] H locs := hw
  refine lv_if_eq (tgt := 52) hx hb dX9_be_10 (by decide) (fun c => ?_) (fun c => ?_)
  · have h := z_t h c
    refine lv_iconst (v := (-1)) hx hb dX9_be_52 (by decide) ?_
    have hy := Option.some.inj h
    rw [← hQz, ← hy]
    exact xr_i (v := (-1 : Int32)) hx hb hr rfl hlk hK hw dX9_be_53
  · have h := z_f h c
    refine lv_iload_n hx hb dX9_be_13 rfl (lv_at hl 2 rfl) ?_
    obtain ⟨z3, ez3, h⟩ := z_bd h
    refine xj_i (xrS (As := [.int p1]) (rest := []) ⟨hx, hb, hml, hown, hts⟩ (m_X9_isRace l dC dI _  p1 z3 ez3) kw1444 kw1442 kw1443 kw120 hd_X9_isRace ⟨rfl, rfl⟩ rfl rfl ⟨rfl, rfl⟩ hX hK hw [] (by decide) rfl rfl hl.1 rfl rfl dX9_be_14) hw hA [] (by decide) rfl rfl (fun H locs hw => ?_)
    refine lv_if_eq (tgt := 52) hx hb dX9_be_17 (by decide) (fun c => ?_) (fun c => ?_)
    · have h := z_t h c
      refine lv_iconst (v := (-1)) hx hb dX9_be_52 (by decide) ?_
      have hy := Option.some.inj h
      rw [← hQz, ← hy]
      exact xr_i (v := (-1 : Int32)) hx hb hr rfl hlk hK hw dX9_be_53
    · have h := z_f h c
      refine lv_iload_n hx hb dX9_be_20 rfl (lv_at hl 3 rfl) ?_
      refine lv_i2l hx hb dX9_be_21 rfl ?_
      refine lv_lconst (v := 1) hx hb dX9_be_22 (by decide) ?_
      refine lv_ldc2 (v := 7) hx hb hown (hts _ kw1458) dX9_be_23 ?_
      obtain ⟨z4, ez4, h⟩ := z_bd h
      refine xj_i (xrS (As := [.long p2.toInt64, .long (1 : Int64), .long (7 : Int64)]) (rest := []) ⟨hx, hb, hml, hown, hts⟩ (m_X9_in l dC dI _  p2.toInt64 (1 : Int64) (7 : Int64) z4 ez4) kw1385 kw1383 kw1384 kw120 hd_X9_in ⟨rfl, rfl⟩ rfl rfl ⟨rfl, rfl⟩ hX hK hw [] (by decide) rfl rfl hl.1 rfl rfl dX9_be_26) hw hA [] (by decide) rfl rfl (fun H locs hw => ?_)
      refine lv_if_eq (tgt := 52) hx hb dX9_be_29 (by decide) (fun c => ?_) (fun c => ?_)
      · have h := z_t h c
        refine lv_iconst (v := (-1)) hx hb dX9_be_52 (by decide) ?_
        have hy := Option.some.inj h
        rw [← hQz, ← hy]
        exact xr_i (v := (-1 : Int32)) hx hb hr rfl hlk hK hw dX9_be_53
      · have h := z_f h c
        refine lv_iload hx hb dX9_be_32 (lv_at hl 4 rfl) ?_
        refine lv_i2l hx hb dX9_be_34 rfl ?_
        refine lv_lconst (v := 0) hx hb dX9_be_35 (by decide) ?_
        refine lv_lconst (v := 1) hx hb dX9_be_36 (by decide) ?_
        obtain ⟨z5, ez5, h⟩ := z_bd h
        refine xj_i (xrS (As := [.long p3.toInt64, .long (0 : Int64), .long (1 : Int64)]) (rest := []) ⟨hx, hb, hml, hown, hts⟩ (m_X9_in l dC dI _  p3.toInt64 (0 : Int64) (1 : Int64) z5 ez5) kw1385 kw1383 kw1384 kw120 hd_X9_in ⟨rfl, rfl⟩ rfl rfl ⟨rfl, rfl⟩ hX hK hw [] (by decide) rfl rfl hl.1 rfl rfl dX9_be_37) hw hA [] (by decide) rfl rfl (fun H locs hw => ?_)
        refine lv_if_eq (tgt := 52) hx hb dX9_be_40 (by decide) (fun c => ?_) (fun c => ?_)
        · have h := z_t h c
          refine lv_iconst (v := (-1)) hx hb dX9_be_52 (by decide) ?_
          have hy := Option.some.inj h
          rw [← hQz, ← hy]
          exact xr_i (v := (-1 : Int32)) hx hb hr rfl hlk hK hw dX9_be_53
        · have h := z_f h c
          refine lv_aload_n hx hb dX9_be_43 rfl (lv_at hl 0 rfl) ?_
          refine lv_iload_n hx hb dX9_be_44 rfl (lv_at hl 1 rfl) ?_
          refine lv_iload_n hx hb dX9_be_45 rfl (lv_at hl 2 rfl) ?_
          obtain ⟨z6, ez6, h⟩ := z_bd h
          refine xj_i (xrV (As := [.int p0, .int p1]) (rest := []) ⟨hx, hb, hml, hown, hts⟩ (m_X9_isBarred l dC dI _ h_me q_me k_me o1 p0 p1 z6 ez6) kw1437 kw1434 kw1436 kw48 kw120 hd_X9_isBarred ⟨rfl, rfl⟩ rfl rfl ⟨rfl, rfl⟩ hX hK hw [0] (by decide) rfl rfl rfl rfl rfl hl.1 rfl rfl dX9_be_46) hw hA [0] (by decide) rfl rfl (fun H locs hw => ?_)
          have hw : Wd dC dI A s.heap [wX9 h_me q_me k_me z6.2] H locs := hw
          refine lv_if_eq (tgt := 54) hx hb dX9_be_49 (by decide) (fun c => ?_) (fun c => ?_)
          · have h := z_t h c
            refine lv_aload_n hx hb dX9_be_54 rfl (lv_at hl 0 rfl) ?_
            refine lv_iload_n hx hb dX9_be_55 rfl (lv_at hl 2 rfl) ?_
            obtain ⟨z7, ez7, h⟩ := z_bd h
            refine xj_v (xrV (As := [.int p1]) (rest := []) ⟨hx, hb, hml, hown, hts⟩ (m_X9_layRuns l dC dI _ h_me q_me k_me z6.2 p1 z7 ez7) kw1696 kw1693 kw1695 kw89 kw120 hd_X9_layRuns ⟨rfl, rfl⟩ rfl rfl ⟨rfl, rfl⟩ hX hK hw [0] (by decide) rfl rfl rfl rfl rfl hl.1 rfl rfl dX9_be_56) hw hA [0] (by decide) rfl rfl (fun H locs hw => ?_)
            have hw : Wd dC dI A s.heap [wX9 h_me q_me k_me z7] H locs := hw
            refine lv_aload_n hx hb dX9_be_59 rfl (lv_at hl 0 rfl) ?_
            obtain ⟨z8, ez8, h⟩ := z_bd h
            refine xj_i (xrV (As := []) (rest := []) ⟨hx, hb, hml, hown, hts⟩ (m_X9_enteredBits l dC dI _ h_me q_me k_me z7 z8 ez8) kw1700 kw1697 kw1699 kw90 kw120 hd_X9_enteredBits ⟨rfl, rfl⟩ rfl rfl ⟨rfl, rfl⟩ hX hK hw [0] (by decide) rfl rfl rfl rfl rfl hl.1 rfl rfl dX9_be_60) hw hA [0] (by decide) rfl rfl (fun H locs hw => ?_)
            have hw : Wd dC dI A s.heap [wX9 h_me q_me k_me z7] H locs := hw
            refine lv_istore (lv' := [(5, .int z8), (0, .ref h_me), (1, .int p0), (2, .int p1), (3, .int p2), (4, .int p3)]) hx hb dX9_be_63 hl (by decide) rfl (fun ls hl => ?_)
            refine lv_ldcw (v := 100000000) hx hb hown (hts _ kw1701) dX9_be_65 ?_
            refine lv_istore (lv' := [(6, .int (100000000 : Int32)), (5, .int z8), (0, .ref h_me), (1, .int p0), (2, .int p1), (3, .int p2), (4, .int p3)]) hx hb dX9_be_68 hl (by decide) rfl (fun ls hl => ?_)
            refine lv_iconst (v := (-1)) hx hb dX9_be_70 (by decide) ?_
            refine lv_istore (lv' := [(7, .int (-1 : Int32)), (6, .int (100000000 : Int32)), (5, .int z8), (0, .ref h_me), (1, .int p0), (2, .int p1), (3, .int p2), (4, .int p3)]) hx hb dX9_be_71 hl (by decide) rfl (fun ls hl => ?_)
            refine lv_iconst (v := 0) hx hb dX9_be_73 (by decide) ?_
            refine lv_istore (lv' := [(8, .int (0 : Int32)), (7, .int (-1 : Int32)), (6, .int (100000000 : Int32)), (5, .int z8), (0, .ref h_me), (1, .int p0), (2, .int p1), (3, .int p2), (4, .int p3)]) hx hb dX9_be_74 hl (by decide) rfl (fun ls hl => ?_)
            exact lp_76_0  zfu p0 p2 p3 z8 (100000000 : Int32) (-1 : Int32) (0 : Int32) z7 _ _ _ h hw (lv_sub hl [4, 5, 7, 8, 3, 2, 1, 0] rfl)
          · have h := z_f h c
            refine lv_iconst (v := (-1)) hx hb dX9_be_52 (by decide) ?_
            have hy := Option.some.inj h
            rw [← hQz, ← hy]
            exact xr_i (v := (-1 : Int32)) hx hb hr rfl hlk hK hw dX9_be_53

def bk_X9_beats_20   (o_me : Ob) : Option (Int32 × Ob) :=
  (f_X9_tell o_me (-1 : Int32)).bind fun z2 =>
  some (z2.1, z2.2)
def bk_X9_beats_42   (o_me : Ob) : Option (Int32 × Ob) :=
  (f_X9_tell o_me (-2 : Int32)).bind fun z5 =>
  some (z5.1, z5.2)
def bk_X9_beats_87   (v4 : Int32) (s0 : Int32) (s1 : Int32) (s2 : Int32) (o_me : Ob) : Option (Int32 × Ob) :=
  zgd (zin s2 5484) <|
  zlt (tA o_me 3 s2.toNatClampNeg (s1 ^^^ s0)) fun o12 =>
  (f_X9_tell o12 v4).bind fun z13 =>
  some (z13.1, z13.2)
def f_X9_beats (o_me : Ob) (p0 : Int32) (p1 : Int32) (p2 : Int32) : Option (Int32 × Ob) :=
  zlt (sI o_me 0 (0 : Int32)) fun o1 =>
  if p0 = p1 then
  (bk_X9_beats_20   o1)
  else
  ((f_X9_in p2.toInt64 (0 : Int64) (1 : Int64)).bind fun z3 =>
  if z3 = (0 : Int32) then
  (bk_X9_beats_20   o1)
  else
  ((f_X9_isPerson o1 p0).bind fun z4 =>
  if z4 = (0 : Int32) then
  (bk_X9_beats_42   o1)
  else
  ((f_X9_isPerson o1 p1).bind fun z6 =>
  if z6 = (0 : Int32) then
  (bk_X9_beats_42   o1)
  else
  (zgd (zin ((64 : Int32) + p0) 5484) <|
  zlt (((gA o1 3 ((64 : Int32) + p0).toNatClampNeg) >>> (p1 &&& 31)) &&& (1 : Int32)) fun x8 =>
  zlt ((64 : Int32) + p0) fun x9 =>
  zgd (zin x9 5484) <|
  if x8 = p2 then
  (bk_X9_beats_87   x8 (0 : Int32) (gA o1 3 x9.toNatClampNeg) x9 o1)
  else
  (bk_X9_beats_87   x8 ((1 : Int32) <<< (p1 &&& 31)) (gA o1 3 x9.toNatClampNeg) x9 o1)))))
set_option maxHeartbeats 4000000 in
set_option maxRecDepth 100000 in
theorem m_X9_beats (l : Launch) (dC : Nat → ClassId) (dI : Nat → Nat → Nat) (sz : Nat) (h_me : Nat) (q_me : Nat → Nat) (k_me : Nat → ClassId) (o_me : Ob) (p0 : Int32) (p1 : Int32) (p2 : Int32) (y : Int32 × Ob) (h : f_X9_beats o_me p0 p1 p2 = some y) : CI l yX9_beats cX9_beats 5 (some .int) ({ frames := 2, cells := 0, slots := 0, locals := 46 } : Room) dC dI sz [.ref h_me, .int p0, .int p1, .int p2] [wX9 h_me q_me k_me o_me] [tX9 k_me] y.1 [wX9 h_me q_me k_me y.2] := by
  refine CC_of (by decide) (Nat.le_of_ble_eq_true rfl) ?_
  intro p e s m below meth c A ls hx hb hml hr hlk hnm hown hts hX hK hP hD hA hl
  have hl : lv_has ls 5 [(0, .ref h_me), (1, .int p0), (2, .int p1), (3, .int p2)] := hl
  have hown : s.vm.findClass RX9 = some m.cls := hown
  have hw : Wd dC dI A s.heap [wX9 h_me q_me k_me o_me] s.heap [] := ⟨hP, hD, va_S.rf⟩
  generalize hQz : (MQ below (QI dC dI (fun r (_ : Unit) => r = y.1) (fun _ => Jn [wX9 h_me q_me k_me y.2]) (fun _ => Jt [tX9 k_me]) A) ([.ref h_me, .int p0, .int p1, .int p2] : List Value).toArray s 0 0 A) = Qz
  clear hP hD hnm
  have bk_20_0 : ∀ (o_me : Ob) (H : Heap) (locs : List Loc) (ls : Array Slot), bk_X9_beats_20   o_me = some y → Wd dC dI A s.heap [wX9 h_me q_me k_me o_me] H locs → lv_has ls 5 [(0, .ref h_me)] → W p l e ({ frames := 2, cells := 0, slots := 0, locals := 46 } : Room) s m ([.ref h_me, .int p0, .int p1, .int p2] : List Value).toArray below meth c H locs 0 0 Qz (F0 m 20 ls []) := by
    intro o_me H locs ls h hw hl
    unfold bk_X9_beats_20 at h
    refine lv_aload_n hx hb dX9_beats_20 rfl (lv_at hl 0 rfl) ?_
    refine lv_iconst (v := (-1)) hx hb dX9_beats_21 (by decide) ?_
    obtain ⟨z2, ez2, h⟩ := z_bd h
    refine xj_i (xrV (As := [.int (-1 : Int32)]) (rest := []) ⟨hx, hb, hml, hown, hts⟩ (m_X9_tell l dC dI _ h_me q_me k_me o_me (-1 : Int32) z2 ez2) kw1374 kw1371 kw1373 kw39 kw120 hd_X9_tell ⟨rfl, rfl⟩ rfl rfl ⟨rfl, rfl⟩ hX hK hw [0] (by decide) rfl rfl rfl rfl rfl hl.1 rfl rfl dX9_beats_22) hw hA [0] (by decide) rfl rfl (fun H locs hw => ?_)
    have hw : Wd dC dI A s.heap [wX9 h_me q_me k_me z2.2] H locs := hw
    have hy := Option.some.inj h
    rw [← hQz, ← hy]
    exact xr_i (v := z2.1) hx hb hr rfl hlk hK hw dX9_beats_25
  have bk_42_1 : ∀ (o_me : Ob) (H : Heap) (locs : List Loc) (ls : Array Slot), bk_X9_beats_42   o_me = some y → Wd dC dI A s.heap [wX9 h_me q_me k_me o_me] H locs → lv_has ls 5 [(0, .ref h_me)] → W p l e ({ frames := 2, cells := 0, slots := 0, locals := 46 } : Room) s m ([.ref h_me, .int p0, .int p1, .int p2] : List Value).toArray below meth c H locs 0 0 Qz (F0 m 42 ls []) := by
    intro o_me H locs ls h hw hl
    unfold bk_X9_beats_42 at h
    refine lv_aload_n hx hb dX9_beats_42 rfl (lv_at hl 0 rfl) ?_
    refine lv_bipush (v := (-2)) hx hb dX9_beats_43 (by decide) ?_
    obtain ⟨z5, ez5, h⟩ := z_bd h
    refine xj_i (xrV (As := [.int (-2 : Int32)]) (rest := []) ⟨hx, hb, hml, hown, hts⟩ (m_X9_tell l dC dI _ h_me q_me k_me o_me (-2 : Int32) z5 ez5) kw1374 kw1371 kw1373 kw39 kw120 hd_X9_tell ⟨rfl, rfl⟩ rfl rfl ⟨rfl, rfl⟩ hX hK hw [0] (by decide) rfl rfl rfl rfl rfl hl.1 rfl rfl dX9_beats_45) hw hA [0] (by decide) rfl rfl (fun H locs hw => ?_)
    have hw : Wd dC dI A s.heap [wX9 h_me q_me k_me z5.2] H locs := hw
    have hy := Option.some.inj h
    rw [← hQz, ← hy]
    exact xr_i (v := z5.1) hx hb hr rfl hlk hK hw dX9_beats_48
  have bk_87_2 : ∀ (v4 : Int32) (s0 : Int32) (s1 : Int32) (s2 : Int32) (o_me : Ob) (H : Heap) (locs : List Loc) (ls : Array Slot), bk_X9_beats_87   v4 s0 s1 s2 o_me = some y → Wd dC dI A s.heap [wX9 h_me q_me k_me o_me] H locs → lv_has ls 5 [(0, .ref h_me), (4, .int v4)] → W p l e ({ frames := 2, cells := 0, slots := 0, locals := 46 } : Room) s m ([.ref h_me, .int p0, .int p1, .int p2] : List Value).toArray below meth c H locs 0 0 Qz (F0 m 87 ls [.int s0, .int s1, .int s2, .ref (q_me 3)]) := by
    intro v4 s0 s1 s2 o_me H locs ls h hw hl
    unfold bk_X9_beats_87 at h
    refine lv_ixor hx hb dX9_beats_87 ?_
    obtain ⟨g11, h⟩ := z_gd h
    refine fbX9_3 hx hb hK hw 0 rfl rfl g11 dX9_beats_88 (fun H locs hw => ?_)
    obtain ⟨o12, eo12, h⟩ := z_lt h
    have hw : Wd dC dI A s.heap [wX9 h_me q_me k_me o12] H locs := by rw [eo12]; exact hw
    refine lv_aload_n hx hb dX9_beats_89 rfl (lv_at hl 0 rfl) ?_
    refine lv_iload hx hb dX9_beats_90 (lv_at hl 1 rfl) ?_
    obtain ⟨z13, ez13, h⟩ := z_bd h
    refine xj_i (xrV (As := [.int v4]) (rest := []) ⟨hx, hb, hml, hown, hts⟩ (m_X9_tell l dC dI _ h_me q_me k_me o12 v4 z13 ez13) kw1374 kw1371 kw1373 kw39 kw120 hd_X9_tell ⟨rfl, rfl⟩ rfl rfl ⟨rfl, rfl⟩ hX hK hw [0] (by decide) rfl rfl rfl rfl rfl hl.1 rfl rfl dX9_beats_92) hw hA [0] (by decide) rfl rfl (fun H locs hw => ?_)
    have hw : Wd dC dI A s.heap [wX9 h_me q_me k_me z13.2] H locs := hw
    have hy := Option.some.inj h
    rw [← hQz, ← hy]
    exact xr_i (v := z13.1) hx hb hr rfl hlk hK hw dX9_beats_95
  unfold f_X9_beats at h
  refine lv_aload_n hx hb dX9_beats_0 rfl (lv_at hl 0 rfl) ?_
  refine lv_iconst (v := 0) hx hb dX9_beats_1 (by decide) ?_
  refine fpX9_0 hx hb hts hown hK hw 0 rfl kw1176 dX9_beats_2 (fun H locs hw => ?_)
  obtain ⟨o1, eo1, h⟩ := z_lt h
  have hw : Wd dC dI A s.heap [wX9 h_me q_me k_me o1] H locs := by rw [eo1]; exact hw
  refine lv_iload_n hx hb dX9_beats_5 rfl (lv_at hl 1 rfl) ?_
  refine lv_iload_n hx hb dX9_beats_6 rfl (lv_at hl 2 rfl) ?_
  refine lv_icmp_eq (tgt := 20) hx hb dX9_beats_7 (by decide) (fun c => ?_) (fun c => ?_)
  · have h := z_t h c
    exact bk_20_0  o1 _ _ _ h hw (lv_sub hl [0] rfl)
  · have h := z_f h c
    refine lv_iload_n hx hb dX9_beats_10 rfl (lv_at hl 3 rfl) ?_
    refine lv_i2l hx hb dX9_beats_11 rfl ?_
    refine lv_lconst (v := 0) hx hb dX9_beats_12 (by decide) ?_
    refine lv_lconst (v := 1) hx hb dX9_beats_13 (by decide) ?_
    obtain ⟨z3, ez3, h⟩ := z_bd h
    refine xj_i (xrS (As := [.long p2.toInt64, .long (0 : Int64), .long (1 : Int64)]) (rest := []) ⟨hx, hb, hml, hown, hts⟩ (m_X9_in l dC dI _  p2.toInt64 (0 : Int64) (1 : Int64) z3 ez3) kw1385 kw1383 kw1384 kw120 hd_X9_in ⟨rfl, rfl⟩ rfl rfl ⟨rfl, rfl⟩ hX hK hw [] (by decide) rfl rfl hl.1 rfl rfl dX9_beats_14) hw hA [] (by decide) rfl rfl (fun H locs hw => ?_)
    refine lv_if_ne (tgt := 26) hx hb dX9_beats_17 (by decide) (fun c => ?_) (fun c => ?_)
    · have h := z_f h c
      refine lv_aload_n hx hb dX9_beats_26 rfl (lv_at hl 0 rfl) ?_
      refine lv_iload_n hx hb dX9_beats_27 rfl (lv_at hl 1 rfl) ?_
      obtain ⟨z4, ez4, h⟩ := z_bd h
      refine xj_i (xrV (As := [.int p0]) (rest := []) ⟨hx, hb, hml, hown, hts⟩ (m_X9_isPerson l dC dI _ h_me q_me k_me o1 p0 z4 ez4) kw1402 kw1399 kw1401 kw42 kw120 hd_X9_isPerson ⟨rfl, rfl⟩ rfl rfl ⟨rfl, rfl⟩ hX hK hw [0] (by decide) rfl rfl rfl rfl rfl hl.1 rfl rfl dX9_beats_28) hw hA [0] (by decide) rfl rfl (fun H locs hw => ?_)
      have hw : Wd dC dI A s.heap [wX9 h_me q_me k_me o1] H locs := hw
      refine lv_if_eq (tgt := 42) hx hb dX9_beats_31 (by decide) (fun c => ?_) (fun c => ?_)
      · have h := z_t h c
        exact bk_42_1  o1 _ _ _ h hw (lv_sub hl [0] rfl)
      · have h := z_f h c
        refine lv_aload_n hx hb dX9_beats_34 rfl (lv_at hl 0 rfl) ?_
        refine lv_iload_n hx hb dX9_beats_35 rfl (lv_at hl 2 rfl) ?_
        obtain ⟨z6, ez6, h⟩ := z_bd h
        refine xj_i (xrV (As := [.int p1]) (rest := []) ⟨hx, hb, hml, hown, hts⟩ (m_X9_isPerson l dC dI _ h_me q_me k_me o1 p1 z6 ez6) kw1402 kw1399 kw1401 kw42 kw120 hd_X9_isPerson ⟨rfl, rfl⟩ rfl rfl ⟨rfl, rfl⟩ hX hK hw [0] (by decide) rfl rfl rfl rfl rfl hl.1 rfl rfl dX9_beats_36) hw hA [0] (by decide) rfl rfl (fun H locs hw => ?_)
        have hw : Wd dC dI A s.heap [wX9 h_me q_me k_me o1] H locs := hw
        refine lv_if_ne (tgt := 49) hx hb dX9_beats_39 (by decide) (fun c => ?_) (fun c => ?_)
        · have h := z_f h c
          refine lv_aload_n hx hb dX9_beats_49 rfl (lv_at hl 0 rfl) ?_
          refine fgX9_3 hx hb hts hown hK hw 0 rfl kw1179 dX9_beats_50 ?_
          refine lv_bipush (v := 64) hx hb dX9_beats_53 (by decide) ?_
          refine lv_iload_n hx hb dX9_beats_55 rfl (lv_at hl 1 rfl) ?_
          refine lv_iadd hx hb dX9_beats_56 ?_
          obtain ⟨g7, h⟩ := z_gd h
          refine faX9_3 hx hb hK hw 0 rfl rfl g7 dX9_beats_57 ?_
          refine lv_iload_n hx hb dX9_beats_58 rfl (lv_at hl 2 rfl) ?_
          refine lv_ishr hx hb dX9_beats_59 ?_
          refine lv_iconst (v := 1) hx hb dX9_beats_60 (by decide) ?_
          refine lv_iand hx hb dX9_beats_61 ?_
          obtain ⟨x8, ex8, h⟩ := z_lt h
          refine lv_fi (v := x8) ex8.symm ?_
          refine lv_istore (lv' := [(4, .int x8), (0, .ref h_me), (1, .int p0), (2, .int p1), (3, .int p2)]) hx hb dX9_beats_62 hl (by decide) rfl (fun ls hl => ?_)
          refine lv_aload_n hx hb dX9_beats_64 rfl (lv_at hl 1 rfl) ?_
          refine fgX9_3 hx hb hts hown hK hw 0 rfl kw1179 dX9_beats_65 ?_
          refine lv_bipush (v := 64) hx hb dX9_beats_68 (by decide) ?_
          refine lv_iload_n hx hb dX9_beats_70 rfl (lv_at hl 2 rfl) ?_
          refine lv_iadd hx hb dX9_beats_71 ?_
          obtain ⟨x9, ex9, h⟩ := z_lt h
          refine lv_fi (v := x9) ex9.symm ?_
          refine lv_dup2_11 hx hb dX9_beats_72 rfl rfl ?_
          obtain ⟨g10, h⟩ := z_gd h
          refine faX9_3 hx hb hK hw 0 rfl rfl g10 dX9_beats_73 ?_
          refine lv_iload hx hb dX9_beats_74 (lv_at hl 0 rfl) ?_
          refine lv_iload_n hx hb dX9_beats_76 rfl (lv_at hl 4 rfl) ?_
          refine lv_icmp_ne (tgt := 84) hx hb dX9_beats_77 (by decide) (fun c => ?_) (fun c => ?_)
          · have h := z_f h c
            refine lv_iconst (v := 1) hx hb dX9_beats_84 (by decide) ?_
            refine lv_iload_n hx hb dX9_beats_85 rfl (lv_at hl 3 rfl) ?_
            refine lv_ishl hx hb dX9_beats_86 ?_
            exact bk_87_2  x8 ((1 : Int32) <<< (p1 &&& 31)) (gA o1 3 x9.toNatClampNeg) x9 o1 _ _ _ h hw (lv_sub hl [1, 0] rfl)
          · have h := z_t h c
            refine lv_iconst (v := 0) hx hb dX9_beats_80 (by decide) ?_
            refine lv_goto (tgt := 87) hx hb dX9_beats_81 (by decide) ?_
            exact bk_87_2  x8 (0 : Int32) (gA o1 3 x9.toNatClampNeg) x9 o1 _ _ _ h hw (lv_sub hl [1, 0] rfl)
        · have h := z_t h c
          exact bk_42_1  o1 _ _ _ h hw (lv_sub hl [0] rfl)
    · have h := z_t h c
      exact bk_20_0  o1 _ _ _ h hw (lv_sub hl [0] rfl)

def f_X9_isSmall (p0 : Int32) : Option (Int32) :=
  if p0 < (97 : Int32) then
  (some (0 : Int32))
  else
  (if (122 : Int32) < p0 then
  (some (0 : Int32))
  else
  (some (1 : Int32)))
set_option maxHeartbeats 4000000 in
set_option maxRecDepth 100000 in
theorem m_X9_isSmall (l : Launch) (dC : Nat → ClassId) (dI : Nat → Nat → Nat) (sz : Nat)  (p0 : Int32) (y : Int32) (h : f_X9_isSmall p0 = some y) : CI l yX9_isSmall cX9_isSmall 1 (some .boolean) ({ frames := 0, cells := 0, slots := 0, locals := 0 } : Room) dC dI sz [.int p0] [] [] y [] := by
  refine CC_of (by decide) (Nat.le_of_ble_eq_true rfl) ?_
  intro p e s m below meth c A ls hx hb hml hr hlk hnm hown hts hX hK hP hD hA hl
  have hl : lv_has ls 1 [(0, .int p0)] := hl
  have hown : s.vm.findClass RX9 = some m.cls := hown
  have hw : Wd dC dI A s.heap [] s.heap [] := ⟨hP, hD, va_S.rf⟩
  generalize hQz : (MQ below (QI dC dI (fun r (_ : Unit) => r = y) (fun _ => Jn []) (fun _ => Jt []) A) ([.int p0] : List Value).toArray s 0 0 A) = Qz
  clear hP hD hnm
  unfold f_X9_isSmall at h
  refine lv_iload_n hx hb dX9_isSmall_0 rfl (lv_at hl 0 rfl) ?_
  refine lv_bipush (v := 97) hx hb dX9_isSmall_1 (by decide) ?_
  refine lv_icmp_lt (tgt := 16) hx hb dX9_isSmall_3 (by decide) (fun c => ?_) (fun c => ?_)
  · have h := z_t h c
    refine lv_iconst (v := 0) hx hb dX9_isSmall_16 (by decide) ?_
    have hy := Option.some.inj h
    rw [← hQz, ← hy]
    exact xr_i (v := (0 : Int32)) hx hb hr rfl hlk hK hw dX9_isSmall_17
  · have h := z_f h c
    refine lv_iload_n hx hb dX9_isSmall_6 rfl (lv_at hl 0 rfl) ?_
    refine lv_bipush (v := 122) hx hb dX9_isSmall_7 (by decide) ?_
    refine lv_icmp_gt (tgt := 16) hx hb dX9_isSmall_9 (by decide) (fun c => ?_) (fun c => ?_)
    · have h := z_t h c
      refine lv_iconst (v := 0) hx hb dX9_isSmall_16 (by decide) ?_
      have hy := Option.some.inj h
      rw [← hQz, ← hy]
      exact xr_i (v := (0 : Int32)) hx hb hr rfl hlk hK hw dX9_isSmall_17
    · have h := z_f h c
      refine lv_iconst (v := 1) hx hb dX9_isSmall_12 (by decide) ?_
      refine lv_goto (tgt := 17) hx hb dX9_isSmall_13 (by decide) ?_
      have hy := Option.some.inj h
      rw [← hQz, ← hy]
      exact xr_i (v := (1 : Int32)) hx hb hr rfl hlk hK hw dX9_isSmall_17

def f_X9_isDigit (p0 : Int32) : Option (Int32) :=
  if p0 < (48 : Int32) then
  (some (0 : Int32))
  else
  (if (57 : Int32) < p0 then
  (some (0 : Int32))
  else
  (some (1 : Int32)))
set_option maxHeartbeats 4000000 in
set_option maxRecDepth 100000 in
theorem m_X9_isDigit (l : Launch) (dC : Nat → ClassId) (dI : Nat → Nat → Nat) (sz : Nat)  (p0 : Int32) (y : Int32) (h : f_X9_isDigit p0 = some y) : CI l yX9_isDigit cX9_isDigit 1 (some .boolean) ({ frames := 0, cells := 0, slots := 0, locals := 0 } : Room) dC dI sz [.int p0] [] [] y [] := by
  refine CC_of (by decide) (Nat.le_of_ble_eq_true rfl) ?_
  intro p e s m below meth c A ls hx hb hml hr hlk hnm hown hts hX hK hP hD hA hl
  have hl : lv_has ls 1 [(0, .int p0)] := hl
  have hown : s.vm.findClass RX9 = some m.cls := hown
  have hw : Wd dC dI A s.heap [] s.heap [] := ⟨hP, hD, va_S.rf⟩
  generalize hQz : (MQ below (QI dC dI (fun r (_ : Unit) => r = y) (fun _ => Jn []) (fun _ => Jt []) A) ([.int p0] : List Value).toArray s 0 0 A) = Qz
  clear hP hD hnm
  unfold f_X9_isDigit at h
  refine lv_iload_n hx hb dX9_isDigit_0 rfl (lv_at hl 0 rfl) ?_
  refine lv_bipush (v := 48) hx hb dX9_isDigit_1 (by decide) ?_
  refine lv_icmp_lt (tgt := 16) hx hb dX9_isDigit_3 (by decide) (fun c => ?_) (fun c => ?_)
  · have h := z_t h c
    refine lv_iconst (v := 0) hx hb dX9_isDigit_16 (by decide) ?_
    have hy := Option.some.inj h
    rw [← hQz, ← hy]
    exact xr_i (v := (0 : Int32)) hx hb hr rfl hlk hK hw dX9_isDigit_17
  · have h := z_f h c
    refine lv_iload_n hx hb dX9_isDigit_6 rfl (lv_at hl 0 rfl) ?_
    refine lv_bipush (v := 57) hx hb dX9_isDigit_7 (by decide) ?_
    refine lv_icmp_gt (tgt := 16) hx hb dX9_isDigit_9 (by decide) (fun c => ?_) (fun c => ?_)
    · have h := z_t h c
      refine lv_iconst (v := 0) hx hb dX9_isDigit_16 (by decide) ?_
      have hy := Option.some.inj h
      rw [← hQz, ← hy]
      exact xr_i (v := (0 : Int32)) hx hb hr rfl hlk hK hw dX9_isDigit_17
    · have h := z_f h c
      refine lv_iconst (v := 1) hx hb dX9_isDigit_12 (by decide) ?_
      refine lv_goto (tgt := 17) hx hb dX9_isDigit_13 (by decide) ?_
      have hy := Option.some.inj h
      rw [← hQz, ← hy]
      exact xr_i (v := (1 : Int32)) hx hb hr rfl hlk hK hw dX9_isDigit_17

def bk_X9_next_319  (rec_243_4 : Ob → Option (Ob)) (s0 : Int64) (o_me : Ob) : Option (Ob) :=
  zlt (sL o_me 17 s0) fun o12 =>
  zlt (sI o12 15 ((gI o12 15) + (1 : Int32))) fun o13 =>
  rec_243_4 o13
def lb_X9_next_243   (rec_243_4 : Ob → Option (Ob)) (o_me : Ob) : Option (Ob) :=
  if (gI o_me 16) = (2 : Int32) then
  (if (gI o_me 13) ≤ (gI o_me 15) then
  (some o_me)
  else
  (zgd (zin (gI o_me 15) 400) <|
  (f_X9_isDigit (gA o_me 12 (gI o_me 15).toNatClampNeg)).bind fun z10 =>
  if z10 = (0 : Int32) then
  (some o_me)
  else
  (if (lg_cmp (gL o_me 17) (1000000 : Int64)) ≤ (0 : Int32) then
  (zgd (zin (gI o_me 15) 400) <|
  bk_X9_next_319  rec_243_4 ((((gL o_me 17) * (10 : Int64)) + ((gA o_me 12 (gI o_me 15).toNatClampNeg).toInt64)) - (48 : Int64)) o_me)
  else
  (bk_X9_next_319  rec_243_4 (gL o_me 17) o_me))))
  else
  (some o_me)
def lp_X9_next_243   : Nat → Ob → Option (Ob) := zit (fun rec a => lb_X9_next_243   rec a)
def bk_X9_next_227  (rec_149_3 : Ob → Option (Ob)) (s0 : Int64) (o_me : Ob) : Option (Ob) :=
  zlt (sL o_me 17 s0) fun o16 =>
  zlt (sI o16 15 ((gI o16 15) + (1 : Int32))) fun o17 =>
  rec_149_3 o17
def lb_X9_next_149   (rec_149_3 : Ob → Option (Ob)) (o_me : Ob) : Option (Ob) :=
  if (gI o_me 16) = (1 : Int32) then
  (if (gI o_me 13) ≤ (gI o_me 15) then
  (lp_X9_next_243   zfu o_me)
  else
  (zgd (zin (gI o_me 15) 400) <|
  (f_X9_isSmall (gA o_me 12 (gI o_me 15).toNatClampNeg)).bind fun z15 =>
  if z15 = (0 : Int32) then
  (lp_X9_next_243   zfu o_me)
  else
  (if (10 : Int32) ≤ ((gI o_me 15) - (gI o_me 14)) then
  (bk_X9_next_227  rec_149_3 (-1 : Int64) o_me)
  else
  (zgd (zin (gI o_me 15) 400) <|
  bk_X9_next_227  rec_149_3 ((((gL o_me 17) * (32 : Int64)) + ((gA o_me 12 (gI o_me 15).toNatClampNeg).toInt64)) - (96 : Int64)) o_me))))
  else
  (lp_X9_next_243   zfu o_me)
def lp_X9_next_149   : Nat → Ob → Option (Ob) := zit (fun rec a => lb_X9_next_149   rec a)
def bk_X9_next_114   (s0 : Int32) (o_me : Ob) : Option (Ob) :=
  zlt (sI o_me 16 s0) fun o8 =>
  if (gI o8 16) = (3 : Int32) then
  (zgd (zin (gI o8 14) 400) <|
  zlt (sL o8 17 ((gA o8 12 (gI o8 14).toNatClampNeg).toInt64)) fun o20 =>
  zlt (sI o20 15 ((gI o20 15) + (1 : Int32))) fun o21 =>
  lp_X9_next_149   zfu o21)
  else
  (lp_X9_next_149   zfu o8)
def bk_X9_next_46   (o_me : Ob) : Option (Ob) :=
  zlt (sI o_me 15 (gI o_me 14)) fun o2 =>
  zlt (sL o2 17 (0 : Int64)) fun o3 =>
  if (gI o3 14) = (gI o3 13) then
  (bk_X9_next_114   (0 : Int32) o3)
  else
  (zgd (zin (gI o3 14) 400) <|
  (f_X9_isSmall (gA o3 12 (gI o3 14).toNatClampNeg)).bind fun z5 =>
  if z5 = (0 : Int32) then
  (zgd (zin (gI o3 14) 400) <|
  (f_X9_isDigit (gA o3 12 (gI o3 14).toNatClampNeg)).bind fun z7 =>
  if z7 = (0 : Int32) then
  (bk_X9_next_114   (3 : Int32) o3)
  else
  (bk_X9_next_114   (2 : Int32) o3))
  else
  (bk_X9_next_114   (1 : Int32) o3))
def lb_X9_next_8   (rec_8_0 : Ob → Option (Ob)) (o_me : Ob) : Option (Ob) :=
  if (gI o_me 13) ≤ (gI o_me 14) then
  (bk_X9_next_46   o_me)
  else
  (zgd (zin (gI o_me 14) 400) <|
  if (gA o_me 12 (gI o_me 14).toNatClampNeg) = (32 : Int32) then
  (zlt (sI o_me 14 ((gI o_me 14) + (1 : Int32))) fun o23 =>
  rec_8_0 o23)
  else
  (bk_X9_next_46   o_me))
def lp_X9_next_8   : Nat → Ob → Option (Ob) := zit (fun rec a => lb_X9_next_8   rec a)
def f_X9_next (o_me : Ob) : Option (Ob) :=
  zlt (sI o_me 14 (gI o_me 15)) fun o1 =>
  lp_X9_next_8   zfu o1
set_option maxHeartbeats 4000000 in
set_option maxRecDepth 100000 in
theorem m_X9_next (l : Launch) (dC : Nat → ClassId) (dI : Nat → Nat → Nat) (sz : Nat) (h_me : Nat) (q_me : Nat → Nat) (k_me : Nat → ClassId) (o_me : Ob) (y : Ob) (h : f_X9_next o_me = some y) : CV l yX9_next cX9_next 1 none ({ frames := 1, cells := 0, slots := 0, locals := 20 } : Room) dC dI sz [.ref h_me] [wX9 h_me q_me k_me o_me] [tX9 k_me] [wX9 h_me q_me k_me y] := by
  refine CC_of (by decide) (Nat.le_of_ble_eq_true rfl) ?_
  intro p e s m below meth c A ls hx hb hml hr hlk hnm hown hts hX hK hP hD hA hl
  have hl : lv_has ls 1 [(0, .ref h_me)] := hl
  have hown : s.vm.findClass RX9 = some m.cls := hown
  have hw : Wd dC dI A s.heap [wX9 h_me q_me k_me o_me] s.heap [] := ⟨hP, hD, va_S.rf⟩
  generalize hQz : (MQ below (QV dC dI (fun (_ : Unit) => True) (fun _ => Jn [wX9 h_me q_me k_me y]) (fun _ => Jt [tX9 k_me]) A) ([.ref h_me] : List Value).toArray s 0 0 A) = Qz
  clear hP hD hnm
  have bk_319_5 : ∀ (rec_243_4 : Ob → Option (Ob)) (hrec_243_4 : ∀ (o_me : Ob) (H : Heap) (locs : List Loc) (ls : Array Slot), rec_243_4 o_me = some y → Wd dC dI A s.heap [wX9 h_me q_me k_me o_me] H locs → lv_has ls 1 [(0, .ref h_me)] → W p l e ({ frames := 1, cells := 0, slots := 0, locals := 20 } : Room) s m ([.ref h_me] : List Value).toArray below meth c H locs 0 0 Qz (F0 m 243 ls [])), ∀ (s0 : Int64) (o_me : Ob) (H : Heap) (locs : List Loc) (ls : Array Slot), bk_X9_next_319  rec_243_4 s0 o_me = some y → Wd dC dI A s.heap [wX9 h_me q_me k_me o_me] H locs → lv_has ls 1 [(0, .ref h_me)] → W p l e ({ frames := 1, cells := 0, slots := 0, locals := 20 } : Room) s m ([.ref h_me] : List Value).toArray below meth c H locs 0 0 Qz (F0 m 319 ls [.long s0, .ref h_me]) := by
    intro rec_243_4 hrec_243_4
    intro s0 o_me H locs ls h hw hl
    unfold bk_X9_next_319 at h
    refine fpX9_17 hx hb hts hown hK hw 0 rfl kw1193 dX9_next_319 (fun H locs hw => ?_)
    obtain ⟨o12, eo12, h⟩ := z_lt h
    have hw : Wd dC dI A s.heap [wX9 h_me q_me k_me o12] H locs := by rw [eo12]; exact hw
    refine lv_aload_n hx hb dX9_next_322 rfl (lv_at hl 0 rfl) ?_
    refine lv_dup hx hb dX9_next_323 rfl ?_
    refine fgX9_15 hx hb hts hown hK hw 0 rfl kw1191 dX9_next_324 ?_
    refine lv_iconst (v := 1) hx hb dX9_next_327 (by decide) ?_
    refine lv_iadd hx hb dX9_next_328 ?_
    refine fpX9_15 hx hb hts hown hK hw 0 rfl kw1191 dX9_next_329 (fun H locs hw => ?_)
    obtain ⟨o13, eo13, h⟩ := z_lt h
    have hw : Wd dC dI A s.heap [wX9 h_me q_me k_me o13] H locs := by rw [eo13]; exact hw
    refine lv_goto (tgt := 243) hx hb dX9_next_332 (by decide) ?_
    exact hrec_243_4 o13 _ _ _ h hw (lv_sub hl [0] rfl)
  have lp_243_4 : ∀ (N : Nat), ∀ (o_me : Ob) (H : Heap) (locs : List Loc) (ls : Array Slot), lp_X9_next_243   N o_me = some y → Wd dC dI A s.heap [wX9 h_me q_me k_me o_me] H locs → lv_has ls 1 [(0, .ref h_me)] → W p l e ({ frames := 1, cells := 0, slots := 0, locals := 20 } : Room) s m ([.ref h_me] : List Value).toArray below meth c H locs 0 0 Qz (F0 m 243 ls []) := by
    intro N
    induction N with
    | zero =>
      intro o_me H locs ls h hw hl
      exact absurd (show (none : Option (Ob)) = some y from h) (by simp)
    | succ N ih =>
      intro o_me H locs ls h hw hl
      have h : lb_X9_next_243   (lp_X9_next_243   N) o_me = some y := h
      unfold lb_X9_next_243 at h
      refine lv_aload_n hx hb dX9_next_243 rfl (lv_at hl 0 rfl) ?_
      refine fgX9_16 hx hb hts hown hK hw 0 rfl kw1192 dX9_next_244 ?_
      refine lv_iconst (v := 2) hx hb dX9_next_247 (by decide) ?_
      refine lv_icmp_ne (tgt := 335) hx hb dX9_next_248 (by decide) (fun c => ?_) (fun c => ?_)
      · have h := z_f h c
        have hy := Option.some.inj h
        rw [← hQz, ← hy]
        exact xr_v hx hb hr hlk hK hw dX9_next_335
      · have h := z_t h c
        refine lv_aload_n hx hb dX9_next_251 rfl (lv_at hl 0 rfl) ?_
        refine fgX9_15 hx hb hts hown hK hw 0 rfl kw1191 dX9_next_252 ?_
        refine lv_aload_n hx hb dX9_next_255 rfl (lv_at hl 0 rfl) ?_
        refine fgX9_13 hx hb hts hown hK hw 0 rfl kw1189 dX9_next_256 ?_
        refine lv_icmp_ge (tgt := 335) hx hb dX9_next_259 (by decide) (fun c => ?_) (fun c => ?_)
        · have h := z_t h c
          have hy := Option.some.inj h
          rw [← hQz, ← hy]
          exact xr_v hx hb hr hlk hK hw dX9_next_335
        · have h := z_f h c
          refine lv_aload_n hx hb dX9_next_262 rfl (lv_at hl 0 rfl) ?_
          refine fgX9_12 hx hb hts hown hK hw 0 rfl kw1188 dX9_next_263 ?_
          refine lv_aload_n hx hb dX9_next_266 rfl (lv_at hl 0 rfl) ?_
          refine fgX9_15 hx hb hts hown hK hw 0 rfl kw1191 dX9_next_267 ?_
          obtain ⟨g9, h⟩ := z_gd h
          refine faX9_12 hx hb hK hw 0 rfl rfl g9 dX9_next_270 ?_
          obtain ⟨z10, ez10, h⟩ := z_bd h
          refine xj_i (xrS (As := [.int (gA o_me 12 (gI o_me 15).toNatClampNeg)]) (rest := []) ⟨hx, hb, hml, hown, hts⟩ (m_X9_isDigit l dC dI _  (gA o_me 12 (gI o_me 15).toNatClampNeg) z10 ez10) kw1518 kw1516 kw1517 kw120 hd_X9_isDigit ⟨rfl, rfl⟩ rfl rfl ⟨rfl, rfl⟩ hX hK hw [] (by decide) rfl rfl hl.1 rfl rfl dX9_next_271) hw hA [] (by decide) rfl rfl (fun H locs hw => ?_)
          refine lv_if_eq (tgt := 335) hx hb dX9_next_274 (by decide) (fun c => ?_) (fun c => ?_)
          · have h := z_t h c
            have hy := Option.some.inj h
            rw [← hQz, ← hy]
            exact xr_v hx hb hr hlk hK hw dX9_next_335
          · have h := z_f h c
            refine lv_aload_n hx hb dX9_next_277 rfl (lv_at hl 0 rfl) ?_
            refine lv_aload_n hx hb dX9_next_278 rfl (lv_at hl 0 rfl) ?_
            refine fgX9_17 hx hb hts hown hK hw 0 rfl kw1193 dX9_next_279 ?_
            refine lv_ldc2 (v := 1000000) hx hb hown (hts _ kw1521) dX9_next_282 ?_
            refine W.lcmp hx hb dX9_next_285 ?_
            refine lv_if_le (tgt := 296) hx hb dX9_next_286 (by decide) (fun c => ?_) (fun c => ?_)
            · have h := z_t h c
              refine lv_aload_n hx hb dX9_next_296 rfl (lv_at hl 0 rfl) ?_
              refine fgX9_17 hx hb hts hown hK hw 0 rfl kw1193 dX9_next_297 ?_
              refine lv_ldc2 (v := 10) hx hb hown (hts _ kw1468) dX9_next_300 ?_
              refine lv_lmul hx hb dX9_next_303 ?_
              refine lv_aload_n hx hb dX9_next_304 rfl (lv_at hl 0 rfl) ?_
              refine fgX9_12 hx hb hts hown hK hw 0 rfl kw1188 dX9_next_305 ?_
              refine lv_aload_n hx hb dX9_next_308 rfl (lv_at hl 0 rfl) ?_
              refine fgX9_15 hx hb hts hown hK hw 0 rfl kw1191 dX9_next_309 ?_
              obtain ⟨g11, h⟩ := z_gd h
              refine faX9_12 hx hb hK hw 0 rfl rfl g11 dX9_next_312 ?_
              refine lv_i2l hx hb dX9_next_313 rfl ?_
              refine lv_ladd hx hb dX9_next_314 ?_
              refine lv_ldc2 (v := 48) hx hb hown (hts _ kw1522) dX9_next_315 ?_
              refine lv_lsub hx hb dX9_next_318 ?_
              exact bk_319_5 (lp_X9_next_243   N) ih ((((gL o_me 17) * (10 : Int64)) + ((gA o_me 12 (gI o_me 15).toNatClampNeg).toInt64)) - (48 : Int64)) o_me _ _ _ h hw (lv_sub hl [0] rfl)
            · have h := z_f h c
              refine lv_aload_n hx hb dX9_next_289 rfl (lv_at hl 0 rfl) ?_
              refine fgX9_17 hx hb hts hown hK hw 0 rfl kw1193 dX9_next_290 ?_
              refine lv_goto (tgt := 319) hx hb dX9_next_293 (by decide) ?_
              exact bk_319_5 (lp_X9_next_243   N) ih (gL o_me 17) o_me _ _ _ h hw (lv_sub hl [0] rfl)
  have bk_227_6 : ∀ (rec_149_3 : Ob → Option (Ob)) (hrec_149_3 : ∀ (o_me : Ob) (H : Heap) (locs : List Loc) (ls : Array Slot), rec_149_3 o_me = some y → Wd dC dI A s.heap [wX9 h_me q_me k_me o_me] H locs → lv_has ls 1 [(0, .ref h_me)] → W p l e ({ frames := 1, cells := 0, slots := 0, locals := 20 } : Room) s m ([.ref h_me] : List Value).toArray below meth c H locs 0 0 Qz (F0 m 149 ls [])), ∀ (s0 : Int64) (o_me : Ob) (H : Heap) (locs : List Loc) (ls : Array Slot), bk_X9_next_227  rec_149_3 s0 o_me = some y → Wd dC dI A s.heap [wX9 h_me q_me k_me o_me] H locs → lv_has ls 1 [(0, .ref h_me)] → W p l e ({ frames := 1, cells := 0, slots := 0, locals := 20 } : Room) s m ([.ref h_me] : List Value).toArray below meth c H locs 0 0 Qz (F0 m 227 ls [.long s0, .ref h_me]) := by
    intro rec_149_3 hrec_149_3
    intro s0 o_me H locs ls h hw hl
    unfold bk_X9_next_227 at h
    refine fpX9_17 hx hb hts hown hK hw 0 rfl kw1193 dX9_next_227 (fun H locs hw => ?_)
    obtain ⟨o16, eo16, h⟩ := z_lt h
    have hw : Wd dC dI A s.heap [wX9 h_me q_me k_me o16] H locs := by rw [eo16]; exact hw
    refine lv_aload_n hx hb dX9_next_230 rfl (lv_at hl 0 rfl) ?_
    refine lv_dup hx hb dX9_next_231 rfl ?_
    refine fgX9_15 hx hb hts hown hK hw 0 rfl kw1191 dX9_next_232 ?_
    refine lv_iconst (v := 1) hx hb dX9_next_235 (by decide) ?_
    refine lv_iadd hx hb dX9_next_236 ?_
    refine fpX9_15 hx hb hts hown hK hw 0 rfl kw1191 dX9_next_237 (fun H locs hw => ?_)
    obtain ⟨o17, eo17, h⟩ := z_lt h
    have hw : Wd dC dI A s.heap [wX9 h_me q_me k_me o17] H locs := by rw [eo17]; exact hw
    refine lv_goto (tgt := 149) hx hb dX9_next_240 (by decide) ?_
    exact hrec_149_3 o17 _ _ _ h hw (lv_sub hl [0] rfl)
  have lp_149_3 : ∀ (N : Nat), ∀ (o_me : Ob) (H : Heap) (locs : List Loc) (ls : Array Slot), lp_X9_next_149   N o_me = some y → Wd dC dI A s.heap [wX9 h_me q_me k_me o_me] H locs → lv_has ls 1 [(0, .ref h_me)] → W p l e ({ frames := 1, cells := 0, slots := 0, locals := 20 } : Room) s m ([.ref h_me] : List Value).toArray below meth c H locs 0 0 Qz (F0 m 149 ls []) := by
    intro N
    induction N with
    | zero =>
      intro o_me H locs ls h hw hl
      exact absurd (show (none : Option (Ob)) = some y from h) (by simp)
    | succ N ih =>
      intro o_me H locs ls h hw hl
      have h : lb_X9_next_149   (lp_X9_next_149   N) o_me = some y := h
      unfold lb_X9_next_149 at h
      refine lv_aload_n hx hb dX9_next_149 rfl (lv_at hl 0 rfl) ?_
      refine fgX9_16 hx hb hts hown hK hw 0 rfl kw1192 dX9_next_150 ?_
      refine lv_iconst (v := 1) hx hb dX9_next_153 (by decide) ?_
      refine lv_icmp_ne (tgt := 243) hx hb dX9_next_154 (by decide) (fun c => ?_) (fun c => ?_)
      · have h := z_f h c
        exact lp_243_4  zfu o_me _ _ _ h hw (lv_sub hl [0] rfl)
      · have h := z_t h c
        refine lv_aload_n hx hb dX9_next_157 rfl (lv_at hl 0 rfl) ?_
        refine fgX9_15 hx hb hts hown hK hw 0 rfl kw1191 dX9_next_158 ?_
        refine lv_aload_n hx hb dX9_next_161 rfl (lv_at hl 0 rfl) ?_
        refine fgX9_13 hx hb hts hown hK hw 0 rfl kw1189 dX9_next_162 ?_
        refine lv_icmp_ge (tgt := 243) hx hb dX9_next_165 (by decide) (fun c => ?_) (fun c => ?_)
        · have h := z_t h c
          exact lp_243_4  zfu o_me _ _ _ h hw (lv_sub hl [0] rfl)
        · have h := z_f h c
          refine lv_aload_n hx hb dX9_next_168 rfl (lv_at hl 0 rfl) ?_
          refine fgX9_12 hx hb hts hown hK hw 0 rfl kw1188 dX9_next_169 ?_
          refine lv_aload_n hx hb dX9_next_172 rfl (lv_at hl 0 rfl) ?_
          refine fgX9_15 hx hb hts hown hK hw 0 rfl kw1191 dX9_next_173 ?_
          obtain ⟨g14, h⟩ := z_gd h
          refine faX9_12 hx hb hK hw 0 rfl rfl g14 dX9_next_176 ?_
          obtain ⟨z15, ez15, h⟩ := z_bd h
          refine xj_i (xrS (As := [.int (gA o_me 12 (gI o_me 15).toNatClampNeg)]) (rest := []) ⟨hx, hb, hml, hown, hts⟩ (m_X9_isSmall l dC dI _  (gA o_me 12 (gI o_me 15).toNatClampNeg) z15 ez15) kw1515 kw1513 kw1514 kw120 hd_X9_isSmall ⟨rfl, rfl⟩ rfl rfl ⟨rfl, rfl⟩ hX hK hw [] (by decide) rfl rfl hl.1 rfl rfl dX9_next_177) hw hA [] (by decide) rfl rfl (fun H locs hw => ?_)
          refine lv_if_eq (tgt := 243) hx hb dX9_next_180 (by decide) (fun c => ?_) (fun c => ?_)
          · have h := z_t h c
            exact lp_243_4  zfu o_me _ _ _ h hw (lv_sub hl [0] rfl)
          · have h := z_f h c
            refine lv_aload_n hx hb dX9_next_183 rfl (lv_at hl 0 rfl) ?_
            refine lv_aload_n hx hb dX9_next_184 rfl (lv_at hl 0 rfl) ?_
            refine fgX9_15 hx hb hts hown hK hw 0 rfl kw1191 dX9_next_185 ?_
            refine lv_aload_n hx hb dX9_next_188 rfl (lv_at hl 0 rfl) ?_
            refine fgX9_14 hx hb hts hown hK hw 0 rfl kw1190 dX9_next_189 ?_
            refine lv_isub hx hb dX9_next_192 ?_
            refine lv_bipush (v := 10) hx hb dX9_next_193 (by decide) ?_
            refine lv_icmp_ge (tgt := 224) hx hb dX9_next_195 (by decide) (fun c => ?_) (fun c => ?_)
            · have h := z_t h c
              refine lv_ldc2 (v := (-1)) hx hb hown (hts _ kw1424) dX9_next_224 ?_
              exact bk_227_6 (lp_X9_next_149   N) ih (-1 : Int64) o_me _ _ _ h hw (lv_sub hl [0] rfl)
            · have h := z_f h c
              refine lv_aload_n hx hb dX9_next_198 rfl (lv_at hl 0 rfl) ?_
              refine fgX9_17 hx hb hts hown hK hw 0 rfl kw1193 dX9_next_199 ?_
              refine lv_ldc2 (v := 32) hx hb hown (hts _ kw1519) dX9_next_202 ?_
              refine lv_lmul hx hb dX9_next_205 ?_
              refine lv_aload_n hx hb dX9_next_206 rfl (lv_at hl 0 rfl) ?_
              refine fgX9_12 hx hb hts hown hK hw 0 rfl kw1188 dX9_next_207 ?_
              refine lv_aload_n hx hb dX9_next_210 rfl (lv_at hl 0 rfl) ?_
              refine fgX9_15 hx hb hts hown hK hw 0 rfl kw1191 dX9_next_211 ?_
              obtain ⟨g18, h⟩ := z_gd h
              refine faX9_12 hx hb hK hw 0 rfl rfl g18 dX9_next_214 ?_
              refine lv_i2l hx hb dX9_next_215 rfl ?_
              refine lv_ladd hx hb dX9_next_216 ?_
              refine lv_ldc2 (v := 96) hx hb hown (hts _ kw1520) dX9_next_217 ?_
              refine lv_lsub hx hb dX9_next_220 ?_
              refine lv_goto (tgt := 227) hx hb dX9_next_221 (by decide) ?_
              exact bk_227_6 (lp_X9_next_149   N) ih ((((gL o_me 17) * (32 : Int64)) + ((gA o_me 12 (gI o_me 15).toNatClampNeg).toInt64)) - (96 : Int64)) o_me _ _ _ h hw (lv_sub hl [0] rfl)
  have bk_114_2 : ∀ (s0 : Int32) (o_me : Ob) (H : Heap) (locs : List Loc) (ls : Array Slot), bk_X9_next_114   s0 o_me = some y → Wd dC dI A s.heap [wX9 h_me q_me k_me o_me] H locs → lv_has ls 1 [(0, .ref h_me)] → W p l e ({ frames := 1, cells := 0, slots := 0, locals := 20 } : Room) s m ([.ref h_me] : List Value).toArray below meth c H locs 0 0 Qz (F0 m 114 ls [.int s0, .ref h_me]) := by
    intro s0 o_me H locs ls h hw hl
    unfold bk_X9_next_114 at h
    refine fpX9_16 hx hb hts hown hK hw 0 rfl kw1192 dX9_next_114 (fun H locs hw => ?_)
    obtain ⟨o8, eo8, h⟩ := z_lt h
    have hw : Wd dC dI A s.heap [wX9 h_me q_me k_me o8] H locs := by rw [eo8]; exact hw
    refine lv_aload_n hx hb dX9_next_117 rfl (lv_at hl 0 rfl) ?_
    refine fgX9_16 hx hb hts hown hK hw 0 rfl kw1192 dX9_next_118 ?_
    refine lv_iconst (v := 3) hx hb dX9_next_121 (by decide) ?_
    refine lv_icmp_ne (tgt := 149) hx hb dX9_next_122 (by decide) (fun c => ?_) (fun c => ?_)
    · have h := z_f h c
      exact lp_149_3  zfu o8 _ _ _ h hw (lv_sub hl [0] rfl)
    · have h := z_t h c
      refine lv_aload_n hx hb dX9_next_125 rfl (lv_at hl 0 rfl) ?_
      refine lv_aload_n hx hb dX9_next_126 rfl (lv_at hl 0 rfl) ?_
      refine fgX9_12 hx hb hts hown hK hw 0 rfl kw1188 dX9_next_127 ?_
      refine lv_aload_n hx hb dX9_next_130 rfl (lv_at hl 0 rfl) ?_
      refine fgX9_14 hx hb hts hown hK hw 0 rfl kw1190 dX9_next_131 ?_
      obtain ⟨g19, h⟩ := z_gd h
      refine faX9_12 hx hb hK hw 0 rfl rfl g19 dX9_next_134 ?_
      refine lv_i2l hx hb dX9_next_135 rfl ?_
      refine fpX9_17 hx hb hts hown hK hw 0 rfl kw1193 dX9_next_136 (fun H locs hw => ?_)
      obtain ⟨o20, eo20, h⟩ := z_lt h
      have hw : Wd dC dI A s.heap [wX9 h_me q_me k_me o20] H locs := by rw [eo20]; exact hw
      refine lv_aload_n hx hb dX9_next_139 rfl (lv_at hl 0 rfl) ?_
      refine lv_dup hx hb dX9_next_140 rfl ?_
      refine fgX9_15 hx hb hts hown hK hw 0 rfl kw1191 dX9_next_141 ?_
      refine lv_iconst (v := 1) hx hb dX9_next_144 (by decide) ?_
      refine lv_iadd hx hb dX9_next_145 ?_
      refine fpX9_15 hx hb hts hown hK hw 0 rfl kw1191 dX9_next_146 (fun H locs hw => ?_)
      obtain ⟨o21, eo21, h⟩ := z_lt h
      have hw : Wd dC dI A s.heap [wX9 h_me q_me k_me o21] H locs := by rw [eo21]; exact hw
      exact lp_149_3  zfu o21 _ _ _ h hw (lv_sub hl [0] rfl)
  have bk_46_1 : ∀ (o_me : Ob) (H : Heap) (locs : List Loc) (ls : Array Slot), bk_X9_next_46   o_me = some y → Wd dC dI A s.heap [wX9 h_me q_me k_me o_me] H locs → lv_has ls 1 [(0, .ref h_me)] → W p l e ({ frames := 1, cells := 0, slots := 0, locals := 20 } : Room) s m ([.ref h_me] : List Value).toArray below meth c H locs 0 0 Qz (F0 m 46 ls []) := by
    intro o_me H locs ls h hw hl
    unfold bk_X9_next_46 at h
    refine lv_aload_n hx hb dX9_next_46 rfl (lv_at hl 0 rfl) ?_
    refine lv_aload_n hx hb dX9_next_47 rfl (lv_at hl 0 rfl) ?_
    refine fgX9_14 hx hb hts hown hK hw 0 rfl kw1190 dX9_next_48 ?_
    refine fpX9_15 hx hb hts hown hK hw 0 rfl kw1191 dX9_next_51 (fun H locs hw => ?_)
    obtain ⟨o2, eo2, h⟩ := z_lt h
    have hw : Wd dC dI A s.heap [wX9 h_me q_me k_me o2] H locs := by rw [eo2]; exact hw
    refine lv_aload_n hx hb dX9_next_54 rfl (lv_at hl 0 rfl) ?_
    refine lv_lconst (v := 0) hx hb dX9_next_55 (by decide) ?_
    refine fpX9_17 hx hb hts hown hK hw 0 rfl kw1193 dX9_next_56 (fun H locs hw => ?_)
    obtain ⟨o3, eo3, h⟩ := z_lt h
    have hw : Wd dC dI A s.heap [wX9 h_me q_me k_me o3] H locs := by rw [eo3]; exact hw
    refine lv_aload_n hx hb dX9_next_59 rfl (lv_at hl 0 rfl) ?_
    refine lv_aload_n hx hb dX9_next_60 rfl (lv_at hl 0 rfl) ?_
    refine fgX9_14 hx hb hts hown hK hw 0 rfl kw1190 dX9_next_61 ?_
    refine lv_aload_n hx hb dX9_next_64 rfl (lv_at hl 0 rfl) ?_
    refine fgX9_13 hx hb hts hown hK hw 0 rfl kw1189 dX9_next_65 ?_
    refine lv_icmp_ne (tgt := 75) hx hb dX9_next_68 (by decide) (fun c => ?_) (fun c => ?_)
    · have h := z_f h c
      refine lv_aload_n hx hb dX9_next_75 rfl (lv_at hl 0 rfl) ?_
      refine fgX9_12 hx hb hts hown hK hw 0 rfl kw1188 dX9_next_76 ?_
      refine lv_aload_n hx hb dX9_next_79 rfl (lv_at hl 0 rfl) ?_
      refine fgX9_14 hx hb hts hown hK hw 0 rfl kw1190 dX9_next_80 ?_
      obtain ⟨g4, h⟩ := z_gd h
      refine faX9_12 hx hb hK hw 0 rfl rfl g4 dX9_next_83 ?_
      obtain ⟨z5, ez5, h⟩ := z_bd h
      refine xj_i (xrS (As := [.int (gA o3 12 (gI o3 14).toNatClampNeg)]) (rest := [.ref h_me]) ⟨hx, hb, hml, hown, hts⟩ (m_X9_isSmall l dC dI _  (gA o3 12 (gI o3 14).toNatClampNeg) z5 ez5) kw1515 kw1513 kw1514 kw120 hd_X9_isSmall ⟨rfl, rfl⟩ rfl rfl ⟨rfl, rfl⟩ hX hK hw [] (by decide) rfl rfl hl.1 rfl rfl dX9_next_84) hw hA [] (by decide) rfl rfl (fun H locs hw => ?_)
      refine lv_if_eq (tgt := 94) hx hb dX9_next_87 (by decide) (fun c => ?_) (fun c => ?_)
      · have h := z_t h c
        refine lv_aload_n hx hb dX9_next_94 rfl (lv_at hl 0 rfl) ?_
        refine fgX9_12 hx hb hts hown hK hw 0 rfl kw1188 dX9_next_95 ?_
        refine lv_aload_n hx hb dX9_next_98 rfl (lv_at hl 0 rfl) ?_
        refine fgX9_14 hx hb hts hown hK hw 0 rfl kw1190 dX9_next_99 ?_
        obtain ⟨g6, h⟩ := z_gd h
        refine faX9_12 hx hb hK hw 0 rfl rfl g6 dX9_next_102 ?_
        obtain ⟨z7, ez7, h⟩ := z_bd h
        refine xj_i (xrS (As := [.int (gA o3 12 (gI o3 14).toNatClampNeg)]) (rest := [.ref h_me]) ⟨hx, hb, hml, hown, hts⟩ (m_X9_isDigit l dC dI _  (gA o3 12 (gI o3 14).toNatClampNeg) z7 ez7) kw1518 kw1516 kw1517 kw120 hd_X9_isDigit ⟨rfl, rfl⟩ rfl rfl ⟨rfl, rfl⟩ hX hK hw [] (by decide) rfl rfl hl.1 rfl rfl dX9_next_103) hw hA [] (by decide) rfl rfl (fun H locs hw => ?_)
        refine lv_if_eq (tgt := 113) hx hb dX9_next_106 (by decide) (fun c => ?_) (fun c => ?_)
        · have h := z_t h c
          refine lv_iconst (v := 3) hx hb dX9_next_113 (by decide) ?_
          exact bk_114_2  (3 : Int32) o3 _ _ _ h hw (lv_sub hl [0] rfl)
        · have h := z_f h c
          refine lv_iconst (v := 2) hx hb dX9_next_109 (by decide) ?_
          refine lv_goto (tgt := 114) hx hb dX9_next_110 (by decide) ?_
          exact bk_114_2  (2 : Int32) o3 _ _ _ h hw (lv_sub hl [0] rfl)
      · have h := z_f h c
        refine lv_iconst (v := 1) hx hb dX9_next_90 (by decide) ?_
        refine lv_goto (tgt := 114) hx hb dX9_next_91 (by decide) ?_
        exact bk_114_2  (1 : Int32) o3 _ _ _ h hw (lv_sub hl [0] rfl)
    · have h := z_t h c
      refine lv_iconst (v := 0) hx hb dX9_next_71 (by decide) ?_
      refine lv_goto (tgt := 114) hx hb dX9_next_72 (by decide) ?_
      exact bk_114_2  (0 : Int32) o3 _ _ _ h hw (lv_sub hl [0] rfl)
  have lp_8_0 : ∀ (N : Nat), ∀ (o_me : Ob) (H : Heap) (locs : List Loc) (ls : Array Slot), lp_X9_next_8   N o_me = some y → Wd dC dI A s.heap [wX9 h_me q_me k_me o_me] H locs → lv_has ls 1 [(0, .ref h_me)] → W p l e ({ frames := 1, cells := 0, slots := 0, locals := 20 } : Room) s m ([.ref h_me] : List Value).toArray below meth c H locs 0 0 Qz (F0 m 8 ls []) := by
    intro N
    induction N with
    | zero =>
      intro o_me H locs ls h hw hl
      exact absurd (show (none : Option (Ob)) = some y from h) (by simp)
    | succ N ih =>
      intro o_me H locs ls h hw hl
      have h : lb_X9_next_8   (lp_X9_next_8   N) o_me = some y := h
      unfold lb_X9_next_8 at h
      refine lv_aload_n hx hb dX9_next_8 rfl (lv_at hl 0 rfl) ?_
      refine fgX9_14 hx hb hts hown hK hw 0 rfl kw1190 dX9_next_9 ?_
      refine lv_aload_n hx hb dX9_next_12 rfl (lv_at hl 0 rfl) ?_
      refine fgX9_13 hx hb hts hown hK hw 0 rfl kw1189 dX9_next_13 ?_
      refine lv_icmp_ge (tgt := 46) hx hb dX9_next_16 (by decide) (fun c => ?_) (fun c => ?_)
      · have h := z_t h c
        exact bk_46_1  o_me _ _ _ h hw (lv_sub hl [0] rfl)
      · have h := z_f h c
        refine lv_aload_n hx hb dX9_next_19 rfl (lv_at hl 0 rfl) ?_
        refine fgX9_12 hx hb hts hown hK hw 0 rfl kw1188 dX9_next_20 ?_
        refine lv_aload_n hx hb dX9_next_23 rfl (lv_at hl 0 rfl) ?_
        refine fgX9_14 hx hb hts hown hK hw 0 rfl kw1190 dX9_next_24 ?_
        obtain ⟨g22, h⟩ := z_gd h
        refine faX9_12 hx hb hK hw 0 rfl rfl g22 dX9_next_27 ?_
        refine lv_bipush (v := 32) hx hb dX9_next_28 (by decide) ?_
        refine lv_icmp_ne (tgt := 46) hx hb dX9_next_30 (by decide) (fun c => ?_) (fun c => ?_)
        · have h := z_f h c
          exact bk_46_1  o_me _ _ _ h hw (lv_sub hl [0] rfl)
        · have h := z_t h c
          refine lv_aload_n hx hb dX9_next_33 rfl (lv_at hl 0 rfl) ?_
          refine lv_dup hx hb dX9_next_34 rfl ?_
          refine fgX9_14 hx hb hts hown hK hw 0 rfl kw1190 dX9_next_35 ?_
          refine lv_iconst (v := 1) hx hb dX9_next_38 (by decide) ?_
          refine lv_iadd hx hb dX9_next_39 ?_
          refine fpX9_14 hx hb hts hown hK hw 0 rfl kw1190 dX9_next_40 (fun H locs hw => ?_)
          obtain ⟨o23, eo23, h⟩ := z_lt h
          have hw : Wd dC dI A s.heap [wX9 h_me q_me k_me o23] H locs := by rw [eo23]; exact hw
          refine lv_goto (tgt := 8) hx hb dX9_next_43 (by decide) ?_
          exact ih o23 _ _ _ h hw (lv_sub hl [0] rfl)
  unfold f_X9_next at h
  refine lv_aload_n hx hb dX9_next_0 rfl (lv_at hl 0 rfl) ?_
  refine lv_aload_n hx hb dX9_next_1 rfl (lv_at hl 0 rfl) ?_
  refine fgX9_15 hx hb hts hown hK hw 0 rfl kw1191 dX9_next_2 ?_
  refine fpX9_14 hx hb hts hown hK hw 0 rfl kw1190 dX9_next_5 (fun H locs hw => ?_)
  obtain ⟨o1, eo1, h⟩ := z_lt h
  have hw : Wd dC dI A s.heap [wX9 h_me q_me k_me o1] H locs := by rw [eo1]; exact hw
  exact lp_8_0  zfu o1 _ _ _ h hw (lv_sub hl [0] rfl)

def f_X9_begin (o_me : Ob) : Option (Ob) :=
  zlt (sI o_me 15 (0 : Int32)) fun o1 =>
  zlt (sI o1 19 (0 : Int32)) fun o2 =>
  zlt (sI o2 18 (-1 : Int32)) fun o3 =>
  (f_X9_next o3).bind fun z4 =>
  some z4
set_option maxHeartbeats 4000000 in
set_option maxRecDepth 100000 in
theorem m_X9_begin (l : Launch) (dC : Nat → ClassId) (dI : Nat → Nat → Nat) (sz : Nat) (h_me : Nat) (q_me : Nat → Nat) (k_me : Nat → ClassId) (o_me : Ob) (y : Ob) (h : f_X9_begin o_me = some y) : CV l yX9_begin cX9_begin 1 none ({ frames := 2, cells := 0, slots := 0, locals := 40 } : Room) dC dI sz [.ref h_me] [wX9 h_me q_me k_me o_me] [tX9 k_me] [wX9 h_me q_me k_me y] := by
  refine CC_of (by decide) (Nat.le_of_ble_eq_true rfl) ?_
  intro p e s m below meth c A ls hx hb hml hr hlk hnm hown hts hX hK hP hD hA hl
  have hl : lv_has ls 1 [(0, .ref h_me)] := hl
  have hown : s.vm.findClass RX9 = some m.cls := hown
  have hw : Wd dC dI A s.heap [wX9 h_me q_me k_me o_me] s.heap [] := ⟨hP, hD, va_S.rf⟩
  generalize hQz : (MQ below (QV dC dI (fun (_ : Unit) => True) (fun _ => Jn [wX9 h_me q_me k_me y]) (fun _ => Jt [tX9 k_me]) A) ([.ref h_me] : List Value).toArray s 0 0 A) = Qz
  clear hP hD hnm
  unfold f_X9_begin at h
  refine lv_aload_n hx hb dX9_begin_0 rfl (lv_at hl 0 rfl) ?_
  refine lv_iconst (v := 0) hx hb dX9_begin_1 (by decide) ?_
  refine fpX9_15 hx hb hts hown hK hw 0 rfl kw1191 dX9_begin_2 (fun H locs hw => ?_)
  obtain ⟨o1, eo1, h⟩ := z_lt h
  have hw : Wd dC dI A s.heap [wX9 h_me q_me k_me o1] H locs := by rw [eo1]; exact hw
  refine lv_aload_n hx hb dX9_begin_5 rfl (lv_at hl 0 rfl) ?_
  refine lv_iconst (v := 0) hx hb dX9_begin_6 (by decide) ?_
  refine fpX9_19 hx hb hts hown hK hw 0 rfl kw1195 (by decide) dX9_begin_7 (fun H locs hw => ?_)
  obtain ⟨o2, eo2, h⟩ := z_lt h
  have hw : Wd dC dI A s.heap [wX9 h_me q_me k_me o2] H locs := by rw [eo2]; exact hw
  refine lv_aload_n hx hb dX9_begin_10 rfl (lv_at hl 0 rfl) ?_
  refine lv_iconst (v := (-1)) hx hb dX9_begin_11 (by decide) ?_
  refine fpX9_18 hx hb hts hown hK hw 0 rfl kw1194 dX9_begin_12 (fun H locs hw => ?_)
  obtain ⟨o3, eo3, h⟩ := z_lt h
  have hw : Wd dC dI A s.heap [wX9 h_me q_me k_me o3] H locs := by rw [eo3]; exact hw
  refine lv_aload_n hx hb dX9_begin_15 rfl (lv_at hl 0 rfl) ?_
  obtain ⟨z4, ez4, h⟩ := z_bd h
  refine xj_v (xrV (As := []) (rest := []) ⟨hx, hb, hml, hown, hts⟩ (m_X9_next l dC dI _ h_me q_me k_me o3 z4 ez4) kw1512 kw1509 kw1511 kw55 kw120 hd_X9_next ⟨rfl, rfl⟩ rfl rfl ⟨rfl, rfl⟩ hX hK hw [0] (by decide) rfl rfl rfl rfl rfl hl.1 rfl rfl dX9_begin_16) hw hA [0] (by decide) rfl rfl (fun H locs hw => ?_)
  have hw : Wd dC dI A s.heap [wX9 h_me q_me k_me z4] H locs := hw
  have hy := Option.some.inj h
  rw [← hQz, ← hy]
  exact xr_v hx hb hr hlk hK hw dX9_begin_19

def f_X9_beginText (o_me : Ob) (p0 : Int32) : Option (Ob) :=
  zgd (zbo p0) <|
  zlt (sI o_me 20 p0) fun o2 =>
  (f_X9_begin o2).bind fun z3 =>
  zlt (sI z3 21 (0 : Int32)) fun o4 =>
  zlt (sI o4 23 (0 : Int32)) fun o5 =>
  zlt (sI o5 26 (0 : Int32)) fun o6 =>
  some o6
set_option maxHeartbeats 4000000 in
set_option maxRecDepth 100000 in
theorem m_X9_beginText (l : Launch) (dC : Nat → ClassId) (dI : Nat → Nat → Nat) (sz : Nat) (h_me : Nat) (q_me : Nat → Nat) (k_me : Nat → ClassId) (o_me : Ob) (p0 : Int32) (y : Ob) (h : f_X9_beginText o_me p0 = some y) : CV l yX9_beginText cX9_beginText 2 none ({ frames := 3, cells := 0, slots := 0, locals := 60 } : Room) dC dI sz [.ref h_me, .int p0] [wX9 h_me q_me k_me o_me] [tX9 k_me] [wX9 h_me q_me k_me y] := by
  refine CC_of (by decide) (Nat.le_of_ble_eq_true rfl) ?_
  intro p e s m below meth c A ls hx hb hml hr hlk hnm hown hts hX hK hP hD hA hl
  have hl : lv_has ls 2 [(0, .ref h_me), (1, .int p0)] := hl
  have hown : s.vm.findClass RX9 = some m.cls := hown
  have hw : Wd dC dI A s.heap [wX9 h_me q_me k_me o_me] s.heap [] := ⟨hP, hD, va_S.rf⟩
  generalize hQz : (MQ below (QV dC dI (fun (_ : Unit) => True) (fun _ => Jn [wX9 h_me q_me k_me y]) (fun _ => Jt [tX9 k_me]) A) ([.ref h_me, .int p0] : List Value).toArray s 0 0 A) = Qz
  clear hP hD hnm
  unfold f_X9_beginText at h
  refine lv_aload_n hx hb dX9_beginText_0 rfl (lv_at hl 0 rfl) ?_
  refine lv_iload_n hx hb dX9_beginText_1 rfl (lv_at hl 1 rfl) ?_
  obtain ⟨g1, h⟩ := z_gd h
  refine fpX9_20 hx hb hts hown hK hw 0 rfl kw1196 g1 dX9_beginText_2 (fun H locs hw => ?_)
  obtain ⟨o2, eo2, h⟩ := z_lt h
  have hw : Wd dC dI A s.heap [wX9 h_me q_me k_me o2] H locs := by rw [eo2]; exact hw
  refine lv_aload_n hx hb dX9_beginText_5 rfl (lv_at hl 0 rfl) ?_
  obtain ⟨z3, ez3, h⟩ := z_bd h
  refine xj_v (xrV (As := []) (rest := []) ⟨hx, hb, hml, hown, hts⟩ (m_X9_begin l dC dI _ h_me q_me k_me o2 z3 ez3) kw1508 kw1505 kw1507 kw54 kw120 hd_X9_begin ⟨rfl, rfl⟩ rfl rfl ⟨rfl, rfl⟩ hX hK hw [0] (by decide) rfl rfl rfl rfl rfl hl.1 rfl rfl dX9_beginText_6) hw hA [0] (by decide) rfl rfl (fun H locs hw => ?_)
  have hw : Wd dC dI A s.heap [wX9 h_me q_me k_me z3] H locs := hw
  refine lv_aload_n hx hb dX9_beginText_9 rfl (lv_at hl 0 rfl) ?_
  refine lv_iconst (v := 0) hx hb dX9_beginText_10 (by decide) ?_
  refine fpX9_21 hx hb hts hown hK hw 0 rfl kw1197 dX9_beginText_11 (fun H locs hw => ?_)
  obtain ⟨o4, eo4, h⟩ := z_lt h
  have hw : Wd dC dI A s.heap [wX9 h_me q_me k_me o4] H locs := by rw [eo4]; exact hw
  refine lv_aload_n hx hb dX9_beginText_14 rfl (lv_at hl 0 rfl) ?_
  refine lv_iconst (v := 0) hx hb dX9_beginText_15 (by decide) ?_
  refine fpX9_23 hx hb hts hown hK hw 0 rfl kw1199 dX9_beginText_16 (fun H locs hw => ?_)
  obtain ⟨o5, eo5, h⟩ := z_lt h
  have hw : Wd dC dI A s.heap [wX9 h_me q_me k_me o5] H locs := by rw [eo5]; exact hw
  refine lv_aload_n hx hb dX9_beginText_19 rfl (lv_at hl 0 rfl) ?_
  refine lv_iconst (v := 0) hx hb dX9_beginText_20 (by decide) ?_
  refine fpX9_26 hx hb hts hown hK hw 0 rfl kw1202 dX9_beginText_21 (fun H locs hw => ?_)
  obtain ⟨o6, eo6, h⟩ := z_lt h
  have hw : Wd dC dI A s.heap [wX9 h_me q_me k_me o6] H locs := by rw [eo6]; exact hw
  have hy := Option.some.inj h
  rw [← hQz, ← hy]
  exact xr_v hx hb hr hlk hK hw dX9_beginText_24

