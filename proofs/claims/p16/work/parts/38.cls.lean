def bk_X6_wordOf_67 (o_me : Ob) (rec_17_0 : Nat × Int32 × Int32 × Int32 → Option (Int32)) (v1 : Nat) (v2 : Int32) (v3 : Int32) (v4 : Int32) : Option (Int32) :=
  zlt (v4 + (1 : Int32)) fun x8 =>
  rec_17_0 (v1, v2, v3, x8)
def bk_X6_wordOf_46 (o_me : Ob) (rec_17_0 : Nat × Int32 × Int32 × Int32 → Option (Int32)) (v1 : Nat) (v2 : Int32) (v3 : Int32) (v4 : Int32) : Option (Int32) :=
  (f_X6_isSame o_me v1 v3 v4).bind fun z5 =>
  if z5 = (0 : Int32) then
  (zlt (v2 + (1 : Int32)) fun x6 =>
  zlt (v4 + (1 : Int32)) fun x7 =>
  bk_X6_wordOf_67 o_me rec_17_0 v1 x6 x7 v4)
  else
  (some v2)
def lb_X6_wordOf_17 (o_me : Ob)  (rec_17_0 : Nat × Int32 × Int32 × Int32 → Option (Int32)) (v1 : Nat) (v2 : Int32) (v3 : Int32) (v4 : Int32) : Option (Int32) :=
  zgd (decide (v1 < 9)) <|
  (f_J0_length_8abf5 v1).bind fun z1 =>
  if z1 < v4 then
  (some (-1 : Int32))
  else
  (zgd (decide (v1 < 9)) <|
  (f_J0_length_8abf5 v1).bind fun z3 =>
  if v4 = z3 then
  (bk_X6_wordOf_46 o_me rec_17_0 v1 v2 v3 v4)
  else
  (zgd (decide (v1 < 9)) <|
  (f_J0_charAt_5068e v1 v4).bind fun z9 =>
  if z9 = (32 : Int32) then
  (bk_X6_wordOf_46 o_me rec_17_0 v1 v2 v3 v4)
  else
  (bk_X6_wordOf_67 o_me rec_17_0 v1 v2 v3 v4)))
def lp_X6_wordOf_17 (o_me : Ob)  : Nat → (Nat × Int32 × Int32 × Int32) → Option (Int32) := zit (fun rec a => lb_X6_wordOf_17 o_me  rec a.1 a.2.1 a.2.2.1 a.2.2.2)
def f_X6_wordOf (o_me : Ob) (p0 : Nat) : Option (Int32) :=
  if (gI o_me 6) = (1 : Int32) then
  (lp_X6_wordOf_17 o_me  zfu (p0, (0 : Int32), (0 : Int32), (0 : Int32)))
  else
  (some (-1 : Int32))
set_option maxHeartbeats 4000000 in
set_option maxRecDepth 100000 in
theorem m_X6_wordOf (l : Launch) (dC : Nat → ClassId) (dI : Nat → Nat → Nat) (sz : Nat) (h_me : Nat) (h_me_code : Nat) (q_me : Nat → Nat) (k_me : Nat → ClassId) (o_me : Ob) (p0 : Nat) (y : Int32) (h : f_X6_wordOf o_me p0 = some y) : CI l yX6_wordOf cX6_wordOf 5 (some .int) ({ frames := 5, cells := 0, slots := 0, locals := 110 } : Room) dC dI sz [.ref h_me, .ref (dI 101 p0)] [wX6 h_me h_me_code q_me k_me o_me] [tX6 k_me] y [wX6 h_me h_me_code q_me k_me o_me] := by
  refine CC_of (by decide) (Nat.le_of_ble_eq_true rfl) ?_
  intro p e s m below meth c A ls hx hb hml hr hlk hnm hown hts hX hK hP hD hA hl
  have hl : lv_has ls 5 [(0, .ref h_me), (1, .ref (dI 101 p0))] := hl
  have hown : s.vm.findClass RX6 = some m.cls := hown
  have hw : Wd dC dI A s.heap [wX6 h_me h_me_code q_me k_me o_me] s.heap [] := ⟨hP, hD, va_S.rf⟩
  generalize hQz : (MQ below (QI dC dI (fun r (_ : Unit) => r = y) (fun _ => Jn [wX6 h_me h_me_code q_me k_me o_me]) (fun _ => Jt [tX6 k_me]) A) ([.ref h_me, .ref (dI 101 p0)] : List Value).toArray s 0 0 A) = Qz
  clear hP hD hnm
  have bk_67_2 : ∀ (rec_17_0 : Nat × Int32 × Int32 × Int32 → Option (Int32)) (hrec_17_0 : ∀ (v1 : Nat) (v2 : Int32) (v3 : Int32) (v4 : Int32) (H : Heap) (locs : List Loc) (ls : Array Slot), rec_17_0 (v1, v2, v3, v4) = some y → Wd dC dI A s.heap [wX6 h_me h_me_code q_me k_me o_me] H locs → lv_has ls 5 [(0, .ref h_me), (1, .ref (dI 101 v1)), (2, .int v2), (3, .int v3), (4, .int v4)] → W p l e ({ frames := 5, cells := 0, slots := 0, locals := 110 } : Room) s m ([.ref h_me, .ref (dI 101 p0)] : List Value).toArray below meth c H locs 0 0 Qz (F0 m 17 ls [])), ∀ (v1 : Nat) (v2 : Int32) (v3 : Int32) (v4 : Int32) (H : Heap) (locs : List Loc) (ls : Array Slot), bk_X6_wordOf_67 o_me rec_17_0 v1 v2 v3 v4 = some y → Wd dC dI A s.heap [wX6 h_me h_me_code q_me k_me o_me] H locs → lv_has ls 5 [(0, .ref h_me), (1, .ref (dI 101 v1)), (2, .int v2), (3, .int v3), (4, .int v4)] → W p l e ({ frames := 5, cells := 0, slots := 0, locals := 110 } : Room) s m ([.ref h_me, .ref (dI 101 p0)] : List Value).toArray below meth c H locs 0 0 Qz (F0 m 67 ls []) := by
    intro rec_17_0 hrec_17_0
    intro v1 v2 v3 v4 H locs ls h hw hl
    unfold bk_X6_wordOf_67 at h
    obtain ⟨x8, ex8, h⟩ := z_lt h
    refine lv_iinc (v := x8) (lv' := [(4, .int x8), (0, .ref h_me), (1, .ref (dI 101 v1)), (2, .int v2), (3, .int v3)]) hx hb dX6_wordOf_67 hl (k := 4) rfl ((congrArg (v4 + ·) (show Int32.ofInt 1 = (1 : Int32) from by decide)).trans ex8.symm) (by decide) rfl (fun ls hl => ?_)
    refine lv_goto (tgt := 17) hx hb dX6_wordOf_70 (by decide) ?_
    exact hrec_17_0 v1 v2 v3 x8 _ _ _ h hw (lv_sub hl [1, 2, 3, 4, 0] rfl)
  have bk_46_1 : ∀ (rec_17_0 : Nat × Int32 × Int32 × Int32 → Option (Int32)) (hrec_17_0 : ∀ (v1 : Nat) (v2 : Int32) (v3 : Int32) (v4 : Int32) (H : Heap) (locs : List Loc) (ls : Array Slot), rec_17_0 (v1, v2, v3, v4) = some y → Wd dC dI A s.heap [wX6 h_me h_me_code q_me k_me o_me] H locs → lv_has ls 5 [(0, .ref h_me), (1, .ref (dI 101 v1)), (2, .int v2), (3, .int v3), (4, .int v4)] → W p l e ({ frames := 5, cells := 0, slots := 0, locals := 110 } : Room) s m ([.ref h_me, .ref (dI 101 p0)] : List Value).toArray below meth c H locs 0 0 Qz (F0 m 17 ls [])), ∀ (v1 : Nat) (v2 : Int32) (v3 : Int32) (v4 : Int32) (H : Heap) (locs : List Loc) (ls : Array Slot), bk_X6_wordOf_46 o_me rec_17_0 v1 v2 v3 v4 = some y → Wd dC dI A s.heap [wX6 h_me h_me_code q_me k_me o_me] H locs → lv_has ls 5 [(0, .ref h_me), (1, .ref (dI 101 v1)), (2, .int v2), (3, .int v3), (4, .int v4)] → W p l e ({ frames := 5, cells := 0, slots := 0, locals := 110 } : Room) s m ([.ref h_me, .ref (dI 101 p0)] : List Value).toArray below meth c H locs 0 0 Qz (F0 m 46 ls []) := by
    intro rec_17_0 hrec_17_0
    intro v1 v2 v3 v4 H locs ls h hw hl
    unfold bk_X6_wordOf_46 at h
    refine lv_aload_n hx hb dX6_wordOf_46 rfl (lv_at hl 0 rfl) ?_
    refine lv_aload_n hx hb dX6_wordOf_47 rfl (lv_at hl 1 rfl) ?_
    refine lv_iload_n hx hb dX6_wordOf_48 rfl (lv_at hl 3 rfl) ?_
    refine lv_iload hx hb dX6_wordOf_49 (lv_at hl 4 rfl) ?_
    obtain ⟨z5, ez5, h⟩ := z_bd h
    refine xj_i (xrV (As := [.ref (dI 101 v1), .int v3, .int v4]) (rest := []) ⟨hx, hb, hml, hown, hts⟩ (m_X6_isSame l dC dI _ h_me h_me_code q_me k_me o_me v1 v3 v4 z5 ez5) kw745 kw742 kw744 kw8 kw111 hd_X6_isSame ⟨rfl, rfl⟩ rfl rfl ⟨rfl, rfl⟩ hX hK hw [0] (by decide) rfl rfl rfl rfl rfl hl.1 rfl rfl dX6_wordOf_51) hw hA [0] (by decide) rfl rfl (fun H locs hw => ?_)
    have hw : Wd dC dI A s.heap [wX6 h_me h_me_code q_me k_me o_me] H locs := hw
    refine lv_if_eq (tgt := 59) hx hb dX6_wordOf_54 (by decide) (fun c => ?_) (fun c => ?_)
    · have h := z_t h c
      obtain ⟨x6, ex6, h⟩ := z_lt h
      refine lv_iinc (v := x6) (lv' := [(2, .int x6), (0, .ref h_me), (1, .ref (dI 101 v1)), (3, .int v3), (4, .int v4)]) hx hb dX6_wordOf_59 hl (k := 2) rfl ((congrArg (v2 + ·) (show Int32.ofInt 1 = (1 : Int32) from by decide)).trans ex6.symm) (by decide) rfl (fun ls hl => ?_)
      refine lv_iload hx hb dX6_wordOf_62 (lv_at hl 4 rfl) ?_
      refine lv_iconst (v := 1) hx hb dX6_wordOf_64 (by decide) ?_
      refine lv_iadd hx hb dX6_wordOf_65 ?_
      obtain ⟨x7, ex7, h⟩ := z_lt h
      refine lv_fi (v := x7) ex7.symm ?_
      refine lv_istore_n (lv' := [(3, .int x7), (2, .int x6), (0, .ref h_me), (1, .ref (dI 101 v1)), (4, .int v4)]) hx hb dX6_wordOf_66 rfl hl (by decide) rfl (fun ls hl => ?_)
      exact bk_67_2 rec_17_0 hrec_17_0 v1 x6 x7 v4 _ _ _ h hw (lv_sub hl [2, 3, 1, 0, 4] rfl)
    · have h := z_f h c
      refine lv_iload_n hx hb dX6_wordOf_57 rfl (lv_at hl 2 rfl) ?_
      have hy := Option.some.inj h
      rw [← hQz, ← hy]
      exact xr_i (v := v2) hx hb hr rfl hlk hK hw dX6_wordOf_58
  have lp_17_0 : ∀ (N : Nat), ∀ (v1 : Nat) (v2 : Int32) (v3 : Int32) (v4 : Int32) (H : Heap) (locs : List Loc) (ls : Array Slot), lp_X6_wordOf_17 o_me  N (v1, v2, v3, v4) = some y → Wd dC dI A s.heap [wX6 h_me h_me_code q_me k_me o_me] H locs → lv_has ls 5 [(0, .ref h_me), (1, .ref (dI 101 v1)), (2, .int v2), (3, .int v3), (4, .int v4)] → W p l e ({ frames := 5, cells := 0, slots := 0, locals := 110 } : Room) s m ([.ref h_me, .ref (dI 101 p0)] : List Value).toArray below meth c H locs 0 0 Qz (F0 m 17 ls []) := by
    intro N
    induction N with
    | zero =>
      intro v1 v2 v3 v4 H locs ls h hw hl
      exact absurd (show (none : Option (Int32)) = some y from h) (by simp)
    | succ N ih =>
      intro v1 v2 v3 v4 H locs ls h hw hl
      have h : lb_X6_wordOf_17 o_me  (lp_X6_wordOf_17 o_me  N) v1 v2 v3 v4 = some y := h
      unfold lb_X6_wordOf_17 at h
      refine lv_iload hx hb dX6_wordOf_17 (lv_at hl 4 rfl) ?_
      refine lv_aload_n hx hb dX6_wordOf_19 rfl (lv_at hl 1 rfl) ?_
      obtain ⟨g2, h⟩ := z_gd h
      obtain ⟨z1, ez1, h⟩ := z_bd h
      refine xj_i (xrT (As := []) (rest := [.int v4]) ⟨hx, hb, hml, hown, hts⟩ (m_J0_length_8abf5 l dC dI _  v1 z1 ez1) g2 rfl kw697 kw694 kw695 kw696 kw121 hd_J0_length_8abf5 ⟨rfl, rfl⟩ rfl rfl ⟨rfl, rfl⟩ hX hK hw hl.1 rfl rfl dX6_wordOf_20) hw hA [] (by decide) rfl rfl (fun H locs hw => ?_)
      refine lv_icmp_gt (tgt := 73) hx hb dX6_wordOf_23 (by decide) (fun c => ?_) (fun c => ?_)
      · have h := z_t h c
        refine lv_iconst (v := (-1)) hx hb dX6_wordOf_73 (by decide) ?_
        have hy := Option.some.inj h
        rw [← hQz, ← hy]
        exact xr_i (v := (-1 : Int32)) hx hb hr rfl hlk hK hw dX6_wordOf_74
      · have h := z_f h c
        refine lv_iload hx hb dX6_wordOf_26 (lv_at hl 4 rfl) ?_
        refine lv_aload_n hx hb dX6_wordOf_28 rfl (lv_at hl 1 rfl) ?_
        obtain ⟨g4, h⟩ := z_gd h
        obtain ⟨z3, ez3, h⟩ := z_bd h
        refine xj_i (xrT (As := []) (rest := [.int v4]) ⟨hx, hb, hml, hown, hts⟩ (m_J0_length_8abf5 l dC dI _  v1 z3 ez3) g4 rfl kw697 kw694 kw695 kw696 kw121 hd_J0_length_8abf5 ⟨rfl, rfl⟩ rfl rfl ⟨rfl, rfl⟩ hX hK hw hl.1 rfl rfl dX6_wordOf_29) hw hA [] (by decide) rfl rfl (fun H locs hw => ?_)
        refine lv_icmp_eq (tgt := 46) hx hb dX6_wordOf_32 (by decide) (fun c => ?_) (fun c => ?_)
        · have h := z_t h c
          exact bk_46_1 (lp_X6_wordOf_17 o_me  N) ih v1 v2 v3 v4 _ _ _ h hw (lv_sub hl [0, 1, 2, 3, 4] rfl)
        · have h := z_f h c
          refine lv_aload_n hx hb dX6_wordOf_35 rfl (lv_at hl 1 rfl) ?_
          refine lv_iload hx hb dX6_wordOf_36 (lv_at hl 4 rfl) ?_
          obtain ⟨g10, h⟩ := z_gd h
          obtain ⟨z9, ez9, h⟩ := z_bd h
          refine xj_i (xrT (As := [.int v4]) (rest := []) ⟨hx, hb, hml, hown, hts⟩ (m_J0_charAt_5068e l dC dI _  v1 v4 z9 ez9) g10 rfl kw707 kw704 kw705 kw706 kw121 hd_J0_charAt_5068e ⟨rfl, rfl⟩ rfl rfl ⟨rfl, rfl⟩ hX hK hw hl.1 rfl rfl dX6_wordOf_38) hw hA [] (by decide) rfl rfl (fun H locs hw => ?_)
          refine lv_bipush (v := 32) hx hb dX6_wordOf_41 (by decide) ?_
          refine lv_icmp_ne (tgt := 67) hx hb dX6_wordOf_43 (by decide) (fun c => ?_) (fun c => ?_)
          · have h := z_f h c
            exact bk_67_2 (lp_X6_wordOf_17 o_me  N) ih v1 v2 v3 v4 _ _ _ h hw (lv_sub hl [0, 1, 2, 3, 4] rfl)
          · have h := z_t h c
            exact bk_46_1 (lp_X6_wordOf_17 o_me  N) ih v1 v2 v3 v4 _ _ _ h hw (lv_sub hl [0, 1, 2, 3, 4] rfl)
  unfold f_X6_wordOf at h
  refine lv_aload_n hx hb dX6_wordOf_0 rfl (lv_at hl 0 rfl) ?_
  refine fgX6_6 hx hb hts hown hK hw 0 rfl kw210 dX6_wordOf_1 ?_
  refine lv_iconst (v := 1) hx hb dX6_wordOf_4 (by decide) ?_
  refine lv_icmp_eq (tgt := 10) hx hb dX6_wordOf_5 (by decide) (fun c => ?_) (fun c => ?_)
  · have h := z_t h c
    refine lv_iconst (v := 0) hx hb dX6_wordOf_10 (by decide) ?_
    refine lv_istore_n (lv' := [(2, .int (0 : Int32)), (0, .ref h_me), (1, .ref (dI 101 p0))]) hx hb dX6_wordOf_11 rfl hl (by decide) rfl (fun ls hl => ?_)
    refine lv_iconst (v := 0) hx hb dX6_wordOf_12 (by decide) ?_
    refine lv_istore_n (lv' := [(3, .int (0 : Int32)), (2, .int (0 : Int32)), (0, .ref h_me), (1, .ref (dI 101 p0))]) hx hb dX6_wordOf_13 rfl hl (by decide) rfl (fun ls hl => ?_)
    refine lv_iconst (v := 0) hx hb dX6_wordOf_14 (by decide) ?_
    refine lv_istore (lv' := [(4, .int (0 : Int32)), (3, .int (0 : Int32)), (2, .int (0 : Int32)), (0, .ref h_me), (1, .ref (dI 101 p0))]) hx hb dX6_wordOf_15 hl (by decide) rfl (fun ls hl => ?_)
    exact lp_17_0  zfu p0 (0 : Int32) (0 : Int32) (0 : Int32) _ _ _ h hw (lv_sub hl [3, 4, 2, 1, 0] rfl)
  · have h := z_f h c
    refine lv_iconst (v := (-1)) hx hb dX6_wordOf_8 (by decide) ?_
    have hy := Option.some.inj h
    rw [← hQz, ← hy]
    exact xr_i (v := (-1 : Int32)) hx hb hr rfl hlk hK hw dX6_wordOf_9

def f_X6_isWord (o_me : Ob) (p0 : Nat) : Option (Int32) :=
  (f_X6_wordOf o_me p0).bind fun z1 =>
  if z1 = (0 : Int32) then
  (some (1 : Int32))
  else
  (some (0 : Int32))
set_option maxHeartbeats 4000000 in
set_option maxRecDepth 100000 in
theorem m_X6_isWord (l : Launch) (dC : Nat → ClassId) (dI : Nat → Nat → Nat) (sz : Nat) (h_me : Nat) (h_me_code : Nat) (q_me : Nat → Nat) (k_me : Nat → ClassId) (o_me : Ob) (p0 : Nat) (y : Int32) (h : f_X6_isWord o_me p0 = some y) : CI l yX6_isWord cX6_isWord 2 (some .boolean) ({ frames := 6, cells := 0, slots := 0, locals := 134 } : Room) dC dI sz [.ref h_me, .ref (dI 101 p0)] [wX6 h_me h_me_code q_me k_me o_me] [tX6 k_me] y [wX6 h_me h_me_code q_me k_me o_me] := by
  refine CC_of (by decide) (Nat.le_of_ble_eq_true rfl) ?_
  intro p e s m below meth c A ls hx hb hml hr hlk hnm hown hts hX hK hP hD hA hl
  have hl : lv_has ls 2 [(0, .ref h_me), (1, .ref (dI 101 p0))] := hl
  have hown : s.vm.findClass RX6 = some m.cls := hown
  have hw : Wd dC dI A s.heap [wX6 h_me h_me_code q_me k_me o_me] s.heap [] := ⟨hP, hD, va_S.rf⟩
  generalize hQz : (MQ below (QI dC dI (fun r (_ : Unit) => r = y) (fun _ => Jn [wX6 h_me h_me_code q_me k_me o_me]) (fun _ => Jt [tX6 k_me]) A) ([.ref h_me, .ref (dI 101 p0)] : List Value).toArray s 0 0 A) = Qz
  clear hP hD hnm
  unfold f_X6_isWord at h
  refine lv_aload_n hx hb dX6_isWord_0 rfl (lv_at hl 0 rfl) ?_
  refine lv_aload_n hx hb dX6_isWord_1 rfl (lv_at hl 1 rfl) ?_
  obtain ⟨z1, ez1, h⟩ := z_bd h
  refine xj_i (xrV (As := [.ref (dI 101 p0)]) (rest := []) ⟨hx, hb, hml, hown, hts⟩ (m_X6_wordOf l dC dI _ h_me h_me_code q_me k_me o_me p0 z1 ez1) kw693 kw690 kw692 kw7 kw111 hd_X6_wordOf ⟨rfl, rfl⟩ rfl rfl ⟨rfl, rfl⟩ hX hK hw [0] (by decide) rfl rfl rfl rfl rfl hl.1 rfl rfl dX6_isWord_2) hw hA [0] (by decide) rfl rfl (fun H locs hw => ?_)
  have hw : Wd dC dI A s.heap [wX6 h_me h_me_code q_me k_me o_me] H locs := hw
  refine lv_if_ne (tgt := 12) hx hb dX6_isWord_5 (by decide) (fun c => ?_) (fun c => ?_)
  · have h := z_f h c
    refine lv_iconst (v := 0) hx hb dX6_isWord_12 (by decide) ?_
    have hy := Option.some.inj h
    rw [← hQz, ← hy]
    exact xr_i (v := (0 : Int32)) hx hb hr rfl hlk hK hw dX6_isWord_13
  · have h := z_t h c
    refine lv_iconst (v := 1) hx hb dX6_isWord_8 (by decide) ?_
    refine lv_goto (tgt := 13) hx hb dX6_isWord_9 (by decide) ?_
    have hy := Option.some.inj h
    rw [← hQz, ← hy]
    exact xr_i (v := (1 : Int32)) hx hb hr rfl hlk hK hw dX6_isWord_13

def f_X6_isSign (o_me : Ob) (p0 : Int32) : Option (Int32) :=
  if (gI o_me 6) = (3 : Int32) then
  ((f_X6_byteAt o_me (gI o_me 7)).bind fun z1 =>
  if z1 = p0 then
  (some (1 : Int32))
  else
  (some (0 : Int32)))
  else
  (some (0 : Int32))
set_option maxHeartbeats 4000000 in
set_option maxRecDepth 100000 in
theorem m_X6_isSign (l : Launch) (dC : Nat → ClassId) (dI : Nat → Nat → Nat) (sz : Nat) (h_me : Nat) (h_me_code : Nat) (q_me : Nat → Nat) (k_me : Nat → ClassId) (o_me : Ob) (p0 : Int32) (y : Int32) (h : f_X6_isSign o_me p0 = some y) : CI l yX6_isSign cX6_isSign 2 (some .boolean) ({ frames := 1, cells := 0, slots := 0, locals := 21 } : Room) dC dI sz [.ref h_me, .int p0] [wX6 h_me h_me_code q_me k_me o_me] [tX6 k_me] y [wX6 h_me h_me_code q_me k_me o_me] := by
  refine CC_of (by decide) (Nat.le_of_ble_eq_true rfl) ?_
  intro p e s m below meth c A ls hx hb hml hr hlk hnm hown hts hX hK hP hD hA hl
  have hl : lv_has ls 2 [(0, .ref h_me), (1, .int p0)] := hl
  have hown : s.vm.findClass RX6 = some m.cls := hown
  have hw : Wd dC dI A s.heap [wX6 h_me h_me_code q_me k_me o_me] s.heap [] := ⟨hP, hD, va_S.rf⟩
  generalize hQz : (MQ below (QI dC dI (fun r (_ : Unit) => r = y) (fun _ => Jn [wX6 h_me h_me_code q_me k_me o_me]) (fun _ => Jt [tX6 k_me]) A) ([.ref h_me, .int p0] : List Value).toArray s 0 0 A) = Qz
  clear hP hD hnm
  unfold f_X6_isSign at h
  refine lv_aload_n hx hb dX6_isSign_0 rfl (lv_at hl 0 rfl) ?_
  refine fgX6_6 hx hb hts hown hK hw 0 rfl kw210 dX6_isSign_1 ?_
  refine lv_iconst (v := 3) hx hb dX6_isSign_4 (by decide) ?_
  refine lv_icmp_ne (tgt := 24) hx hb dX6_isSign_5 (by decide) (fun c => ?_) (fun c => ?_)
  · have h := z_f h c
    refine lv_iconst (v := 0) hx hb dX6_isSign_24 (by decide) ?_
    have hy := Option.some.inj h
    rw [← hQz, ← hy]
    exact xr_i (v := (0 : Int32)) hx hb hr rfl hlk hK hw dX6_isSign_25
  · have h := z_t h c
    refine lv_aload_n hx hb dX6_isSign_8 rfl (lv_at hl 0 rfl) ?_
    refine lv_aload_n hx hb dX6_isSign_9 rfl (lv_at hl 0 rfl) ?_
    refine fgX6_7 hx hb hts hown hK hw 0 rfl kw211 dX6_isSign_10 ?_
    obtain ⟨z1, ez1, h⟩ := z_bd h
    refine xj_i (xrV (As := [.int (gI o_me 7)]) (rest := []) ⟨hx, hb, hml, hown, hts⟩ (m_X6_byteAt l dC dI _ h_me h_me_code q_me k_me o_me (gI o_me 7) z1 ez1) kw655 kw676 kw653 kw654 kw111 hd_X6_byteAt ⟨rfl, rfl⟩ rfl rfl ⟨rfl, rfl⟩ hX hK hw [0] (by decide) rfl rfl rfl rfl rfl hl.1 rfl rfl dX6_isSign_13) hw hA [0] (by decide) rfl rfl (fun H locs hw => ?_)
    have hw : Wd dC dI A s.heap [wX6 h_me h_me_code q_me k_me o_me] H locs := hw
    refine lv_iload_n hx hb dX6_isSign_16 rfl (lv_at hl 1 rfl) ?_
    refine lv_icmp_ne (tgt := 24) hx hb dX6_isSign_17 (by decide) (fun c => ?_) (fun c => ?_)
    · have h := z_f h c
      refine lv_iconst (v := 0) hx hb dX6_isSign_24 (by decide) ?_
      have hy := Option.some.inj h
      rw [← hQz, ← hy]
      exact xr_i (v := (0 : Int32)) hx hb hr rfl hlk hK hw dX6_isSign_25
    · have h := z_t h c
      refine lv_iconst (v := 1) hx hb dX6_isSign_20 (by decide) ?_
      refine lv_goto (tgt := 25) hx hb dX6_isSign_21 (by decide) ?_
      have hy := Option.some.inj h
      rw [← hQz, ← hy]
      exact xr_i (v := (1 : Int32)) hx hb hr rfl hlk hK hw dX6_isSign_25

def f_X0_add (nc_me : Nat) (ns_me : Nat) (o_me : Ob) (p0 : Int32) (p1 : Int32) : Option (Int32 × Ob) :=
  if (gI o_me 8) < (Int32.ofNat ns_me) then
  (zgd (zin (gI o_me 8) ns_me) <|
  zlt (tA o_me 5 (gI o_me 8).toNatClampNeg p0) fun o2 =>
  zgd (zin (gI o2 8) ns_me) <|
  zlt (tA o2 6 (gI o2 8).toNatClampNeg p1) fun o4 =>
  zlt (sI o4 8 ((gI o4 8) + (1 : Int32))) fun o5 =>
  some ((gI o5 8) - (1 : Int32), o5))
  else
  (some ((-1 : Int32), o_me))
set_option maxHeartbeats 4000000 in
set_option maxRecDepth 100000 in
theorem m_X0_add (l : Launch) (dC : Nat → ClassId) (dI : Nat → Nat → Nat) (sz : Nat) (h_me : Nat) (q_me : Nat → Nat) (k_me : Nat → ClassId) (nc_me : Nat) (ns_me : Nat) (o_me : Ob) (p0 : Int32) (p1 : Int32) (y : Int32 × Ob) (h : f_X0_add nc_me ns_me o_me p0 p1 = some y) : CI l yX0_add cX0_add 3 (some .int) ({ frames := 0, cells := 0, slots := 0, locals := 0 } : Room) dC dI sz [.ref h_me, .int p0, .int p1] [wX0 h_me nc_me ns_me q_me k_me o_me] [tX0 k_me] y.1 [wX0 h_me nc_me ns_me q_me k_me y.2] := by
  refine CC_of (by decide) (Nat.le_of_ble_eq_true rfl) ?_
  intro p e s m below meth c A ls hx hb hml hr hlk hnm hown hts hX hK hP hD hA hl
  have hl : lv_has ls 3 [(0, .ref h_me), (1, .int p0), (2, .int p1)] := hl
  have hown : s.vm.findClass RX0 = some m.cls := hown
  have hw : Wd dC dI A s.heap [wX0 h_me nc_me ns_me q_me k_me o_me] s.heap [] := ⟨hP, hD, va_S.rf⟩
  generalize hQz : (MQ below (QI dC dI (fun r (_ : Unit) => r = y.1) (fun _ => Jn [wX0 h_me nc_me ns_me q_me k_me y.2]) (fun _ => Jt [tX0 k_me]) A) ([.ref h_me, .int p0, .int p1] : List Value).toArray s 0 0 A) = Qz
  clear hP hD hnm
  unfold f_X0_add at h
  refine lv_aload_n hx hb dX0_add_0 rfl (lv_at hl 0 rfl) ?_
  refine fgX0_8 hx hb hts hown hK hw 0 rfl kw178 dX0_add_1 ?_
  refine lv_aload_n hx hb dX0_add_4 rfl (lv_at hl 0 rfl) ?_
  refine fgX0_5 hx hb hts hown hK hw 0 rfl kw170 dX0_add_5 ?_
  refine fnX0_5 hx hb hK hw 0 rfl rfl dX0_add_8 ?_
  refine lv_icmp_lt (tgt := 14) hx hb dX0_add_9 (by decide) (fun c => ?_) (fun c => ?_)
  · have h := z_t h c
    refine lv_aload_n hx hb dX0_add_14 rfl (lv_at hl 0 rfl) ?_
    refine fgX0_5 hx hb hts hown hK hw 0 rfl kw170 dX0_add_15 ?_
    refine lv_aload_n hx hb dX0_add_18 rfl (lv_at hl 0 rfl) ?_
    refine fgX0_8 hx hb hts hown hK hw 0 rfl kw178 dX0_add_19 ?_
    refine lv_iload_n hx hb dX0_add_22 rfl (lv_at hl 1 rfl) ?_
    obtain ⟨g1, h⟩ := z_gd h
    refine fbX0_5 hx hb hK hw 0 rfl rfl g1 dX0_add_23 (fun H locs hw => ?_)
    obtain ⟨o2, eo2, h⟩ := z_lt h
    have hw : Wd dC dI A s.heap [wX0 h_me nc_me ns_me q_me k_me o2] H locs := by rw [eo2]; exact hw
    refine lv_aload_n hx hb dX0_add_24 rfl (lv_at hl 0 rfl) ?_
    refine fgX0_6 hx hb hts hown hK hw 0 rfl kw172 dX0_add_25 ?_
    refine lv_aload_n hx hb dX0_add_28 rfl (lv_at hl 0 rfl) ?_
    refine fgX0_8 hx hb hts hown hK hw 0 rfl kw178 dX0_add_29 ?_
    refine lv_iload_n hx hb dX0_add_32 rfl (lv_at hl 2 rfl) ?_
    obtain ⟨g3, h⟩ := z_gd h
    refine fbX0_6 hx hb hK hw 0 rfl rfl g3 dX0_add_33 (fun H locs hw => ?_)
    obtain ⟨o4, eo4, h⟩ := z_lt h
    have hw : Wd dC dI A s.heap [wX0 h_me nc_me ns_me q_me k_me o4] H locs := by rw [eo4]; exact hw
    refine lv_aload_n hx hb dX0_add_34 rfl (lv_at hl 0 rfl) ?_
    refine lv_dup hx hb dX0_add_35 rfl ?_
    refine fgX0_8 hx hb hts hown hK hw 0 rfl kw178 dX0_add_36 ?_
    refine lv_iconst (v := 1) hx hb dX0_add_39 (by decide) ?_
    refine lv_iadd hx hb dX0_add_40 ?_
    refine fpX0_8 hx hb hts hown hK hw 0 rfl kw178 dX0_add_41 (fun H locs hw => ?_)
    obtain ⟨o5, eo5, h⟩ := z_lt h
    have hw : Wd dC dI A s.heap [wX0 h_me nc_me ns_me q_me k_me o5] H locs := by rw [eo5]; exact hw
    refine lv_aload_n hx hb dX0_add_44 rfl (lv_at hl 0 rfl) ?_
    refine fgX0_8 hx hb hts hown hK hw 0 rfl kw178 dX0_add_45 ?_
    refine lv_iconst (v := 1) hx hb dX0_add_48 (by decide) ?_
    refine lv_isub hx hb dX0_add_49 ?_
    have hy := Option.some.inj h
    rw [← hQz, ← hy]
    exact xr_i (v := (gI o5 8) - (1 : Int32)) hx hb hr rfl hlk hK hw dX0_add_50
  · have h := z_f h c
    refine lv_iconst (v := (-1)) hx hb dX0_add_12 (by decide) ?_
    have hy := Option.some.inj h
    rw [← hQz, ← hy]
    exact xr_i (v := (-1 : Int32)) hx hb hr rfl hlk hK hw dX0_add_13

def bk_X3_wordOfPerson_11   (v1 : Int32) (s0 : Int32) : Option (Int32) :=
  some (s0 + v1)
def f_X3_wordOfPerson (p0 : Int32) (p1 : Int32) : Option (Int32) :=
  if p0 = (5 : Int32) then
  (bk_X3_wordOfPerson_11   p1 (5 : Int32))
  else
  (bk_X3_wordOfPerson_11   p1 (12 : Int32))
set_option maxHeartbeats 4000000 in
set_option maxRecDepth 100000 in
theorem m_X3_wordOfPerson (l : Launch) (dC : Nat → ClassId) (dI : Nat → Nat → Nat) (sz : Nat)  (p0 : Int32) (p1 : Int32) (y : Int32) (h : f_X3_wordOfPerson p0 p1 = some y) : CI l yX3_wordOfPerson cX3_wordOfPerson 2 (some .int) ({ frames := 0, cells := 0, slots := 0, locals := 0 } : Room) dC dI sz [.int p0, .int p1] [] [] y [] := by
  refine CC_of (by decide) (Nat.le_of_ble_eq_true rfl) ?_
  intro p e s m below meth c A ls hx hb hml hr hlk hnm hown hts hX hK hP hD hA hl
  have hl : lv_has ls 2 [(0, .int p0), (1, .int p1)] := hl
  have hown : s.vm.findClass RX3 = some m.cls := hown
  have hw : Wd dC dI A s.heap [] s.heap [] := ⟨hP, hD, va_S.rf⟩
  generalize hQz : (MQ below (QI dC dI (fun r (_ : Unit) => r = y) (fun _ => Jn []) (fun _ => Jt []) A) ([.int p0, .int p1] : List Value).toArray s 0 0 A) = Qz
  clear hP hD hnm
  have bk_11_0 : ∀ (v1 : Int32) (s0 : Int32) (H : Heap) (locs : List Loc) (ls : Array Slot), bk_X3_wordOfPerson_11   v1 s0 = some y → Wd dC dI A s.heap [] H locs → lv_has ls 2 [(1, .int v1)] → W p l e ({ frames := 0, cells := 0, slots := 0, locals := 0 } : Room) s m ([.int p0, .int p1] : List Value).toArray below meth c H locs 0 0 Qz (F0 m 11 ls [.int s0]) := by
    intro v1 s0 H locs ls h hw hl
    unfold bk_X3_wordOfPerson_11 at h
    refine lv_iload_n hx hb dX3_wordOfPerson_11 rfl (lv_at hl 0 rfl) ?_
    refine lv_iadd hx hb dX3_wordOfPerson_12 ?_
    have hy := Option.some.inj h
    rw [← hQz, ← hy]
    exact xr_i (v := s0 + v1) hx hb hr rfl hlk hK hw dX3_wordOfPerson_13
  unfold f_X3_wordOfPerson at h
  refine lv_iload_n hx hb dX3_wordOfPerson_0 rfl (lv_at hl 0 rfl) ?_
  refine lv_iconst (v := 5) hx hb dX3_wordOfPerson_1 (by decide) ?_
  refine lv_icmp_ne (tgt := 9) hx hb dX3_wordOfPerson_2 (by decide) (fun c => ?_) (fun c => ?_)
  · have h := z_f h c
    refine lv_bipush (v := 12) hx hb dX3_wordOfPerson_9 (by decide) ?_
    exact bk_11_0  p1 (12 : Int32) _ _ _ h hw (lv_sub hl [1] rfl)
  · have h := z_t h c
    refine lv_iconst (v := 5) hx hb dX3_wordOfPerson_5 (by decide) ?_
    refine lv_goto (tgt := 11) hx hb dX3_wordOfPerson_6 (by decide) ?_
    exact bk_11_0  p1 (5 : Int32) _ _ _ h hw (lv_sub hl [1] rfl)

def bk_X6_readSinglePart_115 (nc_me_code : Nat) (ns_me_code : Nat)  (v2 : Int32) (o_me : Ob) (o_me_code : Ob) : Option (Int32 × Ob × Ob) :=
  (f_X0_add nc_me_code ns_me_code o_me_code (1 : Int32) v2).bind fun z4 =>
  some ((1 : Int32), o_me, z4.2)
def bk_X6_readSinglePart_144 (nc_me_code : Nat) (ns_me_code : Nat)  (o_me : Ob) (o_me_code : Ob) : Option (Int32 × Ob × Ob) :=
  (f_X6_stop o_me).bind fun z5 =>
  zgd (zbo z5.1) <|
  some (z5.1, z5.2, o_me_code)
def bk_X6_readSinglePart_61 (nc_me_code : Nat) (ns_me_code : Nat)  (o_me : Ob) (o_me_code : Ob) : Option (Int32 × Ob × Ob) :=
  (f_X6_stop o_me).bind fun z12 =>
  zgd (zbo z12.1) <|
  some (z12.1, z12.2, o_me_code)
def bk_X6_readSinglePart_52 (nc_me_code : Nat) (ns_me_code : Nat)  (v1 : Int32) (v2 : Int32) (o_me : Ob) (o_me_code : Ob) : Option (Int32 × Ob × Ob) :=
  if (gI o_me 5) < (50 : Int32) then
  (zlt (sI o_me 5 ((gI o_me 5) + (1 : Int32))) fun o2 =>
  if v1 = (0 : Int32) then
  ((f_X6_step o2).bind fun z3 =>
  if (gI z3 4) = (0 : Int32) then
  (if (5 : Int32) ≤ v2 then
  (if (gI z3 6) = (2 : Int32) then
  (if (gI z3 9) < (7 : Int32) then
  ((f_X3_wordOfPerson v2 (gI z3 9)).bind fun z7 =>
  (f_X0_add nc_me_code ns_me_code o_me_code (1 : Int32) z7).bind fun z8 =>
  (f_X6_step z3).bind fun z9 =>
  some ((1 : Int32), z9, z8.2))
  else
  (bk_X6_readSinglePart_144 nc_me_code ns_me_code  z3 o_me_code))
  else
  (bk_X6_readSinglePart_144 nc_me_code ns_me_code  z3 o_me_code))
  else
  (bk_X6_readSinglePart_115 nc_me_code ns_me_code  v2 z3 o_me_code))
  else
  (bk_X6_readSinglePart_115 nc_me_code ns_me_code  v2 z3 o_me_code))
  else
  ((f_X0_add nc_me_code ns_me_code o_me_code (0 : Int32) (gI o2 9)).bind fun z10 =>
  (f_X6_step o2).bind fun z11 =>
  some ((1 : Int32), z11, z10.2)))
  else
  (bk_X6_readSinglePart_61 nc_me_code ns_me_code  o_me o_me_code)
def bk_X6_readSinglePart_39 (nc_me_code : Nat) (ns_me_code : Nat)  (v1 : Int32) (s0 : Nat) (o_me : Ob) (o_me_code : Ob) : Option (Int32 × Ob × Ob) :=
  (f_X6_wordOf o_me s0).bind fun z1 =>
  if v1 = (0 : Int32) then
  (if z1 = (-1 : Int32) then
  (bk_X6_readSinglePart_61 nc_me_code ns_me_code  o_me o_me_code)
  else
  (bk_X6_readSinglePart_52 nc_me_code ns_me_code  v1 z1 o_me o_me_code))
  else
  (bk_X6_readSinglePart_52 nc_me_code ns_me_code  v1 z1 o_me o_me_code)
def bk_X6_readSinglePart_23 (nc_me_code : Nat) (ns_me_code : Nat)  (s0 : Int32) (o_me : Ob) (o_me_code : Ob) : Option (Int32 × Ob × Ob) :=
  if (gI o_me 4) = (0 : Int32) then
  (bk_X6_readSinglePart_39 nc_me_code ns_me_code  s0 8 o_me o_me_code)
  else
  (bk_X6_readSinglePart_39 nc_me_code ns_me_code  s0 7 o_me o_me_code)
def bk_X6_readSinglePart_22 (nc_me_code : Nat) (ns_me_code : Nat)  (o_me : Ob) (o_me_code : Ob) : Option (Int32 × Ob × Ob) :=
  bk_X6_readSinglePart_23 nc_me_code ns_me_code  (0 : Int32) o_me o_me_code
def f_X6_readSinglePart (nc_me_code : Nat) (ns_me_code : Nat) (o_me : Ob) (o_me_code : Ob) : Option (Int32 × Ob × Ob) :=
  if (gI o_me 6) = (2 : Int32) then
  (if (1000 : Int32) < (gI o_me 9) then
  (bk_X6_readSinglePart_22 nc_me_code ns_me_code  o_me o_me_code)
  else
  (bk_X6_readSinglePart_23 nc_me_code ns_me_code  (1 : Int32) o_me o_me_code))
  else
  (bk_X6_readSinglePart_22 nc_me_code ns_me_code  o_me o_me_code)
set_option maxHeartbeats 4000000 in
set_option maxRecDepth 100000 in
theorem m_X6_readSinglePart (l : Launch) (dC : Nat → ClassId) (dI : Nat → Nat → Nat) (sz : Nat) (h_me : Nat) (h_me_code : Nat) (q_me : Nat → Nat) (k_me : Nat → ClassId) (q_me_code : Nat → Nat) (k_me_code : Nat → ClassId) (nc_me_code : Nat) (ns_me_code : Nat) (o_me : Ob) (o_me_code : Ob) (y : Int32 × Ob × Ob) (h : f_X6_readSinglePart nc_me_code ns_me_code o_me o_me_code = some y) : CI l yX6_readSinglePart cX6_readSinglePart 3 (some .boolean) ({ frames := 6, cells := 0, slots := 0, locals := 134 } : Room) dC dI sz [.ref h_me] [wX6 h_me h_me_code q_me k_me o_me, wX0 h_me_code nc_me_code ns_me_code q_me_code k_me_code o_me_code] [tX6 k_me, tX0 k_me_code] y.1 [wX6 h_me h_me_code q_me k_me y.2.1, wX0 h_me_code nc_me_code ns_me_code q_me_code k_me_code y.2.2] := by
  refine CC_of (by decide) (Nat.le_of_ble_eq_true rfl) ?_
  intro p e s m below meth c A ls hx hb hml hr hlk hnm hown hts hX hK hP hD hA hl
  have hl : lv_has ls 3 [(0, .ref h_me)] := hl
  have hown : s.vm.findClass RX6 = some m.cls := hown
  have hw : Wd dC dI A s.heap [wX6 h_me h_me_code q_me k_me o_me, wX0 h_me_code nc_me_code ns_me_code q_me_code k_me_code o_me_code] s.heap [] := ⟨hP, hD, va_S.rf⟩
  generalize hQz : (MQ below (QI dC dI (fun r (_ : Unit) => r = y.1) (fun _ => Jn [wX6 h_me h_me_code q_me k_me y.2.1, wX0 h_me_code nc_me_code ns_me_code q_me_code k_me_code y.2.2]) (fun _ => Jt [tX6 k_me, tX0 k_me_code]) A) ([.ref h_me] : List Value).toArray s 0 0 A) = Qz
  clear hP hD hnm
  have bk_115_4 : ∀ (v2 : Int32) (o_me : Ob) (o_me_code : Ob) (H : Heap) (locs : List Loc) (ls : Array Slot), bk_X6_readSinglePart_115 nc_me_code ns_me_code  v2 o_me o_me_code = some y → Wd dC dI A s.heap [wX6 h_me h_me_code q_me k_me o_me, wX0 h_me_code nc_me_code ns_me_code q_me_code k_me_code o_me_code] H locs → lv_has ls 3 [(0, .ref h_me), (2, .int v2)] → W p l e ({ frames := 6, cells := 0, slots := 0, locals := 134 } : Room) s m ([.ref h_me] : List Value).toArray below meth c H locs 0 0 Qz (F0 m 115 ls []) := by
    intro v2 o_me o_me_code H locs ls h hw hl
    unfold bk_X6_readSinglePart_115 at h
    refine lv_aload_n hx hb dX6_readSinglePart_115 rfl (lv_at hl 0 rfl) ?_
    refine fgX6_1 hx hb hts hown hK hw 0 rfl kw202 dX6_readSinglePart_116 ?_
    refine lv_iconst (v := 1) hx hb dX6_readSinglePart_119 (by decide) ?_
    refine lv_iload_n hx hb dX6_readSinglePart_120 rfl (lv_at hl 1 rfl) ?_
    obtain ⟨z4, ez4, h⟩ := z_bd h
    refine xj_i (xrV (As := [.int (1 : Int32), .int v2]) (rest := []) ⟨hx, hb, hml, hown, hts⟩ (m_X0_add l dC dI _ h_me_code q_me_code k_me_code nc_me_code ns_me_code o_me_code (1 : Int32) v2 z4 ez4) kw775 kw772 kw773 kw774 kw112 hd_X0_add ⟨rfl, rfl⟩ rfl rfl ⟨rfl, rfl⟩ hX hK hw [1] (by decide) rfl rfl rfl rfl rfl hl.1 rfl rfl dX6_readSinglePart_121) hw hA [1] (by decide) rfl rfl (fun H locs hw => ?_)
    have hw : Wd dC dI A s.heap [wX6 h_me h_me_code q_me k_me o_me, wX0 h_me_code nc_me_code ns_me_code q_me_code k_me_code z4.2] H locs := hw
    refine lv_pop hx hb dX6_readSinglePart_124 rfl ?_
    refine lv_iconst (v := 1) hx hb dX6_readSinglePart_125 (by decide) ?_
    have hy := Option.some.inj h
    rw [← hQz, ← hy]
    exact xr_i (v := (1 : Int32)) hx hb hr rfl hlk hK hw dX6_readSinglePart_126
  have bk_144_5 : ∀ (o_me : Ob) (o_me_code : Ob) (H : Heap) (locs : List Loc) (ls : Array Slot), bk_X6_readSinglePart_144 nc_me_code ns_me_code  o_me o_me_code = some y → Wd dC dI A s.heap [wX6 h_me h_me_code q_me k_me o_me, wX0 h_me_code nc_me_code ns_me_code q_me_code k_me_code o_me_code] H locs → lv_has ls 3 [(0, .ref h_me)] → W p l e ({ frames := 6, cells := 0, slots := 0, locals := 134 } : Room) s m ([.ref h_me] : List Value).toArray below meth c H locs 0 0 Qz (F0 m 144 ls []) := by
    intro o_me o_me_code H locs ls h hw hl
    unfold bk_X6_readSinglePart_144 at h
    refine lv_aload_n hx hb dX6_readSinglePart_144 rfl (lv_at hl 0 rfl) ?_
    obtain ⟨z5, ez5, h⟩ := z_bd h
    refine xj_i (xrV (As := []) (rest := []) ⟨hx, hb, hml, hown, hts⟩ (m_X6_stop l dC dI _ h_me h_me_code q_me k_me o_me z5 ez5) kw749 kw746 kw748 kw9 kw111 hd_X6_stop ⟨rfl, rfl⟩ rfl rfl ⟨rfl, rfl⟩ hX hK hw [0] (by decide) rfl rfl rfl rfl rfl hl.1 rfl rfl dX6_readSinglePart_145) hw hA [0] (by decide) rfl rfl (fun H locs hw => ?_)
    have hw : Wd dC dI A s.heap [wX6 h_me h_me_code q_me k_me z5.2, wX0 h_me_code nc_me_code ns_me_code q_me_code k_me_code o_me_code] H locs := hw
    obtain ⟨g6, h⟩ := z_gd h
    have hy := Option.some.inj h
    rw [← hQz, ← hy]
    exact xr_i (v := z5.1) hx hb hr (z_nar g6) hlk hK hw dX6_readSinglePart_148
  have bk_61_6 : ∀ (o_me : Ob) (o_me_code : Ob) (H : Heap) (locs : List Loc) (ls : Array Slot), bk_X6_readSinglePart_61 nc_me_code ns_me_code  o_me o_me_code = some y → Wd dC dI A s.heap [wX6 h_me h_me_code q_me k_me o_me, wX0 h_me_code nc_me_code ns_me_code q_me_code k_me_code o_me_code] H locs → lv_has ls 3 [(0, .ref h_me)] → W p l e ({ frames := 6, cells := 0, slots := 0, locals := 134 } : Room) s m ([.ref h_me] : List Value).toArray below meth c H locs 0 0 Qz (F0 m 61 ls []) := by
    intro o_me o_me_code H locs ls h hw hl
    unfold bk_X6_readSinglePart_61 at h
    refine lv_aload_n hx hb dX6_readSinglePart_61 rfl (lv_at hl 0 rfl) ?_
    obtain ⟨z12, ez12, h⟩ := z_bd h
    refine xj_i (xrV (As := []) (rest := []) ⟨hx, hb, hml, hown, hts⟩ (m_X6_stop l dC dI _ h_me h_me_code q_me k_me o_me z12 ez12) kw749 kw746 kw748 kw9 kw111 hd_X6_stop ⟨rfl, rfl⟩ rfl rfl ⟨rfl, rfl⟩ hX hK hw [0] (by decide) rfl rfl rfl rfl rfl hl.1 rfl rfl dX6_readSinglePart_62) hw hA [0] (by decide) rfl rfl (fun H locs hw => ?_)
    have hw : Wd dC dI A s.heap [wX6 h_me h_me_code q_me k_me z12.2, wX0 h_me_code nc_me_code ns_me_code q_me_code k_me_code o_me_code] H locs := hw
    obtain ⟨g13, h⟩ := z_gd h
    have hy := Option.some.inj h
    rw [← hQz, ← hy]
    exact xr_i (v := z12.1) hx hb hr (z_nar g13) hlk hK hw dX6_readSinglePart_65
  have bk_52_3 : ∀ (v1 : Int32) (v2 : Int32) (o_me : Ob) (o_me_code : Ob) (H : Heap) (locs : List Loc) (ls : Array Slot), bk_X6_readSinglePart_52 nc_me_code ns_me_code  v1 v2 o_me o_me_code = some y → Wd dC dI A s.heap [wX6 h_me h_me_code q_me k_me o_me, wX0 h_me_code nc_me_code ns_me_code q_me_code k_me_code o_me_code] H locs → lv_has ls 3 [(0, .ref h_me), (1, .int v1), (2, .int v2)] → W p l e ({ frames := 6, cells := 0, slots := 0, locals := 134 } : Room) s m ([.ref h_me] : List Value).toArray below meth c H locs 0 0 Qz (F0 m 52 ls []) := by
    intro v1 v2 o_me o_me_code H locs ls h hw hl
    unfold bk_X6_readSinglePart_52 at h
    refine lv_aload_n hx hb dX6_readSinglePart_52 rfl (lv_at hl 0 rfl) ?_
    refine fgX6_5 hx hb hts hown hK hw 0 rfl kw209 dX6_readSinglePart_53 ?_
    refine lv_bipush (v := 50) hx hb dX6_readSinglePart_56 (by decide) ?_
    refine lv_icmp_lt (tgt := 66) hx hb dX6_readSinglePart_58 (by decide) (fun c => ?_) (fun c => ?_)
    · have h := z_t h c
      refine lv_aload_n hx hb dX6_readSinglePart_66 rfl (lv_at hl 0 rfl) ?_
      refine lv_dup hx hb dX6_readSinglePart_67 rfl ?_
      refine fgX6_5 hx hb hts hown hK hw 0 rfl kw209 dX6_readSinglePart_68 ?_
      refine lv_iconst (v := 1) hx hb dX6_readSinglePart_71 (by decide) ?_
      refine lv_iadd hx hb dX6_readSinglePart_72 ?_
      refine fpX6_5 hx hb hts hown hK hw 0 rfl kw209 dX6_readSinglePart_73 (fun H locs hw => ?_)
      obtain ⟨o2, eo2, h⟩ := z_lt h
      have hw : Wd dC dI A s.heap [wX6 h_me h_me_code q_me k_me o2, wX0 h_me_code nc_me_code ns_me_code q_me_code k_me_code o_me_code] H locs := by rw [eo2]; exact hw
      refine lv_iload_n hx hb dX6_readSinglePart_76 rfl (lv_at hl 1 rfl) ?_
      refine lv_if_eq (tgt := 99) hx hb dX6_readSinglePart_77 (by decide) (fun c => ?_) (fun c => ?_)
      · have h := z_t h c
        refine lv_aload_n hx hb dX6_readSinglePart_99 rfl (lv_at hl 0 rfl) ?_
        obtain ⟨z3, ez3, h⟩ := z_bd h
        refine xj_v (xrV (As := []) (rest := []) ⟨hx, hb, hml, hown, hts⟩ (m_X6_step l dC dI _ h_me h_me_code q_me k_me o2 z3 ez3) kw675 kw672 kw674 kw5 kw111 hd_X6_step ⟨rfl, rfl⟩ rfl rfl ⟨rfl, rfl⟩ hX hK hw [0] (by decide) rfl rfl rfl rfl rfl hl.1 rfl rfl dX6_readSinglePart_100) hw hA [0] (by decide) rfl rfl (fun H locs hw => ?_)
        have hw : Wd dC dI A s.heap [wX6 h_me h_me_code q_me k_me z3, wX0 h_me_code nc_me_code ns_me_code q_me_code k_me_code o_me_code] H locs := hw
        refine lv_aload_n hx hb dX6_readSinglePart_103 rfl (lv_at hl 0 rfl) ?_
        refine fgX6_4 hx hb hts hown hK hw 0 rfl kw208 dX6_readSinglePart_104 ?_
        refine lv_if_ne (tgt := 115) hx hb dX6_readSinglePart_107 (by decide) (fun c => ?_) (fun c => ?_)
        · have h := z_f h c
          exact bk_115_4  v2 z3 o_me_code _ _ _ h hw (lv_sub hl [0, 2] rfl)
        · have h := z_t h c
          refine lv_iload_n hx hb dX6_readSinglePart_110 rfl (lv_at hl 2 rfl) ?_
          refine lv_iconst (v := 5) hx hb dX6_readSinglePart_111 (by decide) ?_
          refine lv_icmp_ge (tgt := 127) hx hb dX6_readSinglePart_112 (by decide) (fun c => ?_) (fun c => ?_)
          · have h := z_t h c
            refine lv_aload_n hx hb dX6_readSinglePart_127 rfl (lv_at hl 0 rfl) ?_
            refine fgX6_6 hx hb hts hown hK hw 0 rfl kw210 dX6_readSinglePart_128 ?_
            refine lv_iconst (v := 2) hx hb dX6_readSinglePart_131 (by decide) ?_
            refine lv_icmp_ne (tgt := 144) hx hb dX6_readSinglePart_132 (by decide) (fun c => ?_) (fun c => ?_)
            · have h := z_f h c
              exact bk_144_5  z3 o_me_code _ _ _ h hw (lv_sub hl [0] rfl)
            · have h := z_t h c
              refine lv_aload_n hx hb dX6_readSinglePart_135 rfl (lv_at hl 0 rfl) ?_
              refine fgX6_9 hx hb hts hown hK hw 0 rfl kw213 dX6_readSinglePart_136 ?_
              refine lv_bipush (v := 7) hx hb dX6_readSinglePart_139 (by decide) ?_
              refine lv_icmp_lt (tgt := 149) hx hb dX6_readSinglePart_141 (by decide) (fun c => ?_) (fun c => ?_)
              · have h := z_t h c
                refine lv_aload_n hx hb dX6_readSinglePart_149 rfl (lv_at hl 0 rfl) ?_
                refine fgX6_1 hx hb hts hown hK hw 0 rfl kw202 dX6_readSinglePart_150 ?_
                refine lv_iconst (v := 1) hx hb dX6_readSinglePart_153 (by decide) ?_
                refine lv_iload_n hx hb dX6_readSinglePart_154 rfl (lv_at hl 2 rfl) ?_
                refine lv_aload_n hx hb dX6_readSinglePart_155 rfl (lv_at hl 0 rfl) ?_
                refine fgX6_9 hx hb hts hown hK hw 0 rfl kw213 dX6_readSinglePart_156 ?_
                obtain ⟨z7, ez7, h⟩ := z_bd h
                refine xj_i (xrS (As := [.int v2, .int (gI z3 9)]) (rest := [.int (1 : Int32), .ref h_me_code]) ⟨hx, hb, hml, hown, hts⟩ (m_X3_wordOfPerson l dC dI _  v2 (gI z3 9) z7 ez7) kw778 kw776 kw777 kw114 hd_X3_wordOfPerson ⟨rfl, rfl⟩ rfl rfl ⟨rfl, rfl⟩ hX hK hw [] (by decide) rfl rfl hl.1 rfl rfl dX6_readSinglePart_159) hw hA [] (by decide) rfl rfl (fun H locs hw => ?_)
                obtain ⟨z8, ez8, h⟩ := z_bd h
                refine xj_i (xrV (As := [.int (1 : Int32), .int z7]) (rest := []) ⟨hx, hb, hml, hown, hts⟩ (m_X0_add l dC dI _ h_me_code q_me_code k_me_code nc_me_code ns_me_code o_me_code (1 : Int32) z7 z8 ez8) kw775 kw772 kw773 kw774 kw112 hd_X0_add ⟨rfl, rfl⟩ rfl rfl ⟨rfl, rfl⟩ hX hK hw [1] (by decide) rfl rfl rfl rfl rfl hl.1 rfl rfl dX6_readSinglePart_162) hw hA [1] (by decide) rfl rfl (fun H locs hw => ?_)
                have hw : Wd dC dI A s.heap [wX6 h_me h_me_code q_me k_me z3, wX0 h_me_code nc_me_code ns_me_code q_me_code k_me_code z8.2] H locs := hw
                refine lv_pop hx hb dX6_readSinglePart_165 rfl ?_
                refine lv_aload_n hx hb dX6_readSinglePart_166 rfl (lv_at hl 0 rfl) ?_
                obtain ⟨z9, ez9, h⟩ := z_bd h
                refine xj_v (xrV (As := []) (rest := []) ⟨hx, hb, hml, hown, hts⟩ (m_X6_step l dC dI _ h_me h_me_code q_me k_me z3 z9 ez9) kw675 kw672 kw674 kw5 kw111 hd_X6_step ⟨rfl, rfl⟩ rfl rfl ⟨rfl, rfl⟩ hX hK hw [0] (by decide) rfl rfl rfl rfl rfl hl.1 rfl rfl dX6_readSinglePart_167) hw hA [0] (by decide) rfl rfl (fun H locs hw => ?_)
                have hw : Wd dC dI A s.heap [wX6 h_me h_me_code q_me k_me z9, wX0 h_me_code nc_me_code ns_me_code q_me_code k_me_code z8.2] H locs := hw
                refine lv_iconst (v := 1) hx hb dX6_readSinglePart_170 (by decide) ?_
                have hy := Option.some.inj h
                rw [← hQz, ← hy]
                exact xr_i (v := (1 : Int32)) hx hb hr rfl hlk hK hw dX6_readSinglePart_171
              · have h := z_f h c
                exact bk_144_5  z3 o_me_code _ _ _ h hw (lv_sub hl [0] rfl)
          · have h := z_f h c
            exact bk_115_4  v2 z3 o_me_code _ _ _ h hw (lv_sub hl [0, 2] rfl)
      · have h := z_f h c
        refine lv_aload_n hx hb dX6_readSinglePart_80 rfl (lv_at hl 0 rfl) ?_
        refine fgX6_1 hx hb hts hown hK hw 0 rfl kw202 dX6_readSinglePart_81 ?_
        refine lv_iconst (v := 0) hx hb dX6_readSinglePart_84 (by decide) ?_
        refine lv_aload_n hx hb dX6_readSinglePart_85 rfl (lv_at hl 0 rfl) ?_
        refine fgX6_9 hx hb hts hown hK hw 0 rfl kw213 dX6_readSinglePart_86 ?_
        obtain ⟨z10, ez10, h⟩ := z_bd h
        refine xj_i (xrV (As := [.int (0 : Int32), .int (gI o2 9)]) (rest := []) ⟨hx, hb, hml, hown, hts⟩ (m_X0_add l dC dI _ h_me_code q_me_code k_me_code nc_me_code ns_me_code o_me_code (0 : Int32) (gI o2 9) z10 ez10) kw775 kw772 kw773 kw774 kw112 hd_X0_add ⟨rfl, rfl⟩ rfl rfl ⟨rfl, rfl⟩ hX hK hw [1] (by decide) rfl rfl rfl rfl rfl hl.1 rfl rfl dX6_readSinglePart_89) hw hA [1] (by decide) rfl rfl (fun H locs hw => ?_)
        have hw : Wd dC dI A s.heap [wX6 h_me h_me_code q_me k_me o2, wX0 h_me_code nc_me_code ns_me_code q_me_code k_me_code z10.2] H locs := hw
        refine lv_pop hx hb dX6_readSinglePart_92 rfl ?_
        refine lv_aload_n hx hb dX6_readSinglePart_93 rfl (lv_at hl 0 rfl) ?_
        obtain ⟨z11, ez11, h⟩ := z_bd h
        refine xj_v (xrV (As := []) (rest := []) ⟨hx, hb, hml, hown, hts⟩ (m_X6_step l dC dI _ h_me h_me_code q_me k_me o2 z11 ez11) kw675 kw672 kw674 kw5 kw111 hd_X6_step ⟨rfl, rfl⟩ rfl rfl ⟨rfl, rfl⟩ hX hK hw [0] (by decide) rfl rfl rfl rfl rfl hl.1 rfl rfl dX6_readSinglePart_94) hw hA [0] (by decide) rfl rfl (fun H locs hw => ?_)
        have hw : Wd dC dI A s.heap [wX6 h_me h_me_code q_me k_me z11, wX0 h_me_code nc_me_code ns_me_code q_me_code k_me_code z10.2] H locs := hw
        refine lv_iconst (v := 1) hx hb dX6_readSinglePart_97 (by decide) ?_
        have hy := Option.some.inj h
        rw [← hQz, ← hy]
        exact xr_i (v := (1 : Int32)) hx hb hr rfl hlk hK hw dX6_readSinglePart_98
    · have h := z_f h c
      exact bk_61_6  o_me o_me_code _ _ _ h hw (lv_sub hl [0] rfl)
  have bk_39_2 : ∀ (v1 : Int32) (s0 : Nat) (o_me : Ob) (o_me_code : Ob) (H : Heap) (locs : List Loc) (ls : Array Slot), bk_X6_readSinglePart_39 nc_me_code ns_me_code  v1 s0 o_me o_me_code = some y → Wd dC dI A s.heap [wX6 h_me h_me_code q_me k_me o_me, wX0 h_me_code nc_me_code ns_me_code q_me_code k_me_code o_me_code] H locs → lv_has ls 3 [(0, .ref h_me), (1, .int v1)] → W p l e ({ frames := 6, cells := 0, slots := 0, locals := 134 } : Room) s m ([.ref h_me] : List Value).toArray below meth c H locs 0 0 Qz (F0 m 39 ls [.ref (dI 101 s0), .ref h_me]) := by
    intro v1 s0 o_me o_me_code H locs ls h hw hl
    unfold bk_X6_readSinglePart_39 at h
    obtain ⟨z1, ez1, h⟩ := z_bd h
    refine xj_i (xrV (As := [.ref (dI 101 s0)]) (rest := []) ⟨hx, hb, hml, hown, hts⟩ (m_X6_wordOf l dC dI _ h_me h_me_code q_me k_me o_me s0 z1 ez1) kw693 kw690 kw692 kw7 kw111 hd_X6_wordOf ⟨rfl, rfl⟩ rfl rfl ⟨rfl, rfl⟩ hX hK hw [0] (by decide) rfl rfl rfl rfl rfl hl.1 rfl rfl dX6_readSinglePart_39) hw hA [0] (by decide) rfl rfl (fun H locs hw => ?_)
    have hw : Wd dC dI A s.heap [wX6 h_me h_me_code q_me k_me o_me, wX0 h_me_code nc_me_code ns_me_code q_me_code k_me_code o_me_code] H locs := hw
    refine lv_istore_n (lv' := [(2, .int z1), (0, .ref h_me), (1, .int v1)]) hx hb dX6_readSinglePart_42 rfl hl (by decide) rfl (fun ls hl => ?_)
    refine lv_iload_n hx hb dX6_readSinglePart_43 rfl (lv_at hl 2 rfl) ?_
    refine lv_if_ne (tgt := 52) hx hb dX6_readSinglePart_44 (by decide) (fun c => ?_) (fun c => ?_)
    · have h := z_f h c
      exact bk_52_3  v1 z1 o_me o_me_code _ _ _ h hw (lv_sub hl [1, 2, 0] rfl)
    · have h := z_t h c
      refine lv_iload_n hx hb dX6_readSinglePart_47 rfl (lv_at hl 0 rfl) ?_
      refine lv_iconst (v := (-1)) hx hb dX6_readSinglePart_48 (by decide) ?_
      refine lv_icmp_eq (tgt := 61) hx hb dX6_readSinglePart_49 (by decide) (fun c => ?_) (fun c => ?_)
      · have h := z_t h c
        exact bk_61_6  o_me o_me_code _ _ _ h hw (lv_sub hl [1] rfl)
      · have h := z_f h c
        exact bk_52_3  v1 z1 o_me o_me_code _ _ _ h hw (lv_sub hl [1, 2, 0] rfl)
  have bk_23_1 : ∀ (s0 : Int32) (o_me : Ob) (o_me_code : Ob) (H : Heap) (locs : List Loc) (ls : Array Slot), bk_X6_readSinglePart_23 nc_me_code ns_me_code  s0 o_me o_me_code = some y → Wd dC dI A s.heap [wX6 h_me h_me_code q_me k_me o_me, wX0 h_me_code nc_me_code ns_me_code q_me_code k_me_code o_me_code] H locs → lv_has ls 3 [(0, .ref h_me)] → W p l e ({ frames := 6, cells := 0, slots := 0, locals := 134 } : Room) s m ([.ref h_me] : List Value).toArray below meth c H locs 0 0 Qz (F0 m 23 ls [.int s0]) := by
    intro s0 o_me o_me_code H locs ls h hw hl
    unfold bk_X6_readSinglePart_23 at h
    refine lv_istore_n (lv' := [(1, .int s0), (0, .ref h_me)]) hx hb dX6_readSinglePart_23 rfl hl (by decide) rfl (fun ls hl => ?_)
    refine lv_aload_n hx hb dX6_readSinglePart_24 rfl (lv_at hl 1 rfl) ?_
    refine lv_aload_n hx hb dX6_readSinglePart_25 rfl (lv_at hl 1 rfl) ?_
    refine fgX6_4 hx hb hts hown hK hw 0 rfl kw208 dX6_readSinglePart_26 ?_
    refine lv_if_eq (tgt := 37) hx hb dX6_readSinglePart_29 (by decide) (fun c => ?_) (fun c => ?_)
    · have h := z_t h c
      refine va_ldcS hx hb hown hX.2.2.2.2.2.2.2.2.2.2.2.2.2.2 dX6_readSinglePart_37 ?_
      exact bk_39_2  s0 8 o_me o_me_code _ _ _ h hw (lv_sub hl [1, 0] rfl)
    · have h := z_f h c
      refine va_ldcS hx hb hown hX.2.2.2.2.2.2.2.2.2.2.2.2.2.1 dX6_readSinglePart_32 ?_
      refine lv_goto (tgt := 39) hx hb dX6_readSinglePart_34 (by decide) ?_
      exact bk_39_2  s0 7 o_me o_me_code _ _ _ h hw (lv_sub hl [1, 0] rfl)
  have bk_22_0 : ∀ (o_me : Ob) (o_me_code : Ob) (H : Heap) (locs : List Loc) (ls : Array Slot), bk_X6_readSinglePart_22 nc_me_code ns_me_code  o_me o_me_code = some y → Wd dC dI A s.heap [wX6 h_me h_me_code q_me k_me o_me, wX0 h_me_code nc_me_code ns_me_code q_me_code k_me_code o_me_code] H locs → lv_has ls 3 [(0, .ref h_me)] → W p l e ({ frames := 6, cells := 0, slots := 0, locals := 134 } : Room) s m ([.ref h_me] : List Value).toArray below meth c H locs 0 0 Qz (F0 m 22 ls []) := by
    intro o_me o_me_code H locs ls h hw hl
    unfold bk_X6_readSinglePart_22 at h
    refine lv_iconst (v := 0) hx hb dX6_readSinglePart_22 (by decide) ?_
    exact bk_23_1  (0 : Int32) o_me o_me_code _ _ _ h hw (lv_sub hl [0] rfl)
  unfold f_X6_readSinglePart at h
  refine lv_aload_n hx hb dX6_readSinglePart_0 rfl (lv_at hl 0 rfl) ?_
  refine fgX6_6 hx hb hts hown hK hw 0 rfl kw210 dX6_readSinglePart_1 ?_
  refine lv_iconst (v := 2) hx hb dX6_readSinglePart_4 (by decide) ?_
  refine lv_icmp_ne (tgt := 22) hx hb dX6_readSinglePart_5 (by decide) (fun c => ?_) (fun c => ?_)
  · have h := z_f h c
    exact bk_22_0  o_me o_me_code _ _ _ h hw (lv_sub hl [0] rfl)
  · have h := z_t h c
    refine lv_aload_n hx hb dX6_readSinglePart_8 rfl (lv_at hl 0 rfl) ?_
    refine fgX6_9 hx hb hts hown hK hw 0 rfl kw213 dX6_readSinglePart_9 ?_
    refine lv_sipush (v := 1000) hx hb dX6_readSinglePart_12 (by decide) ?_
    refine lv_icmp_gt (tgt := 22) hx hb dX6_readSinglePart_15 (by decide) (fun c => ?_) (fun c => ?_)
    · have h := z_t h c
      exact bk_22_0  o_me o_me_code _ _ _ h hw (lv_sub hl [0] rfl)
    · have h := z_f h c
      refine lv_iconst (v := 1) hx hb dX6_readSinglePart_18 (by decide) ?_
      refine lv_goto (tgt := 23) hx hb dX6_readSinglePart_19 (by decide) ?_
      exact bk_23_1  (1 : Int32) o_me o_me_code _ _ _ h hw (lv_sub hl [0] rfl)

def f_X6_readPart (rS : Ob → Ob → Int32 → Option (Int32 × Ob × Ob)) (nc_me_code : Nat) (ns_me_code : Nat) (o_me : Ob) (o_me_code : Ob) (p0 : Int32) : Option (Int32 × Ob × Ob) :=
  (f_X6_isSign o_me (91 : Int32)).bind fun z1 =>
  if z1 = (0 : Int32) then
  ((f_X6_readSinglePart nc_me_code ns_me_code o_me o_me_code).bind fun z10 =>
  zgd (zbo z10.1) <|
  some (z10.1, z10.2.1, z10.2.2))
  else
  (if p0 < (8 : Int32) then
  ((f_X6_step o_me).bind fun z2 =>
  (rS z2 o_me_code (p0 + (1 : Int32))).bind fun z3 =>
  if z3.1 = (0 : Int32) then
  (some ((0 : Int32), z3.2.1, z3.2.2))
  else
  ((f_X6_isSign z3.2.1 (93 : Int32)).bind fun z4 =>
  if z4 = (0 : Int32) then
  ((f_X6_stop z3.2.1).bind fun z6 =>
  zgd (zbo z6.1) <|
  some (z6.1, z6.2, z3.2.2))
  else
  ((f_X6_step z3.2.1).bind fun z5 =>
  some ((1 : Int32), z5, z3.2.2))))
  else
  ((f_X6_stop o_me).bind fun z8 =>
  zgd (zbo z8.1) <|
  some (z8.1, z8.2, o_me_code)))
set_option maxHeartbeats 4000000 in
set_option maxRecDepth 100000 in
theorem m_X6_readPart (l : Launch) (dC : Nat → ClassId) (dI : Nat → Nat → Nat) (sz : Nat) (h_me : Nat) (h_me_code : Nat) (q_me : Nat → Nat) (k_me : Nat → ClassId) (q_me_code : Nat → Nat) (k_me_code : Nat → ClassId) (nc_me_code : Nat) (ns_me_code : Nat) (rS : Ob → Ob → Int32 → Option (Int32 × Ob × Ob)) (FR LC : Nat) (hrS : ∀ (sz : Nat) (o_me : Ob) (o_me_code : Ob) (p0 : Int32) (y : Int32 × Ob × Ob), rS o_me o_me_code p0 = some y → CI l yX6_readSum cX6_readSum 4 (some .boolean) ({ frames := FR, cells := 0, slots := 0, locals := LC } : Room) dC dI sz [.ref h_me, .int p0] [wX6 h_me h_me_code q_me k_me o_me, wX0 h_me_code nc_me_code ns_me_code q_me_code k_me_code o_me_code] [tX6 k_me, tX0 k_me_code] y.1 [wX6 h_me h_me_code q_me k_me y.2.1, wX0 h_me_code nc_me_code ns_me_code q_me_code k_me_code y.2.2]) (o_me : Ob) (o_me_code : Ob) (p0 : Int32) (y : Int32 × Ob × Ob) (h : f_X6_readPart rS nc_me_code ns_me_code o_me o_me_code p0 = some y) : CI l yX6_readPart cX6_readPart 2 (some .boolean) ({ frames := FR + 7, cells := 0, slots := 0, locals := LC + 156 } : Room) dC dI sz [.ref h_me, .int p0] [wX6 h_me h_me_code q_me k_me o_me, wX0 h_me_code nc_me_code ns_me_code q_me_code k_me_code o_me_code] [tX6 k_me, tX0 k_me_code] y.1 [wX6 h_me h_me_code q_me k_me y.2.1, wX0 h_me_code nc_me_code ns_me_code q_me_code k_me_code y.2.2] := by
  refine CC_of (by decide) (Nat.le_of_ble_eq_true rfl) ?_
  intro p e s m below meth c A ls hx hb hml hr hlk hnm hown hts hX hK hP hD hA hl
  have hl : lv_has ls 2 [(0, .ref h_me), (1, .int p0)] := hl
  have hown : s.vm.findClass RX6 = some m.cls := hown
  have hw : Wd dC dI A s.heap [wX6 h_me h_me_code q_me k_me o_me, wX0 h_me_code nc_me_code ns_me_code q_me_code k_me_code o_me_code] s.heap [] := ⟨hP, hD, va_S.rf⟩
  generalize hQz : (MQ below (QI dC dI (fun r (_ : Unit) => r = y.1) (fun _ => Jn [wX6 h_me h_me_code q_me k_me y.2.1, wX0 h_me_code nc_me_code ns_me_code q_me_code k_me_code y.2.2]) (fun _ => Jt [tX6 k_me, tX0 k_me_code]) A) ([.ref h_me, .int p0] : List Value).toArray s 0 0 A) = Qz
  clear hP hD hnm
  unfold f_X6_readPart at h
  refine lv_aload_n hx hb dX6_readPart_0 rfl (lv_at hl 0 rfl) ?_
  refine lv_bipush (v := 91) hx hb dX6_readPart_1 (by decide) ?_
  obtain ⟨z1, ez1, h⟩ := z_bd h
  refine xj_i (xrV (As := [.int (91 : Int32)]) (rest := []) ⟨hx, hb, hml, hown, hts⟩ (m_X6_isSign l dC dI _ h_me h_me_code q_me k_me o_me (91 : Int32) z1 ez1) kw765 kw762 kw764 kw13 kw111 hd_X6_isSign ⟨Nat.ble_eq_true_of_le (by show 1 + 1 ≤ FR + 7; omega), Nat.ble_eq_true_of_le (by show 8 + (2 + 11) + (21) ≤ LC + 156; omega)⟩ rfl rfl ⟨rfl, rfl⟩ hX hK hw [0] (by decide) rfl rfl rfl rfl rfl hl.1 rfl rfl dX6_readPart_3) hw hA [0] (by decide) rfl rfl (fun H locs hw => ?_)
  have hw : Wd dC dI A s.heap [wX6 h_me h_me_code q_me k_me o_me, wX0 h_me_code nc_me_code ns_me_code q_me_code k_me_code o_me_code] H locs := hw
  refine lv_if_ne (tgt := 14) hx hb dX6_readPart_6 (by decide) (fun c => ?_) (fun c => ?_)
  · have h := z_f h c
    refine lv_iload_n hx hb dX6_readPart_14 rfl (lv_at hl 1 rfl) ?_
    refine lv_bipush (v := 8) hx hb dX6_readPart_15 (by decide) ?_
    refine lv_icmp_lt (tgt := 25) hx hb dX6_readPart_17 (by decide) (fun c => ?_) (fun c => ?_)
    · have h := z_t h c
      refine lv_aload_n hx hb dX6_readPart_25 rfl (lv_at hl 0 rfl) ?_
      obtain ⟨z2, ez2, h⟩ := z_bd h
      refine xj_v (xrV (As := []) (rest := []) ⟨hx, hb, hml, hown, hts⟩ (m_X6_step l dC dI _ h_me h_me_code q_me k_me o_me z2 ez2) kw675 kw672 kw674 kw5 kw111 hd_X6_step ⟨Nat.ble_eq_true_of_le (by show 1 + 1 ≤ FR + 7; omega), Nat.ble_eq_true_of_le (by show 8 + (2 + 11) + (21) ≤ LC + 156; omega)⟩ rfl rfl ⟨rfl, rfl⟩ hX hK hw [0] (by decide) rfl rfl rfl rfl rfl hl.1 rfl rfl dX6_readPart_26) hw hA [0] (by decide) rfl rfl (fun H locs hw => ?_)
      have hw : Wd dC dI A s.heap [wX6 h_me h_me_code q_me k_me z2, wX0 h_me_code nc_me_code ns_me_code q_me_code k_me_code o_me_code] H locs := hw
      refine lv_aload_n hx hb dX6_readPart_29 rfl (lv_at hl 0 rfl) ?_
      refine lv_iload_n hx hb dX6_readPart_30 rfl (lv_at hl 1 rfl) ?_
      refine lv_iconst (v := 1) hx hb dX6_readPart_31 (by decide) ?_
      refine lv_iadd hx hb dX6_readPart_32 ?_
      obtain ⟨z3, ez3, h⟩ := z_bd h
      refine xj_i (xrV (As := [.int (p0 + (1 : Int32))]) (rest := []) ⟨hx, hb, hml, hown, hts⟩ (hrS _ z2 o_me_code (p0 + (1 : Int32)) z3 ez3) kw753 kw750 kw752 kw10 kw111 hd_X6_readSum ⟨Nat.ble_eq_true_of_le (by show FR + 1 ≤ FR + 7; omega), Nat.ble_eq_true_of_le (by show 8 + (4 + 11) + (LC) ≤ LC + 156; omega)⟩ rfl rfl ⟨rfl, rfl⟩ hX hK hw [0, 1] (by decide) rfl rfl rfl rfl rfl hl.1 rfl rfl dX6_readPart_33) hw hA [0, 1] (by decide) rfl rfl (fun H locs hw => ?_)
      have hw : Wd dC dI A s.heap [wX6 h_me h_me_code q_me k_me z3.2.1, wX0 h_me_code nc_me_code ns_me_code q_me_code k_me_code z3.2.2] H locs := hw
      refine lv_if_ne (tgt := 41) hx hb dX6_readPart_36 (by decide) (fun c => ?_) (fun c => ?_)
      · have h := z_f h c
        refine lv_aload_n hx hb dX6_readPart_41 rfl (lv_at hl 0 rfl) ?_
        refine lv_bipush (v := 93) hx hb dX6_readPart_42 (by decide) ?_
        obtain ⟨z4, ez4, h⟩ := z_bd h
        refine xj_i (xrV (As := [.int (93 : Int32)]) (rest := []) ⟨hx, hb, hml, hown, hts⟩ (m_X6_isSign l dC dI _ h_me h_me_code q_me k_me z3.2.1 (93 : Int32) z4 ez4) kw765 kw762 kw764 kw13 kw111 hd_X6_isSign ⟨Nat.ble_eq_true_of_le (by show 1 + 1 ≤ FR + 7; omega), Nat.ble_eq_true_of_le (by show 8 + (2 + 11) + (21) ≤ LC + 156; omega)⟩ rfl rfl ⟨rfl, rfl⟩ hX hK hw [0] (by decide) rfl rfl rfl rfl rfl hl.1 rfl rfl dX6_readPart_44) hw hA [0] (by decide) rfl rfl (fun H locs hw => ?_)
        have hw : Wd dC dI A s.heap [wX6 h_me h_me_code q_me k_me z3.2.1, wX0 h_me_code nc_me_code ns_me_code q_me_code k_me_code z3.2.2] H locs := hw
        refine lv_if_ne (tgt := 55) hx hb dX6_readPart_47 (by decide) (fun c => ?_) (fun c => ?_)
        · have h := z_f h c
          refine lv_aload_n hx hb dX6_readPart_55 rfl (lv_at hl 0 rfl) ?_
          obtain ⟨z5, ez5, h⟩ := z_bd h
          refine xj_v (xrV (As := []) (rest := []) ⟨hx, hb, hml, hown, hts⟩ (m_X6_step l dC dI _ h_me h_me_code q_me k_me z3.2.1 z5 ez5) kw675 kw672 kw674 kw5 kw111 hd_X6_step ⟨Nat.ble_eq_true_of_le (by show 1 + 1 ≤ FR + 7; omega), Nat.ble_eq_true_of_le (by show 8 + (2 + 11) + (21) ≤ LC + 156; omega)⟩ rfl rfl ⟨rfl, rfl⟩ hX hK hw [0] (by decide) rfl rfl rfl rfl rfl hl.1 rfl rfl dX6_readPart_56) hw hA [0] (by decide) rfl rfl (fun H locs hw => ?_)
          have hw : Wd dC dI A s.heap [wX6 h_me h_me_code q_me k_me z5, wX0 h_me_code nc_me_code ns_me_code q_me_code k_me_code z3.2.2] H locs := hw
          refine lv_iconst (v := 1) hx hb dX6_readPart_59 (by decide) ?_
          have hy := Option.some.inj h
          rw [← hQz, ← hy]
          exact xr_i (v := (1 : Int32)) hx hb hr rfl hlk hK hw dX6_readPart_60
        · have h := z_t h c
          refine lv_aload_n hx hb dX6_readPart_50 rfl (lv_at hl 0 rfl) ?_
          obtain ⟨z6, ez6, h⟩ := z_bd h
          refine xj_i (xrV (As := []) (rest := []) ⟨hx, hb, hml, hown, hts⟩ (m_X6_stop l dC dI _ h_me h_me_code q_me k_me z3.2.1 z6 ez6) kw749 kw746 kw748 kw9 kw111 hd_X6_stop ⟨Nat.ble_eq_true_of_le (by show 0 + 1 ≤ FR + 7; omega), Nat.ble_eq_true_of_le (by show 8 + (1 + 11) + (0) ≤ LC + 156; omega)⟩ rfl rfl ⟨rfl, rfl⟩ hX hK hw [0] (by decide) rfl rfl rfl rfl rfl hl.1 rfl rfl dX6_readPart_51) hw hA [0] (by decide) rfl rfl (fun H locs hw => ?_)
          have hw : Wd dC dI A s.heap [wX6 h_me h_me_code q_me k_me z6.2, wX0 h_me_code nc_me_code ns_me_code q_me_code k_me_code z3.2.2] H locs := hw
          obtain ⟨g7, h⟩ := z_gd h
          have hy := Option.some.inj h
          rw [← hQz, ← hy]
          exact xr_i (v := z6.1) hx hb hr (z_nar g7) hlk hK hw dX6_readPart_54
      · have h := z_t h c
        refine lv_iconst (v := 0) hx hb dX6_readPart_39 (by decide) ?_
        have hy := Option.some.inj h
        rw [← hQz, ← hy]
        exact xr_i (v := (0 : Int32)) hx hb hr rfl hlk hK hw dX6_readPart_40
    · have h := z_f h c
      refine lv_aload_n hx hb dX6_readPart_20 rfl (lv_at hl 0 rfl) ?_
      obtain ⟨z8, ez8, h⟩ := z_bd h
      refine xj_i (xrV (As := []) (rest := []) ⟨hx, hb, hml, hown, hts⟩ (m_X6_stop l dC dI _ h_me h_me_code q_me k_me o_me z8 ez8) kw749 kw746 kw748 kw9 kw111 hd_X6_stop ⟨Nat.ble_eq_true_of_le (by show 0 + 1 ≤ FR + 7; omega), Nat.ble_eq_true_of_le (by show 8 + (1 + 11) + (0) ≤ LC + 156; omega)⟩ rfl rfl ⟨rfl, rfl⟩ hX hK hw [0] (by decide) rfl rfl rfl rfl rfl hl.1 rfl rfl dX6_readPart_21) hw hA [0] (by decide) rfl rfl (fun H locs hw => ?_)
      have hw : Wd dC dI A s.heap [wX6 h_me h_me_code q_me k_me z8.2, wX0 h_me_code nc_me_code ns_me_code q_me_code k_me_code o_me_code] H locs := hw
      obtain ⟨g9, h⟩ := z_gd h
      have hy := Option.some.inj h
      rw [← hQz, ← hy]
      exact xr_i (v := z8.1) hx hb hr (z_nar g9) hlk hK hw dX6_readPart_24
  · have h := z_t h c
    refine lv_aload_n hx hb dX6_readPart_9 rfl (lv_at hl 0 rfl) ?_
    obtain ⟨z10, ez10, h⟩ := z_bd h
    refine xj_i (xrV (As := []) (rest := []) ⟨hx, hb, hml, hown, hts⟩ (m_X6_readSinglePart l dC dI _ h_me h_me_code q_me k_me q_me_code k_me_code nc_me_code ns_me_code o_me o_me_code z10 ez10) kw769 kw766 kw768 kw14 kw111 hd_X6_readSinglePart ⟨Nat.ble_eq_true_of_le (by show 6 + 1 ≤ FR + 7; omega), Nat.ble_eq_true_of_le (by show 8 + (3 + 11) + (134) ≤ LC + 156; omega)⟩ rfl rfl ⟨rfl, rfl⟩ hX hK hw [0, 1] (by decide) rfl rfl rfl rfl rfl hl.1 rfl rfl dX6_readPart_10) hw hA [0, 1] (by decide) rfl rfl (fun H locs hw => ?_)
    have hw : Wd dC dI A s.heap [wX6 h_me h_me_code q_me k_me z10.2.1, wX0 h_me_code nc_me_code ns_me_code q_me_code k_me_code z10.2.2] H locs := hw
    obtain ⟨g11, h⟩ := z_gd h
    have hy := Option.some.inj h
    rw [← hQz, ← hy]
    exact xr_i (v := z10.1) hx hb hr (z_nar g11) hlk hK hw dX6_readPart_13

def bk_X6_readTerm_76 (rS : Ob → Ob → Int32 → Option (Int32 × Ob × Ob)) (nc_me_code : Nat) (ns_me_code : Nat) (rec_12_0 : Int32 × Int32 × Ob × Ob → Option (Int32 × Ob × Ob)) (v1 : Int32) (v2 : Int32) (s0 : Int32) (o_me : Ob) (o_me_code : Ob) : Option (Int32 × Ob × Ob) :=
  (f_X6_step o_me).bind fun z5 =>
  (f_X6_readPart rS nc_me_code ns_me_code z5 o_me_code v1).bind fun z6 =>
  if z6.1 = (0 : Int32) then
  (some ((0 : Int32), z6.2.1, z6.2.2))
  else
  ((f_X0_add nc_me_code ns_me_code z6.2.2 s0 (0 : Int32)).bind fun z7 =>
  zlt (v2 + (1 : Int32)) fun x8 =>
  rec_12_0 (v1, x8, z6.2.1, z7.2))
def bk_X6_readTerm_46 (rS : Ob → Ob → Int32 → Option (Int32 × Ob × Ob)) (nc_me_code : Nat) (ns_me_code : Nat) (rec_12_0 : Int32 × Int32 × Ob × Ob → Option (Int32 × Ob × Ob)) (v1 : Int32) (v2 : Int32) (o_me : Ob) (o_me_code : Ob) : Option (Int32 × Ob × Ob) :=
  (f_X6_isSign o_me (42 : Int32)).bind fun z3 =>
  if z3 = (0 : Int32) then
  ((f_X6_isSign o_me (47 : Int32)).bind fun z4 =>
  if z4 = (0 : Int32) then
  (bk_X6_readTerm_76 rS nc_me_code ns_me_code rec_12_0 v1 v2 (9 : Int32) o_me o_me_code)
  else
  (bk_X6_readTerm_76 rS nc_me_code ns_me_code rec_12_0 v1 v2 (8 : Int32) o_me o_me_code))
  else
  (bk_X6_readTerm_76 rS nc_me_code ns_me_code rec_12_0 v1 v2 (7 : Int32) o_me o_me_code)
def lb_X6_readTerm_12 (rS : Ob → Ob → Int32 → Option (Int32 × Ob × Ob)) (nc_me_code : Nat) (ns_me_code : Nat)  (rec_12_0 : Int32 × Int32 × Ob × Ob → Option (Int32 × Ob × Ob)) (v1 : Int32) (v2 : Int32) (o_me : Ob) (o_me_code : Ob) : Option (Int32 × Ob × Ob) :=
  if (400 : Int32) ≤ v2 then
  (some ((1 : Int32), o_me, o_me_code))
  else
  ((f_X6_isSign o_me (42 : Int32)).bind fun z2 =>
  if z2 = (0 : Int32) then
  ((f_X6_isSign o_me (47 : Int32)).bind fun z9 =>
  if z9 = (0 : Int32) then
  ((f_X6_isSign o_me (37 : Int32)).bind fun z10 =>
  if z10 = (0 : Int32) then
  (some ((1 : Int32), o_me, o_me_code))
  else
  (bk_X6_readTerm_46 rS nc_me_code ns_me_code rec_12_0 v1 v2 o_me o_me_code))
  else
  (bk_X6_readTerm_46 rS nc_me_code ns_me_code rec_12_0 v1 v2 o_me o_me_code))
  else
  (bk_X6_readTerm_46 rS nc_me_code ns_me_code rec_12_0 v1 v2 o_me o_me_code))
def lp_X6_readTerm_12 (rS : Ob → Ob → Int32 → Option (Int32 × Ob × Ob)) (nc_me_code : Nat) (ns_me_code : Nat)  : Nat → (Int32 × Int32 × Ob × Ob) → Option (Int32 × Ob × Ob) := zit (fun rec a => lb_X6_readTerm_12 rS nc_me_code ns_me_code  rec a.1 a.2.1 a.2.2.1 a.2.2.2)
def f_X6_readTerm (rS : Ob → Ob → Int32 → Option (Int32 × Ob × Ob)) (nc_me_code : Nat) (ns_me_code : Nat) (o_me : Ob) (o_me_code : Ob) (p0 : Int32) : Option (Int32 × Ob × Ob) :=
  (f_X6_readPart rS nc_me_code ns_me_code o_me o_me_code p0).bind fun z1 =>
  if z1.1 = (0 : Int32) then
  (some ((0 : Int32), z1.2.1, z1.2.2))
  else
  (lp_X6_readTerm_12 rS nc_me_code ns_me_code  zfu (p0, (0 : Int32), z1.2.1, z1.2.2))
set_option maxHeartbeats 4000000 in
set_option maxRecDepth 100000 in
theorem m_X6_readTerm (l : Launch) (dC : Nat → ClassId) (dI : Nat → Nat → Nat) (sz : Nat) (h_me : Nat) (h_me_code : Nat) (q_me : Nat → Nat) (k_me : Nat → ClassId) (q_me_code : Nat → Nat) (k_me_code : Nat → ClassId) (nc_me_code : Nat) (ns_me_code : Nat) (rS : Ob → Ob → Int32 → Option (Int32 × Ob × Ob)) (FR LC : Nat) (hrS : ∀ (sz : Nat) (o_me : Ob) (o_me_code : Ob) (p0 : Int32) (y : Int32 × Ob × Ob), rS o_me o_me_code p0 = some y → CI l yX6_readSum cX6_readSum 4 (some .boolean) ({ frames := FR, cells := 0, slots := 0, locals := LC } : Room) dC dI sz [.ref h_me, .int p0] [wX6 h_me h_me_code q_me k_me o_me, wX0 h_me_code nc_me_code ns_me_code q_me_code k_me_code o_me_code] [tX6 k_me, tX0 k_me_code] y.1 [wX6 h_me h_me_code q_me k_me y.2.1, wX0 h_me_code nc_me_code ns_me_code q_me_code k_me_code y.2.2]) (o_me : Ob) (o_me_code : Ob) (p0 : Int32) (y : Int32 × Ob × Ob) (h : f_X6_readTerm rS nc_me_code ns_me_code o_me o_me_code p0 = some y) : CI l yX6_readTerm cX6_readTerm 4 (some .boolean) ({ frames := FR + 8, cells := 0, slots := 0, locals := LC + 177 } : Room) dC dI sz [.ref h_me, .int p0] [wX6 h_me h_me_code q_me k_me o_me, wX0 h_me_code nc_me_code ns_me_code q_me_code k_me_code o_me_code] [tX6 k_me, tX0 k_me_code] y.1 [wX6 h_me h_me_code q_me k_me y.2.1, wX0 h_me_code nc_me_code ns_me_code q_me_code k_me_code y.2.2] := by
  refine CC_of (by decide) (Nat.le_of_ble_eq_true rfl) ?_
  intro p e s m below meth c A ls hx hb hml hr hlk hnm hown hts hX hK hP hD hA hl
  have hl : lv_has ls 4 [(0, .ref h_me), (1, .int p0)] := hl
  have hown : s.vm.findClass RX6 = some m.cls := hown
  have hw : Wd dC dI A s.heap [wX6 h_me h_me_code q_me k_me o_me, wX0 h_me_code nc_me_code ns_me_code q_me_code k_me_code o_me_code] s.heap [] := ⟨hP, hD, va_S.rf⟩
  generalize hQz : (MQ below (QI dC dI (fun r (_ : Unit) => r = y.1) (fun _ => Jn [wX6 h_me h_me_code q_me k_me y.2.1, wX0 h_me_code nc_me_code ns_me_code q_me_code k_me_code y.2.2]) (fun _ => Jt [tX6 k_me, tX0 k_me_code]) A) ([.ref h_me, .int p0] : List Value).toArray s 0 0 A) = Qz
  clear hP hD hnm
  have bk_76_2 : ∀ (rec_12_0 : Int32 × Int32 × Ob × Ob → Option (Int32 × Ob × Ob)) (hrec_12_0 : ∀ (v1 : Int32) (v2 : Int32) (o_me : Ob) (o_me_code : Ob) (H : Heap) (locs : List Loc) (ls : Array Slot), rec_12_0 (v1, v2, o_me, o_me_code) = some y → Wd dC dI A s.heap [wX6 h_me h_me_code q_me k_me o_me, wX0 h_me_code nc_me_code ns_me_code q_me_code k_me_code o_me_code] H locs → lv_has ls 4 [(0, .ref h_me), (1, .int v1), (2, .int v2)] → W p l e ({ frames := FR + 8, cells := 0, slots := 0, locals := LC + 177 } : Room) s m ([.ref h_me, .int p0] : List Value).toArray below meth c H locs 0 0 Qz (F0 m 12 ls [])), ∀ (v1 : Int32) (v2 : Int32) (s0 : Int32) (o_me : Ob) (o_me_code : Ob) (H : Heap) (locs : List Loc) (ls : Array Slot), bk_X6_readTerm_76 rS nc_me_code ns_me_code rec_12_0 v1 v2 s0 o_me o_me_code = some y → Wd dC dI A s.heap [wX6 h_me h_me_code q_me k_me o_me, wX0 h_me_code nc_me_code ns_me_code q_me_code k_me_code o_me_code] H locs → lv_has ls 4 [(0, .ref h_me), (1, .int v1), (2, .int v2)] → W p l e ({ frames := FR + 8, cells := 0, slots := 0, locals := LC + 177 } : Room) s m ([.ref h_me, .int p0] : List Value).toArray below meth c H locs 0 0 Qz (F0 m 76 ls [.int s0]) := by
    intro rec_12_0 hrec_12_0
    intro v1 v2 s0 o_me o_me_code H locs ls h hw hl
    unfold bk_X6_readTerm_76 at h
    refine lv_istore_n (lv' := [(3, .int s0), (0, .ref h_me), (1, .int v1), (2, .int v2)]) hx hb dX6_readTerm_76 rfl hl (by decide) rfl (fun ls hl => ?_)
    refine lv_aload_n hx hb dX6_readTerm_77 rfl (lv_at hl 1 rfl) ?_
    obtain ⟨z5, ez5, h⟩ := z_bd h
    refine xj_v (xrV (As := []) (rest := []) ⟨hx, hb, hml, hown, hts⟩ (m_X6_step l dC dI _ h_me h_me_code q_me k_me o_me z5 ez5) kw675 kw672 kw674 kw5 kw111 hd_X6_step ⟨Nat.ble_eq_true_of_le (by show 1 + 1 ≤ FR + 8; omega), Nat.ble_eq_true_of_le (by show 8 + (2 + 11) + (21) ≤ LC + 177; omega)⟩ rfl rfl ⟨rfl, rfl⟩ hX hK hw [0] (by decide) rfl rfl rfl rfl rfl hl.1 rfl rfl dX6_readTerm_78) hw hA [0] (by decide) rfl rfl (fun H locs hw => ?_)
    have hw : Wd dC dI A s.heap [wX6 h_me h_me_code q_me k_me z5, wX0 h_me_code nc_me_code ns_me_code q_me_code k_me_code o_me_code] H locs := hw
    refine lv_aload_n hx hb dX6_readTerm_81 rfl (lv_at hl 1 rfl) ?_
    refine lv_iload_n hx hb dX6_readTerm_82 rfl (lv_at hl 2 rfl) ?_
    obtain ⟨z6, ez6, h⟩ := z_bd h
    refine xj_i (xrV (As := [.int v1]) (rest := []) ⟨hx, hb, hml, hown, hts⟩ (m_X6_readPart l dC dI _ h_me h_me_code q_me k_me q_me_code k_me_code nc_me_code ns_me_code rS FR LC hrS z5 o_me_code v1 z6 ez6) kw761 kw758 kw760 kw12 kw111 hd_X6_readPart ⟨Nat.ble_eq_true_of_le (by show FR + 7 + 1 ≤ FR + 8; omega), Nat.ble_eq_true_of_le (by show 8 + (2 + 11) + (LC + 156) ≤ LC + 177; omega)⟩ rfl rfl ⟨rfl, rfl⟩ hX hK hw [0, 1] (by decide) rfl rfl rfl rfl rfl hl.1 rfl rfl dX6_readTerm_83) hw hA [0, 1] (by decide) rfl rfl (fun H locs hw => ?_)
    have hw : Wd dC dI A s.heap [wX6 h_me h_me_code q_me k_me z6.2.1, wX0 h_me_code nc_me_code ns_me_code q_me_code k_me_code z6.2.2] H locs := hw
    refine lv_if_ne (tgt := 91) hx hb dX6_readTerm_86 (by decide) (fun c => ?_) (fun c => ?_)
    · have h := z_f h c
      refine lv_aload_n hx hb dX6_readTerm_91 rfl (lv_at hl 1 rfl) ?_
      refine fgX6_1 hx hb hts hown hK hw 0 rfl kw202 dX6_readTerm_92 ?_
      refine lv_iload_n hx hb dX6_readTerm_95 rfl (lv_at hl 0 rfl) ?_
      refine lv_iconst (v := 0) hx hb dX6_readTerm_96 (by decide) ?_
      obtain ⟨z7, ez7, h⟩ := z_bd h
      refine xj_i (xrV (As := [.int s0, .int (0 : Int32)]) (rest := []) ⟨hx, hb, hml, hown, hts⟩ (m_X0_add l dC dI _ h_me_code q_me_code k_me_code nc_me_code ns_me_code z6.2.2 s0 (0 : Int32) z7 ez7) kw775 kw772 kw773 kw774 kw112 hd_X0_add ⟨Nat.ble_eq_true_of_le (by show 0 + 1 ≤ FR + 8; omega), Nat.ble_eq_true_of_le (by show 8 + (3 + 11) + (0) ≤ LC + 177; omega)⟩ rfl rfl ⟨rfl, rfl⟩ hX hK hw [1] (by decide) rfl rfl rfl rfl rfl hl.1 rfl rfl dX6_readTerm_97) hw hA [1] (by decide) rfl rfl (fun H locs hw => ?_)
      have hw : Wd dC dI A s.heap [wX6 h_me h_me_code q_me k_me z6.2.1, wX0 h_me_code nc_me_code ns_me_code q_me_code k_me_code z7.2] H locs := hw
      refine lv_pop hx hb dX6_readTerm_100 rfl ?_
      obtain ⟨x8, ex8, h⟩ := z_lt h
      refine lv_iinc (v := x8) (lv' := [(2, .int x8), (3, .int s0), (0, .ref h_me), (1, .int v1)]) hx hb dX6_readTerm_101 hl (k := 3) rfl ((congrArg (v2 + ·) (show Int32.ofInt 1 = (1 : Int32) from by decide)).trans ex8.symm) (by decide) rfl (fun ls hl => ?_)
      refine lv_goto (tgt := 12) hx hb dX6_readTerm_104 (by decide) ?_
      exact hrec_12_0 v1 x8 z6.2.1 z7.2 _ _ _ h hw (lv_sub hl [2, 3, 0] rfl)
    · have h := z_t h c
      refine lv_iconst (v := 0) hx hb dX6_readTerm_89 (by decide) ?_
      have hy := Option.some.inj h
      rw [← hQz, ← hy]
      exact xr_i (v := (0 : Int32)) hx hb hr rfl hlk hK hw dX6_readTerm_90
  have bk_46_1 : ∀ (rec_12_0 : Int32 × Int32 × Ob × Ob → Option (Int32 × Ob × Ob)) (hrec_12_0 : ∀ (v1 : Int32) (v2 : Int32) (o_me : Ob) (o_me_code : Ob) (H : Heap) (locs : List Loc) (ls : Array Slot), rec_12_0 (v1, v2, o_me, o_me_code) = some y → Wd dC dI A s.heap [wX6 h_me h_me_code q_me k_me o_me, wX0 h_me_code nc_me_code ns_me_code q_me_code k_me_code o_me_code] H locs → lv_has ls 4 [(0, .ref h_me), (1, .int v1), (2, .int v2)] → W p l e ({ frames := FR + 8, cells := 0, slots := 0, locals := LC + 177 } : Room) s m ([.ref h_me, .int p0] : List Value).toArray below meth c H locs 0 0 Qz (F0 m 12 ls [])), ∀ (v1 : Int32) (v2 : Int32) (o_me : Ob) (o_me_code : Ob) (H : Heap) (locs : List Loc) (ls : Array Slot), bk_X6_readTerm_46 rS nc_me_code ns_me_code rec_12_0 v1 v2 o_me o_me_code = some y → Wd dC dI A s.heap [wX6 h_me h_me_code q_me k_me o_me, wX0 h_me_code nc_me_code ns_me_code q_me_code k_me_code o_me_code] H locs → lv_has ls 4 [(0, .ref h_me), (1, .int v1), (2, .int v2)] → W p l e ({ frames := FR + 8, cells := 0, slots := 0, locals := LC + 177 } : Room) s m ([.ref h_me, .int p0] : List Value).toArray below meth c H locs 0 0 Qz (F0 m 46 ls []) := by
    intro rec_12_0 hrec_12_0
    intro v1 v2 o_me o_me_code H locs ls h hw hl
    unfold bk_X6_readTerm_46 at h
    refine lv_aload_n hx hb dX6_readTerm_46 rfl (lv_at hl 0 rfl) ?_
    refine lv_bipush (v := 42) hx hb dX6_readTerm_47 (by decide) ?_
    obtain ⟨z3, ez3, h⟩ := z_bd h
    refine xj_i (xrV (As := [.int (42 : Int32)]) (rest := []) ⟨hx, hb, hml, hown, hts⟩ (m_X6_isSign l dC dI _ h_me h_me_code q_me k_me o_me (42 : Int32) z3 ez3) kw765 kw762 kw764 kw13 kw111 hd_X6_isSign ⟨Nat.ble_eq_true_of_le (by show 1 + 1 ≤ FR + 8; omega), Nat.ble_eq_true_of_le (by show 8 + (2 + 11) + (21) ≤ LC + 177; omega)⟩ rfl rfl ⟨rfl, rfl⟩ hX hK hw [0] (by decide) rfl rfl rfl rfl rfl hl.1 rfl rfl dX6_readTerm_49) hw hA [0] (by decide) rfl rfl (fun H locs hw => ?_)
    have hw : Wd dC dI A s.heap [wX6 h_me h_me_code q_me k_me o_me, wX0 h_me_code nc_me_code ns_me_code q_me_code k_me_code o_me_code] H locs := hw
    refine lv_if_eq (tgt := 60) hx hb dX6_readTerm_52 (by decide) (fun c => ?_) (fun c => ?_)
    · have h := z_t h c
      refine lv_aload_n hx hb dX6_readTerm_60 rfl (lv_at hl 0 rfl) ?_
      refine lv_bipush (v := 47) hx hb dX6_readTerm_61 (by decide) ?_
      obtain ⟨z4, ez4, h⟩ := z_bd h
      refine xj_i (xrV (As := [.int (47 : Int32)]) (rest := []) ⟨hx, hb, hml, hown, hts⟩ (m_X6_isSign l dC dI _ h_me h_me_code q_me k_me o_me (47 : Int32) z4 ez4) kw765 kw762 kw764 kw13 kw111 hd_X6_isSign ⟨Nat.ble_eq_true_of_le (by show 1 + 1 ≤ FR + 8; omega), Nat.ble_eq_true_of_le (by show 8 + (2 + 11) + (21) ≤ LC + 177; omega)⟩ rfl rfl ⟨rfl, rfl⟩ hX hK hw [0] (by decide) rfl rfl rfl rfl rfl hl.1 rfl rfl dX6_readTerm_63) hw hA [0] (by decide) rfl rfl (fun H locs hw => ?_)
      have hw : Wd dC dI A s.heap [wX6 h_me h_me_code q_me k_me o_me, wX0 h_me_code nc_me_code ns_me_code q_me_code k_me_code o_me_code] H locs := hw
      refine lv_if_eq (tgt := 74) hx hb dX6_readTerm_66 (by decide) (fun c => ?_) (fun c => ?_)
      · have h := z_t h c
        refine lv_bipush (v := 9) hx hb dX6_readTerm_74 (by decide) ?_
        exact bk_76_2 rec_12_0 hrec_12_0 v1 v2 (9 : Int32) o_me o_me_code _ _ _ h hw (lv_sub hl [0, 1, 2] rfl)
      · have h := z_f h c
        refine lv_bipush (v := 8) hx hb dX6_readTerm_69 (by decide) ?_
        refine lv_goto (tgt := 76) hx hb dX6_readTerm_71 (by decide) ?_
        exact bk_76_2 rec_12_0 hrec_12_0 v1 v2 (8 : Int32) o_me o_me_code _ _ _ h hw (lv_sub hl [0, 1, 2] rfl)
    · have h := z_f h c
      refine lv_bipush (v := 7) hx hb dX6_readTerm_55 (by decide) ?_
      refine lv_goto (tgt := 76) hx hb dX6_readTerm_57 (by decide) ?_
      exact bk_76_2 rec_12_0 hrec_12_0 v1 v2 (7 : Int32) o_me o_me_code _ _ _ h hw (lv_sub hl [0, 1, 2] rfl)
  have lp_12_0 : ∀ (N : Nat), ∀ (v1 : Int32) (v2 : Int32) (o_me : Ob) (o_me_code : Ob) (H : Heap) (locs : List Loc) (ls : Array Slot), lp_X6_readTerm_12 rS nc_me_code ns_me_code  N (v1, v2, o_me, o_me_code) = some y → Wd dC dI A s.heap [wX6 h_me h_me_code q_me k_me o_me, wX0 h_me_code nc_me_code ns_me_code q_me_code k_me_code o_me_code] H locs → lv_has ls 4 [(0, .ref h_me), (1, .int v1), (2, .int v2)] → W p l e ({ frames := FR + 8, cells := 0, slots := 0, locals := LC + 177 } : Room) s m ([.ref h_me, .int p0] : List Value).toArray below meth c H locs 0 0 Qz (F0 m 12 ls []) := by
    intro N
    induction N with
    | zero =>
      intro v1 v2 o_me o_me_code H locs ls h hw hl
      exact absurd (show (none : Option (Int32 × Ob × Ob)) = some y from h) (by simp)
    | succ N ih =>
      intro v1 v2 o_me o_me_code H locs ls h hw hl
      have h : lb_X6_readTerm_12 rS nc_me_code ns_me_code  (lp_X6_readTerm_12 rS nc_me_code ns_me_code  N) v1 v2 o_me o_me_code = some y := h
      unfold lb_X6_readTerm_12 at h
      refine lv_iload_n hx hb dX6_readTerm_12 rfl (lv_at hl 2 rfl) ?_
      refine lv_sipush (v := 400) hx hb dX6_readTerm_13 (by decide) ?_
      refine lv_icmp_ge (tgt := 107) hx hb dX6_readTerm_16 (by decide) (fun c => ?_) (fun c => ?_)
      · have h := z_t h c
        refine lv_iconst (v := 1) hx hb dX6_readTerm_107 (by decide) ?_
        have hy := Option.some.inj h
        rw [← hQz, ← hy]
        exact xr_i (v := (1 : Int32)) hx hb hr rfl hlk hK hw dX6_readTerm_108
      · have h := z_f h c
        refine lv_aload_n hx hb dX6_readTerm_19 rfl (lv_at hl 0 rfl) ?_
        refine lv_bipush (v := 42) hx hb dX6_readTerm_20 (by decide) ?_
        obtain ⟨z2, ez2, h⟩ := z_bd h
        refine xj_i (xrV (As := [.int (42 : Int32)]) (rest := []) ⟨hx, hb, hml, hown, hts⟩ (m_X6_isSign l dC dI _ h_me h_me_code q_me k_me o_me (42 : Int32) z2 ez2) kw765 kw762 kw764 kw13 kw111 hd_X6_isSign ⟨Nat.ble_eq_true_of_le (by show 1 + 1 ≤ FR + 8; omega), Nat.ble_eq_true_of_le (by show 8 + (2 + 11) + (21) ≤ LC + 177; omega)⟩ rfl rfl ⟨rfl, rfl⟩ hX hK hw [0] (by decide) rfl rfl rfl rfl rfl hl.1 rfl rfl dX6_readTerm_22) hw hA [0] (by decide) rfl rfl (fun H locs hw => ?_)
        have hw : Wd dC dI A s.heap [wX6 h_me h_me_code q_me k_me o_me, wX0 h_me_code nc_me_code ns_me_code q_me_code k_me_code o_me_code] H locs := hw
        refine lv_if_ne (tgt := 46) hx hb dX6_readTerm_25 (by decide) (fun c => ?_) (fun c => ?_)
        · have h := z_f h c
          exact bk_46_1 (lp_X6_readTerm_12 rS nc_me_code ns_me_code  N) ih v1 v2 o_me o_me_code _ _ _ h hw (lv_sub hl [0, 1, 2] rfl)
        · have h := z_t h c
          refine lv_aload_n hx hb dX6_readTerm_28 rfl (lv_at hl 0 rfl) ?_
          refine lv_bipush (v := 47) hx hb dX6_readTerm_29 (by decide) ?_
          obtain ⟨z9, ez9, h⟩ := z_bd h
          refine xj_i (xrV (As := [.int (47 : Int32)]) (rest := []) ⟨hx, hb, hml, hown, hts⟩ (m_X6_isSign l dC dI _ h_me h_me_code q_me k_me o_me (47 : Int32) z9 ez9) kw765 kw762 kw764 kw13 kw111 hd_X6_isSign ⟨Nat.ble_eq_true_of_le (by show 1 + 1 ≤ FR + 8; omega), Nat.ble_eq_true_of_le (by show 8 + (2 + 11) + (21) ≤ LC + 177; omega)⟩ rfl rfl ⟨rfl, rfl⟩ hX hK hw [0] (by decide) rfl rfl rfl rfl rfl hl.1 rfl rfl dX6_readTerm_31) hw hA [0] (by decide) rfl rfl (fun H locs hw => ?_)
          have hw : Wd dC dI A s.heap [wX6 h_me h_me_code q_me k_me o_me, wX0 h_me_code nc_me_code ns_me_code q_me_code k_me_code o_me_code] H locs := hw
          refine lv_if_ne (tgt := 46) hx hb dX6_readTerm_34 (by decide) (fun c => ?_) (fun c => ?_)
          · have h := z_f h c
            exact bk_46_1 (lp_X6_readTerm_12 rS nc_me_code ns_me_code  N) ih v1 v2 o_me o_me_code _ _ _ h hw (lv_sub hl [0, 1, 2] rfl)
          · have h := z_t h c
            refine lv_aload_n hx hb dX6_readTerm_37 rfl (lv_at hl 0 rfl) ?_
            refine lv_bipush (v := 37) hx hb dX6_readTerm_38 (by decide) ?_
            obtain ⟨z10, ez10, h⟩ := z_bd h
            refine xj_i (xrV (As := [.int (37 : Int32)]) (rest := []) ⟨hx, hb, hml, hown, hts⟩ (m_X6_isSign l dC dI _ h_me h_me_code q_me k_me o_me (37 : Int32) z10 ez10) kw765 kw762 kw764 kw13 kw111 hd_X6_isSign ⟨Nat.ble_eq_true_of_le (by show 1 + 1 ≤ FR + 8; omega), Nat.ble_eq_true_of_le (by show 8 + (2 + 11) + (21) ≤ LC + 177; omega)⟩ rfl rfl ⟨rfl, rfl⟩ hX hK hw [0] (by decide) rfl rfl rfl rfl rfl hl.1 rfl rfl dX6_readTerm_40) hw hA [0] (by decide) rfl rfl (fun H locs hw => ?_)
            have hw : Wd dC dI A s.heap [wX6 h_me h_me_code q_me k_me o_me, wX0 h_me_code nc_me_code ns_me_code q_me_code k_me_code o_me_code] H locs := hw
            refine lv_if_eq (tgt := 107) hx hb dX6_readTerm_43 (by decide) (fun c => ?_) (fun c => ?_)
            · have h := z_t h c
              refine lv_iconst (v := 1) hx hb dX6_readTerm_107 (by decide) ?_
              have hy := Option.some.inj h
              rw [← hQz, ← hy]
              exact xr_i (v := (1 : Int32)) hx hb hr rfl hlk hK hw dX6_readTerm_108
            · have h := z_f h c
              exact bk_46_1 (lp_X6_readTerm_12 rS nc_me_code ns_me_code  N) ih v1 v2 o_me o_me_code _ _ _ h hw (lv_sub hl [0, 1, 2] rfl)
  unfold f_X6_readTerm at h
  refine lv_aload_n hx hb dX6_readTerm_0 rfl (lv_at hl 0 rfl) ?_
  refine lv_iload_n hx hb dX6_readTerm_1 rfl (lv_at hl 1 rfl) ?_
  obtain ⟨z1, ez1, h⟩ := z_bd h
  refine xj_i (xrV (As := [.int p0]) (rest := []) ⟨hx, hb, hml, hown, hts⟩ (m_X6_readPart l dC dI _ h_me h_me_code q_me k_me q_me_code k_me_code nc_me_code ns_me_code rS FR LC hrS o_me o_me_code p0 z1 ez1) kw761 kw758 kw760 kw12 kw111 hd_X6_readPart ⟨Nat.ble_eq_true_of_le (by show FR + 7 + 1 ≤ FR + 8; omega), Nat.ble_eq_true_of_le (by show 8 + (2 + 11) + (LC + 156) ≤ LC + 177; omega)⟩ rfl rfl ⟨rfl, rfl⟩ hX hK hw [0, 1] (by decide) rfl rfl rfl rfl rfl hl.1 rfl rfl dX6_readTerm_2) hw hA [0, 1] (by decide) rfl rfl (fun H locs hw => ?_)
  have hw : Wd dC dI A s.heap [wX6 h_me h_me_code q_me k_me z1.2.1, wX0 h_me_code nc_me_code ns_me_code q_me_code k_me_code z1.2.2] H locs := hw
  refine lv_if_ne (tgt := 10) hx hb dX6_readTerm_5 (by decide) (fun c => ?_) (fun c => ?_)
  · have h := z_f h c
    refine lv_iconst (v := 0) hx hb dX6_readTerm_10 (by decide) ?_
    refine lv_istore_n (lv' := [(2, .int (0 : Int32)), (0, .ref h_me), (1, .int p0)]) hx hb dX6_readTerm_11 rfl hl (by decide) rfl (fun ls hl => ?_)
    exact lp_12_0  zfu p0 (0 : Int32) z1.2.1 z1.2.2 _ _ _ h hw (lv_sub hl [1, 2, 0] rfl)
  · have h := z_t h c
    refine lv_iconst (v := 0) hx hb dX6_readTerm_8 (by decide) ?_
    have hy := Option.some.inj h
    rw [← hQz, ← hy]
    exact xr_i (v := (0 : Int32)) hx hb hr rfl hlk hK hw dX6_readTerm_9

def bk_X6_readSum_52 (rS : Ob → Ob → Int32 → Option (Int32 × Ob × Ob)) (nc_me_code : Nat) (ns_me_code : Nat) (rec_12_0 : Int32 × Int32 × Ob × Ob → Option (Int32 × Ob × Ob)) (v1 : Int32) (v2 : Int32) (s0 : Int32) (o_me : Ob) (o_me_code : Ob) : Option (Int32 × Ob × Ob) :=
  (f_X6_step o_me).bind fun z4 =>
  (f_X6_readTerm rS nc_me_code ns_me_code z4 o_me_code v1).bind fun z5 =>
  if z5.1 = (0 : Int32) then
  (some ((0 : Int32), z5.2.1, z5.2.2))
  else
  ((f_X0_add nc_me_code ns_me_code z5.2.2 s0 (0 : Int32)).bind fun z6 =>
  zlt (v2 + (1 : Int32)) fun x7 =>
  rec_12_0 (v1, x7, z5.2.1, z6.2))
def bk_X6_readSum_37 (rS : Ob → Ob → Int32 → Option (Int32 × Ob × Ob)) (nc_me_code : Nat) (ns_me_code : Nat) (rec_12_0 : Int32 × Int32 × Ob × Ob → Option (Int32 × Ob × Ob)) (v1 : Int32) (v2 : Int32) (o_me : Ob) (o_me_code : Ob) : Option (Int32 × Ob × Ob) :=
  (f_X6_isSign o_me (43 : Int32)).bind fun z3 =>
  if z3 = (0 : Int32) then
  (bk_X6_readSum_52 rS nc_me_code ns_me_code rec_12_0 v1 v2 (6 : Int32) o_me o_me_code)
  else
  (bk_X6_readSum_52 rS nc_me_code ns_me_code rec_12_0 v1 v2 (5 : Int32) o_me o_me_code)
def lb_X6_readSum_12 (rS : Ob → Ob → Int32 → Option (Int32 × Ob × Ob)) (nc_me_code : Nat) (ns_me_code : Nat)  (rec_12_0 : Int32 × Int32 × Ob × Ob → Option (Int32 × Ob × Ob)) (v1 : Int32) (v2 : Int32) (o_me : Ob) (o_me_code : Ob) : Option (Int32 × Ob × Ob) :=
  if (400 : Int32) ≤ v2 then
  (some ((1 : Int32), o_me, o_me_code))
  else
  ((f_X6_isSign o_me (43 : Int32)).bind fun z2 =>
  if z2 = (0 : Int32) then
  ((f_X6_isSign o_me (45 : Int32)).bind fun z8 =>
  if z8 = (0 : Int32) then
  (some ((1 : Int32), o_me, o_me_code))
  else
  (bk_X6_readSum_37 rS nc_me_code ns_me_code rec_12_0 v1 v2 o_me o_me_code))
  else
  (bk_X6_readSum_37 rS nc_me_code ns_me_code rec_12_0 v1 v2 o_me o_me_code))
def lp_X6_readSum_12 (rS : Ob → Ob → Int32 → Option (Int32 × Ob × Ob)) (nc_me_code : Nat) (ns_me_code : Nat)  : Nat → (Int32 × Int32 × Ob × Ob) → Option (Int32 × Ob × Ob) := zit (fun rec a => lb_X6_readSum_12 rS nc_me_code ns_me_code  rec a.1 a.2.1 a.2.2.1 a.2.2.2)
def f_X6_readSum (rS : Ob → Ob → Int32 → Option (Int32 × Ob × Ob)) (nc_me_code : Nat) (ns_me_code : Nat) (o_me : Ob) (o_me_code : Ob) (p0 : Int32) : Option (Int32 × Ob × Ob) :=
  (f_X6_readTerm rS nc_me_code ns_me_code o_me o_me_code p0).bind fun z1 =>
  if z1.1 = (0 : Int32) then
  (some ((0 : Int32), z1.2.1, z1.2.2))
  else
  (lp_X6_readSum_12 rS nc_me_code ns_me_code  zfu (p0, (0 : Int32), z1.2.1, z1.2.2))
set_option maxHeartbeats 4000000 in
set_option maxRecDepth 100000 in
theorem m_X6_readSum (l : Launch) (dC : Nat → ClassId) (dI : Nat → Nat → Nat) (sz : Nat) (h_me : Nat) (h_me_code : Nat) (q_me : Nat → Nat) (k_me : Nat → ClassId) (q_me_code : Nat → Nat) (k_me_code : Nat → ClassId) (nc_me_code : Nat) (ns_me_code : Nat) (rS : Ob → Ob → Int32 → Option (Int32 × Ob × Ob)) (FR LC : Nat) (hrS : ∀ (sz : Nat) (o_me : Ob) (o_me_code : Ob) (p0 : Int32) (y : Int32 × Ob × Ob), rS o_me o_me_code p0 = some y → CI l yX6_readSum cX6_readSum 4 (some .boolean) ({ frames := FR, cells := 0, slots := 0, locals := LC } : Room) dC dI sz [.ref h_me, .int p0] [wX6 h_me h_me_code q_me k_me o_me, wX0 h_me_code nc_me_code ns_me_code q_me_code k_me_code o_me_code] [tX6 k_me, tX0 k_me_code] y.1 [wX6 h_me h_me_code q_me k_me y.2.1, wX0 h_me_code nc_me_code ns_me_code q_me_code k_me_code y.2.2]) (o_me : Ob) (o_me_code : Ob) (p0 : Int32) (y : Int32 × Ob × Ob) (h : f_X6_readSum rS nc_me_code ns_me_code o_me o_me_code p0 = some y) : CI l yX6_readSum cX6_readSum 4 (some .boolean) ({ frames := FR + 9, cells := 0, slots := 0, locals := LC + 200 } : Room) dC dI sz [.ref h_me, .int p0] [wX6 h_me h_me_code q_me k_me o_me, wX0 h_me_code nc_me_code ns_me_code q_me_code k_me_code o_me_code] [tX6 k_me, tX0 k_me_code] y.1 [wX6 h_me h_me_code q_me k_me y.2.1, wX0 h_me_code nc_me_code ns_me_code q_me_code k_me_code y.2.2] := by
  refine CC_of (by decide) (Nat.le_of_ble_eq_true rfl) ?_
  intro p e s m below meth c A ls hx hb hml hr hlk hnm hown hts hX hK hP hD hA hl
  have hl : lv_has ls 4 [(0, .ref h_me), (1, .int p0)] := hl
  have hown : s.vm.findClass RX6 = some m.cls := hown
  have hw : Wd dC dI A s.heap [wX6 h_me h_me_code q_me k_me o_me, wX0 h_me_code nc_me_code ns_me_code q_me_code k_me_code o_me_code] s.heap [] := ⟨hP, hD, va_S.rf⟩
  generalize hQz : (MQ below (QI dC dI (fun r (_ : Unit) => r = y.1) (fun _ => Jn [wX6 h_me h_me_code q_me k_me y.2.1, wX0 h_me_code nc_me_code ns_me_code q_me_code k_me_code y.2.2]) (fun _ => Jt [tX6 k_me, tX0 k_me_code]) A) ([.ref h_me, .int p0] : List Value).toArray s 0 0 A) = Qz
  clear hP hD hnm
  have bk_52_2 : ∀ (rec_12_0 : Int32 × Int32 × Ob × Ob → Option (Int32 × Ob × Ob)) (hrec_12_0 : ∀ (v1 : Int32) (v2 : Int32) (o_me : Ob) (o_me_code : Ob) (H : Heap) (locs : List Loc) (ls : Array Slot), rec_12_0 (v1, v2, o_me, o_me_code) = some y → Wd dC dI A s.heap [wX6 h_me h_me_code q_me k_me o_me, wX0 h_me_code nc_me_code ns_me_code q_me_code k_me_code o_me_code] H locs → lv_has ls 4 [(0, .ref h_me), (1, .int v1), (2, .int v2)] → W p l e ({ frames := FR + 9, cells := 0, slots := 0, locals := LC + 200 } : Room) s m ([.ref h_me, .int p0] : List Value).toArray below meth c H locs 0 0 Qz (F0 m 12 ls [])), ∀ (v1 : Int32) (v2 : Int32) (s0 : Int32) (o_me : Ob) (o_me_code : Ob) (H : Heap) (locs : List Loc) (ls : Array Slot), bk_X6_readSum_52 rS nc_me_code ns_me_code rec_12_0 v1 v2 s0 o_me o_me_code = some y → Wd dC dI A s.heap [wX6 h_me h_me_code q_me k_me o_me, wX0 h_me_code nc_me_code ns_me_code q_me_code k_me_code o_me_code] H locs → lv_has ls 4 [(0, .ref h_me), (1, .int v1), (2, .int v2)] → W p l e ({ frames := FR + 9, cells := 0, slots := 0, locals := LC + 200 } : Room) s m ([.ref h_me, .int p0] : List Value).toArray below meth c H locs 0 0 Qz (F0 m 52 ls [.int s0]) := by
    intro rec_12_0 hrec_12_0
    intro v1 v2 s0 o_me o_me_code H locs ls h hw hl
    unfold bk_X6_readSum_52 at h
    refine lv_istore_n (lv' := [(3, .int s0), (0, .ref h_me), (1, .int v1), (2, .int v2)]) hx hb dX6_readSum_52 rfl hl (by decide) rfl (fun ls hl => ?_)
    refine lv_aload_n hx hb dX6_readSum_53 rfl (lv_at hl 1 rfl) ?_
    obtain ⟨z4, ez4, h⟩ := z_bd h
    refine xj_v (xrV (As := []) (rest := []) ⟨hx, hb, hml, hown, hts⟩ (m_X6_step l dC dI _ h_me h_me_code q_me k_me o_me z4 ez4) kw675 kw672 kw674 kw5 kw111 hd_X6_step ⟨Nat.ble_eq_true_of_le (by show 1 + 1 ≤ FR + 9; omega), Nat.ble_eq_true_of_le (by show 8 + (2 + 11) + (21) ≤ LC + 200; omega)⟩ rfl rfl ⟨rfl, rfl⟩ hX hK hw [0] (by decide) rfl rfl rfl rfl rfl hl.1 rfl rfl dX6_readSum_54) hw hA [0] (by decide) rfl rfl (fun H locs hw => ?_)
    have hw : Wd dC dI A s.heap [wX6 h_me h_me_code q_me k_me z4, wX0 h_me_code nc_me_code ns_me_code q_me_code k_me_code o_me_code] H locs := hw
    refine lv_aload_n hx hb dX6_readSum_57 rfl (lv_at hl 1 rfl) ?_
    refine lv_iload_n hx hb dX6_readSum_58 rfl (lv_at hl 2 rfl) ?_
    obtain ⟨z5, ez5, h⟩ := z_bd h
    refine xj_i (xrV (As := [.int v1]) (rest := []) ⟨hx, hb, hml, hown, hts⟩ (m_X6_readTerm l dC dI _ h_me h_me_code q_me k_me q_me_code k_me_code nc_me_code ns_me_code rS FR LC hrS z4 o_me_code v1 z5 ez5) kw757 kw754 kw756 kw11 kw111 hd_X6_readTerm ⟨Nat.ble_eq_true_of_le (by show FR + 8 + 1 ≤ FR + 9; omega), Nat.ble_eq_true_of_le (by show 8 + (4 + 11) + (LC + 177) ≤ LC + 200; omega)⟩ rfl rfl ⟨rfl, rfl⟩ hX hK hw [0, 1] (by decide) rfl rfl rfl rfl rfl hl.1 rfl rfl dX6_readSum_59) hw hA [0, 1] (by decide) rfl rfl (fun H locs hw => ?_)
    have hw : Wd dC dI A s.heap [wX6 h_me h_me_code q_me k_me z5.2.1, wX0 h_me_code nc_me_code ns_me_code q_me_code k_me_code z5.2.2] H locs := hw
    refine lv_if_ne (tgt := 67) hx hb dX6_readSum_62 (by decide) (fun c => ?_) (fun c => ?_)
    · have h := z_f h c
      refine lv_aload_n hx hb dX6_readSum_67 rfl (lv_at hl 1 rfl) ?_
      refine fgX6_1 hx hb hts hown hK hw 0 rfl kw202 dX6_readSum_68 ?_
      refine lv_iload_n hx hb dX6_readSum_71 rfl (lv_at hl 0 rfl) ?_
      refine lv_iconst (v := 0) hx hb dX6_readSum_72 (by decide) ?_
      obtain ⟨z6, ez6, h⟩ := z_bd h
      refine xj_i (xrV (As := [.int s0, .int (0 : Int32)]) (rest := []) ⟨hx, hb, hml, hown, hts⟩ (m_X0_add l dC dI _ h_me_code q_me_code k_me_code nc_me_code ns_me_code z5.2.2 s0 (0 : Int32) z6 ez6) kw775 kw772 kw773 kw774 kw112 hd_X0_add ⟨Nat.ble_eq_true_of_le (by show 0 + 1 ≤ FR + 9; omega), Nat.ble_eq_true_of_le (by show 8 + (3 + 11) + (0) ≤ LC + 200; omega)⟩ rfl rfl ⟨rfl, rfl⟩ hX hK hw [1] (by decide) rfl rfl rfl rfl rfl hl.1 rfl rfl dX6_readSum_73) hw hA [1] (by decide) rfl rfl (fun H locs hw => ?_)
      have hw : Wd dC dI A s.heap [wX6 h_me h_me_code q_me k_me z5.2.1, wX0 h_me_code nc_me_code ns_me_code q_me_code k_me_code z6.2] H locs := hw
      refine lv_pop hx hb dX6_readSum_76 rfl ?_
      obtain ⟨x7, ex7, h⟩ := z_lt h
      refine lv_iinc (v := x7) (lv' := [(2, .int x7), (3, .int s0), (0, .ref h_me), (1, .int v1)]) hx hb dX6_readSum_77 hl (k := 3) rfl ((congrArg (v2 + ·) (show Int32.ofInt 1 = (1 : Int32) from by decide)).trans ex7.symm) (by decide) rfl (fun ls hl => ?_)
      refine lv_goto (tgt := 12) hx hb dX6_readSum_80 (by decide) ?_
      exact hrec_12_0 v1 x7 z5.2.1 z6.2 _ _ _ h hw (lv_sub hl [2, 3, 0] rfl)
    · have h := z_t h c
      refine lv_iconst (v := 0) hx hb dX6_readSum_65 (by decide) ?_
      have hy := Option.some.inj h
      rw [← hQz, ← hy]
      exact xr_i (v := (0 : Int32)) hx hb hr rfl hlk hK hw dX6_readSum_66
  have bk_37_1 : ∀ (rec_12_0 : Int32 × Int32 × Ob × Ob → Option (Int32 × Ob × Ob)) (hrec_12_0 : ∀ (v1 : Int32) (v2 : Int32) (o_me : Ob) (o_me_code : Ob) (H : Heap) (locs : List Loc) (ls : Array Slot), rec_12_0 (v1, v2, o_me, o_me_code) = some y → Wd dC dI A s.heap [wX6 h_me h_me_code q_me k_me o_me, wX0 h_me_code nc_me_code ns_me_code q_me_code k_me_code o_me_code] H locs → lv_has ls 4 [(0, .ref h_me), (1, .int v1), (2, .int v2)] → W p l e ({ frames := FR + 9, cells := 0, slots := 0, locals := LC + 200 } : Room) s m ([.ref h_me, .int p0] : List Value).toArray below meth c H locs 0 0 Qz (F0 m 12 ls [])), ∀ (v1 : Int32) (v2 : Int32) (o_me : Ob) (o_me_code : Ob) (H : Heap) (locs : List Loc) (ls : Array Slot), bk_X6_readSum_37 rS nc_me_code ns_me_code rec_12_0 v1 v2 o_me o_me_code = some y → Wd dC dI A s.heap [wX6 h_me h_me_code q_me k_me o_me, wX0 h_me_code nc_me_code ns_me_code q_me_code k_me_code o_me_code] H locs → lv_has ls 4 [(0, .ref h_me), (1, .int v1), (2, .int v2)] → W p l e ({ frames := FR + 9, cells := 0, slots := 0, locals := LC + 200 } : Room) s m ([.ref h_me, .int p0] : List Value).toArray below meth c H locs 0 0 Qz (F0 m 37 ls []) := by
    intro rec_12_0 hrec_12_0
    intro v1 v2 o_me o_me_code H locs ls h hw hl
    unfold bk_X6_readSum_37 at h
    refine lv_aload_n hx hb dX6_readSum_37 rfl (lv_at hl 0 rfl) ?_
    refine lv_bipush (v := 43) hx hb dX6_readSum_38 (by decide) ?_
    obtain ⟨z3, ez3, h⟩ := z_bd h
    refine xj_i (xrV (As := [.int (43 : Int32)]) (rest := []) ⟨hx, hb, hml, hown, hts⟩ (m_X6_isSign l dC dI _ h_me h_me_code q_me k_me o_me (43 : Int32) z3 ez3) kw765 kw762 kw764 kw13 kw111 hd_X6_isSign ⟨Nat.ble_eq_true_of_le (by show 1 + 1 ≤ FR + 9; omega), Nat.ble_eq_true_of_le (by show 8 + (2 + 11) + (21) ≤ LC + 200; omega)⟩ rfl rfl ⟨rfl, rfl⟩ hX hK hw [0] (by decide) rfl rfl rfl rfl rfl hl.1 rfl rfl dX6_readSum_40) hw hA [0] (by decide) rfl rfl (fun H locs hw => ?_)
    have hw : Wd dC dI A s.heap [wX6 h_me h_me_code q_me k_me o_me, wX0 h_me_code nc_me_code ns_me_code q_me_code k_me_code o_me_code] H locs := hw
    refine lv_if_eq (tgt := 50) hx hb dX6_readSum_43 (by decide) (fun c => ?_) (fun c => ?_)
    · have h := z_t h c
      refine lv_bipush (v := 6) hx hb dX6_readSum_50 (by decide) ?_
      exact bk_52_2 rec_12_0 hrec_12_0 v1 v2 (6 : Int32) o_me o_me_code _ _ _ h hw (lv_sub hl [0, 1, 2] rfl)
    · have h := z_f h c
      refine lv_iconst (v := 5) hx hb dX6_readSum_46 (by decide) ?_
      refine lv_goto (tgt := 52) hx hb dX6_readSum_47 (by decide) ?_
      exact bk_52_2 rec_12_0 hrec_12_0 v1 v2 (5 : Int32) o_me o_me_code _ _ _ h hw (lv_sub hl [0, 1, 2] rfl)
  have lp_12_0 : ∀ (N : Nat), ∀ (v1 : Int32) (v2 : Int32) (o_me : Ob) (o_me_code : Ob) (H : Heap) (locs : List Loc) (ls : Array Slot), lp_X6_readSum_12 rS nc_me_code ns_me_code  N (v1, v2, o_me, o_me_code) = some y → Wd dC dI A s.heap [wX6 h_me h_me_code q_me k_me o_me, wX0 h_me_code nc_me_code ns_me_code q_me_code k_me_code o_me_code] H locs → lv_has ls 4 [(0, .ref h_me), (1, .int v1), (2, .int v2)] → W p l e ({ frames := FR + 9, cells := 0, slots := 0, locals := LC + 200 } : Room) s m ([.ref h_me, .int p0] : List Value).toArray below meth c H locs 0 0 Qz (F0 m 12 ls []) := by
    intro N
    induction N with
    | zero =>
      intro v1 v2 o_me o_me_code H locs ls h hw hl
      exact absurd (show (none : Option (Int32 × Ob × Ob)) = some y from h) (by simp)
    | succ N ih =>
      intro v1 v2 o_me o_me_code H locs ls h hw hl
      have h : lb_X6_readSum_12 rS nc_me_code ns_me_code  (lp_X6_readSum_12 rS nc_me_code ns_me_code  N) v1 v2 o_me o_me_code = some y := h
      unfold lb_X6_readSum_12 at h
      refine lv_iload_n hx hb dX6_readSum_12 rfl (lv_at hl 2 rfl) ?_
      refine lv_sipush (v := 400) hx hb dX6_readSum_13 (by decide) ?_
      refine lv_icmp_ge (tgt := 83) hx hb dX6_readSum_16 (by decide) (fun c => ?_) (fun c => ?_)
      · have h := z_t h c
        refine lv_iconst (v := 1) hx hb dX6_readSum_83 (by decide) ?_
        have hy := Option.some.inj h
        rw [← hQz, ← hy]
        exact xr_i (v := (1 : Int32)) hx hb hr rfl hlk hK hw dX6_readSum_84
      · have h := z_f h c
        refine lv_aload_n hx hb dX6_readSum_19 rfl (lv_at hl 0 rfl) ?_
        refine lv_bipush (v := 43) hx hb dX6_readSum_20 (by decide) ?_
        obtain ⟨z2, ez2, h⟩ := z_bd h
        refine xj_i (xrV (As := [.int (43 : Int32)]) (rest := []) ⟨hx, hb, hml, hown, hts⟩ (m_X6_isSign l dC dI _ h_me h_me_code q_me k_me o_me (43 : Int32) z2 ez2) kw765 kw762 kw764 kw13 kw111 hd_X6_isSign ⟨Nat.ble_eq_true_of_le (by show 1 + 1 ≤ FR + 9; omega), Nat.ble_eq_true_of_le (by show 8 + (2 + 11) + (21) ≤ LC + 200; omega)⟩ rfl rfl ⟨rfl, rfl⟩ hX hK hw [0] (by decide) rfl rfl rfl rfl rfl hl.1 rfl rfl dX6_readSum_22) hw hA [0] (by decide) rfl rfl (fun H locs hw => ?_)
        have hw : Wd dC dI A s.heap [wX6 h_me h_me_code q_me k_me o_me, wX0 h_me_code nc_me_code ns_me_code q_me_code k_me_code o_me_code] H locs := hw
        refine lv_if_ne (tgt := 37) hx hb dX6_readSum_25 (by decide) (fun c => ?_) (fun c => ?_)
        · have h := z_f h c
          exact bk_37_1 (lp_X6_readSum_12 rS nc_me_code ns_me_code  N) ih v1 v2 o_me o_me_code _ _ _ h hw (lv_sub hl [0, 1, 2] rfl)
        · have h := z_t h c
          refine lv_aload_n hx hb dX6_readSum_28 rfl (lv_at hl 0 rfl) ?_
          refine lv_bipush (v := 45) hx hb dX6_readSum_29 (by decide) ?_
          obtain ⟨z8, ez8, h⟩ := z_bd h
          refine xj_i (xrV (As := [.int (45 : Int32)]) (rest := []) ⟨hx, hb, hml, hown, hts⟩ (m_X6_isSign l dC dI _ h_me h_me_code q_me k_me o_me (45 : Int32) z8 ez8) kw765 kw762 kw764 kw13 kw111 hd_X6_isSign ⟨Nat.ble_eq_true_of_le (by show 1 + 1 ≤ FR + 9; omega), Nat.ble_eq_true_of_le (by show 8 + (2 + 11) + (21) ≤ LC + 200; omega)⟩ rfl rfl ⟨rfl, rfl⟩ hX hK hw [0] (by decide) rfl rfl rfl rfl rfl hl.1 rfl rfl dX6_readSum_31) hw hA [0] (by decide) rfl rfl (fun H locs hw => ?_)
          have hw : Wd dC dI A s.heap [wX6 h_me h_me_code q_me k_me o_me, wX0 h_me_code nc_me_code ns_me_code q_me_code k_me_code o_me_code] H locs := hw
          refine lv_if_eq (tgt := 83) hx hb dX6_readSum_34 (by decide) (fun c => ?_) (fun c => ?_)
          · have h := z_t h c
            refine lv_iconst (v := 1) hx hb dX6_readSum_83 (by decide) ?_
            have hy := Option.some.inj h
            rw [← hQz, ← hy]
            exact xr_i (v := (1 : Int32)) hx hb hr rfl hlk hK hw dX6_readSum_84
          · have h := z_f h c
            exact bk_37_1 (lp_X6_readSum_12 rS nc_me_code ns_me_code  N) ih v1 v2 o_me o_me_code _ _ _ h hw (lv_sub hl [0, 1, 2] rfl)
  unfold f_X6_readSum at h
  refine lv_aload_n hx hb dX6_readSum_0 rfl (lv_at hl 0 rfl) ?_
  refine lv_iload_n hx hb dX6_readSum_1 rfl (lv_at hl 1 rfl) ?_
  obtain ⟨z1, ez1, h⟩ := z_bd h
  refine xj_i (xrV (As := [.int p0]) (rest := []) ⟨hx, hb, hml, hown, hts⟩ (m_X6_readTerm l dC dI _ h_me h_me_code q_me k_me q_me_code k_me_code nc_me_code ns_me_code rS FR LC hrS o_me o_me_code p0 z1 ez1) kw757 kw754 kw756 kw11 kw111 hd_X6_readTerm ⟨Nat.ble_eq_true_of_le (by show FR + 8 + 1 ≤ FR + 9; omega), Nat.ble_eq_true_of_le (by show 8 + (4 + 11) + (LC + 177) ≤ LC + 200; omega)⟩ rfl rfl ⟨rfl, rfl⟩ hX hK hw [0, 1] (by decide) rfl rfl rfl rfl rfl hl.1 rfl rfl dX6_readSum_2) hw hA [0, 1] (by decide) rfl rfl (fun H locs hw => ?_)
  have hw : Wd dC dI A s.heap [wX6 h_me h_me_code q_me k_me z1.2.1, wX0 h_me_code nc_me_code ns_me_code q_me_code k_me_code z1.2.2] H locs := hw
  refine lv_if_ne (tgt := 10) hx hb dX6_readSum_5 (by decide) (fun c => ?_) (fun c => ?_)
  · have h := z_f h c
    refine lv_iconst (v := 0) hx hb dX6_readSum_10 (by decide) ?_
    refine lv_istore_n (lv' := [(2, .int (0 : Int32)), (0, .ref h_me), (1, .int p0)]) hx hb dX6_readSum_11 rfl hl (by decide) rfl (fun ls hl => ?_)
    exact lp_12_0  zfu p0 (0 : Int32) z1.2.1 z1.2.2 _ _ _ h hw (lv_sub hl [1, 2, 0] rfl)
  · have h := z_t h c
    refine lv_iconst (v := 0) hx hb dX6_readSum_8 (by decide) ?_
    have hy := Option.some.inj h
    rw [← hQz, ← hy]
    exact xr_i (v := (0 : Int32)) hx hb hr rfl hlk hK hw dX6_readSum_9

def fx_X6_readSum (nc_me_code : Nat) (ns_me_code : Nat) : Nat → Ob → Ob → Int32 → Option (Int32 × Ob × Ob)
  | 0 => fun _ _ _ => none
  | d + 1 => fun o1 o2 b => f_X6_readSum (fx_X6_readSum nc_me_code ns_me_code d) nc_me_code ns_me_code o1 o2 b
theorem mx_X6_readSum (l : Launch) (dC : Nat → ClassId) (dI : Nat → Nat → Nat) (h_me : Nat) (h_me_code : Nat) (q_me : Nat → Nat) (k_me : Nat → ClassId) (q_me_code : Nat → Nat) (k_me_code : Nat → ClassId) (nc_me_code : Nat) (ns_me_code : Nat) : ∀ (d : Nat) (sz : Nat) (o_me : Ob) (o_me_code : Ob) (p0 : Int32) (y : Int32 × Ob × Ob), fx_X6_readSum nc_me_code ns_me_code d o_me o_me_code p0 = some y → CI l yX6_readSum cX6_readSum 4 (some .boolean) ({ frames := 9 * d, cells := 0, slots := 0, locals := 200 * d } : Room) dC dI sz [.ref h_me, .int p0] [wX6 h_me h_me_code q_me k_me o_me, wX0 h_me_code nc_me_code ns_me_code q_me_code k_me_code o_me_code] [tX6 k_me, tX0 k_me_code] y.1 [wX6 h_me h_me_code q_me k_me y.2.1, wX0 h_me_code nc_me_code ns_me_code q_me_code k_me_code y.2.2] := by
  intro d
  induction d with
  | zero =>
    intro sz o_me o_me_code p0 y h
    exact absurd (show (none : Option (Int32 × Ob × Ob)) = some y from h) (by simp)
  | succ d ih =>
    intro sz o_me o_me_code p0 y h
    exact m_X6_readSum l dC dI sz h_me h_me_code q_me k_me q_me_code k_me_code nc_me_code ns_me_code (fx_X6_readSum nc_me_code ns_me_code d) _ _ ih o_me o_me_code p0 y h

def bk_X6_readPlain_185 (rT : Ob → Ob → Int32 → Option (Int32 × Ob × Ob)) (nc_me_code : Nat) (ns_me_code : Nat)  (v2 : Int32) (o_me : Ob) (o_me_code : Ob) : Option (Int32 × Ob × Ob) :=
  if v2 = (0 : Int32) then
  (some ((1 : Int32), o_me, o_me_code))
  else
  ((f_X0_add nc_me_code ns_me_code o_me_code (2 : Int32) (0 : Int32)).bind fun z9 =>
  some ((1 : Int32), o_me, z9.2))
def bk_X6_readPlain_150 (rT : Ob → Ob → Int32 → Option (Int32 × Ob × Ob)) (nc_me_code : Nat) (ns_me_code : Nat)  (v1 : Int32) (v2 : Int32) (s0 : Int32) (o_me : Ob) (o_me_code : Ob) : Option (Int32 × Ob × Ob) :=
  if s0 = (-1 : Int32) then
  ((f_X6_stop o_me).bind fun z10 =>
  zgd (zbo z10.1) <|
  some (z10.1, z10.2, o_me_code))
  else
  ((f_X6_step o_me).bind fun z6 =>
  (fx_X6_readSum nc_me_code ns_me_code 10 z6 o_me_code v1).bind fun z7 =>
  if z7.1 = (0 : Int32) then
  (some ((0 : Int32), z7.2.1, z7.2.2))
  else
  ((f_X0_add nc_me_code ns_me_code z7.2.2 s0 (0 : Int32)).bind fun z8 =>
  bk_X6_readPlain_185 rT nc_me_code ns_me_code  v2 z7.2.1 z8.2))
def bk_X6_readPlain_40 (rT : Ob → Ob → Int32 → Option (Int32 × Ob × Ob)) (nc_me_code : Nat) (ns_me_code : Nat)  (v1 : Int32) (v2 : Int32) (o_me : Ob) (o_me_code : Ob) : Option (Int32 × Ob × Ob) :=
  (f_X6_isSign o_me (40 : Int32)).bind fun z1 =>
  if z1 = (0 : Int32) then
  ((fx_X6_readSum nc_me_code ns_me_code 10 o_me o_me_code v1).bind fun z2 =>
  if z2.1 = (0 : Int32) then
  (some ((0 : Int32), z2.2.1, z2.2.2))
  else
  ((f_X6_isSign z2.2.1 (60 : Int32)).bind fun z3 =>
  if z3 = (0 : Int32) then
  ((f_X6_isSign z2.2.1 (62 : Int32)).bind fun z4 =>
  if z4 = (0 : Int32) then
  ((f_X6_isSign z2.2.1 (61 : Int32)).bind fun z5 =>
  if z5 = (0 : Int32) then
  (bk_X6_readPlain_150 rT nc_me_code ns_me_code  v1 v2 (-1 : Int32) z2.2.1 z2.2.2)
  else
  (bk_X6_readPlain_150 rT nc_me_code ns_me_code  v1 v2 (12 : Int32) z2.2.1 z2.2.2))
  else
  (bk_X6_readPlain_150 rT nc_me_code ns_me_code  v1 v2 (11 : Int32) z2.2.1 z2.2.2))
  else
  (bk_X6_readPlain_150 rT nc_me_code ns_me_code  v1 v2 (10 : Int32) z2.2.1 z2.2.2)))
  else
  (if v1 < (8 : Int32) then
  ((f_X6_step o_me).bind fun z12 =>
  (rT z12 o_me_code (v1 + (1 : Int32))).bind fun z13 =>
  if z13.1 = (0 : Int32) then
  (some ((0 : Int32), z13.2.1, z13.2.2))
  else
  ((f_X6_isSign z13.2.1 (41 : Int32)).bind fun z14 =>
  if z14 = (0 : Int32) then
  ((f_X6_stop z13.2.1).bind fun z16 =>
  zgd (zbo z16.1) <|
  some (z16.1, z16.2, z13.2.2))
  else
  ((f_X6_step z13.2.1).bind fun z15 =>
  bk_X6_readPlain_185 rT nc_me_code ns_me_code  v2 z15 z13.2.2)))
  else
  ((f_X6_stop o_me).bind fun z18 =>
  zgd (zbo z18.1) <|
  some (z18.1, z18.2, o_me_code)))
def bk_X6_readPlain_33 (rT : Ob → Ob → Int32 → Option (Int32 × Ob × Ob)) (nc_me_code : Nat) (ns_me_code : Nat) (rec_4_0 : Int32 × Int32 × Int32 × Ob × Ob → Option (Int32 × Ob × Ob)) (v1 : Int32) (v3 : Int32) (s0 : Int32) (o_me : Ob) (o_me_code : Ob) : Option (Int32 × Ob × Ob) :=
  zlt (v3 + (1 : Int32)) fun x22 =>
  rec_4_0 (v1, s0, x22, o_me, o_me_code)
def lb_X6_readPlain_4 (rT : Ob → Ob → Int32 → Option (Int32 × Ob × Ob)) (nc_me_code : Nat) (ns_me_code : Nat)  (rec_4_0 : Int32 × Int32 × Int32 × Ob × Ob → Option (Int32 × Ob × Ob)) (v1 : Int32) (v2 : Int32) (v3 : Int32) (o_me : Ob) (o_me_code : Ob) : Option (Int32 × Ob × Ob) :=
  if (400 : Int32) ≤ v3 then
  (bk_X6_readPlain_40 rT nc_me_code ns_me_code  v1 v2 o_me o_me_code)
  else
  ((f_X6_isWord o_me 6).bind fun z20 =>
  if z20 = (0 : Int32) then
  (bk_X6_readPlain_40 rT nc_me_code ns_me_code  v1 v2 o_me o_me_code)
  else
  ((f_X6_step o_me).bind fun z21 =>
  if v2 = (0 : Int32) then
  (bk_X6_readPlain_33 rT nc_me_code ns_me_code rec_4_0 v1 v3 (1 : Int32) z21 o_me_code)
  else
  (bk_X6_readPlain_33 rT nc_me_code ns_me_code rec_4_0 v1 v3 (0 : Int32) z21 o_me_code)))
def lp_X6_readPlain_4 (rT : Ob → Ob → Int32 → Option (Int32 × Ob × Ob)) (nc_me_code : Nat) (ns_me_code : Nat)  : Nat → (Int32 × Int32 × Int32 × Ob × Ob) → Option (Int32 × Ob × Ob) := zit (fun rec a => lb_X6_readPlain_4 rT nc_me_code ns_me_code  rec a.1 a.2.1 a.2.2.1 a.2.2.2.1 a.2.2.2.2)
def f_X6_readPlain (rT : Ob → Ob → Int32 → Option (Int32 × Ob × Ob)) (nc_me_code : Nat) (ns_me_code : Nat) (o_me : Ob) (o_me_code : Ob) (p0 : Int32) : Option (Int32 × Ob × Ob) :=
  lp_X6_readPlain_4 rT nc_me_code ns_me_code  zfu (p0, (0 : Int32), (0 : Int32), o_me, o_me_code)
set_option maxHeartbeats 4000000 in
set_option maxRecDepth 100000 in
theorem m_X6_readPlain (l : Launch) (dC : Nat → ClassId) (dI : Nat → Nat → Nat) (sz : Nat) (h_me : Nat) (h_me_code : Nat) (q_me : Nat → Nat) (k_me : Nat → ClassId) (q_me_code : Nat → Nat) (k_me_code : Nat → ClassId) (nc_me_code : Nat) (ns_me_code : Nat) (rT : Ob → Ob → Int32 → Option (Int32 × Ob × Ob)) (FR LC : Nat) (hrT : ∀ (sz : Nat) (o_me : Ob) (o_me_code : Ob) (p0 : Int32) (y : Int32 × Ob × Ob), rT o_me o_me_code p0 = some y → CI l yX6_readTest cX6_readTest 4 (some .boolean) ({ frames := FR, cells := 0, slots := 0, locals := LC } : Room) dC dI sz [.ref h_me, .int p0] [wX6 h_me h_me_code q_me k_me o_me, wX0 h_me_code nc_me_code ns_me_code q_me_code k_me_code o_me_code] [tX6 k_me, tX0 k_me_code] y.1 [wX6 h_me h_me_code q_me k_me y.2.1, wX0 h_me_code nc_me_code ns_me_code q_me_code k_me_code y.2.2]) (o_me : Ob) (o_me_code : Ob) (p0 : Int32) (y : Int32 × Ob × Ob) (h : f_X6_readPlain rT nc_me_code ns_me_code o_me o_me_code p0 = some y) : CI l yX6_readPlain cX6_readPlain 4 (some .boolean) ({ frames := FR + 91, cells := 0, slots := 0, locals := LC + 2023 } : Room) dC dI sz [.ref h_me, .int p0] [wX6 h_me h_me_code q_me k_me o_me, wX0 h_me_code nc_me_code ns_me_code q_me_code k_me_code o_me_code] [tX6 k_me, tX0 k_me_code] y.1 [wX6 h_me h_me_code q_me k_me y.2.1, wX0 h_me_code nc_me_code ns_me_code q_me_code k_me_code y.2.2] := by
  refine CC_of (by decide) (Nat.le_of_ble_eq_true rfl) ?_
  intro p e s m below meth c A ls hx hb hml hr hlk hnm hown hts hX hK hP hD hA hl
  have hl : lv_has ls 4 [(0, .ref h_me), (1, .int p0)] := hl
  have hown : s.vm.findClass RX6 = some m.cls := hown
  have hw : Wd dC dI A s.heap [wX6 h_me h_me_code q_me k_me o_me, wX0 h_me_code nc_me_code ns_me_code q_me_code k_me_code o_me_code] s.heap [] := ⟨hP, hD, va_S.rf⟩
  generalize hQz : (MQ below (QI dC dI (fun r (_ : Unit) => r = y.1) (fun _ => Jn [wX6 h_me h_me_code q_me k_me y.2.1, wX0 h_me_code nc_me_code ns_me_code q_me_code k_me_code y.2.2]) (fun _ => Jt [tX6 k_me, tX0 k_me_code]) A) ([.ref h_me, .int p0] : List Value).toArray s 0 0 A) = Qz
  clear hP hD hnm
  have bk_185_3 : ∀ (v2 : Int32) (o_me : Ob) (o_me_code : Ob) (H : Heap) (locs : List Loc) (ls : Array Slot), bk_X6_readPlain_185 rT nc_me_code ns_me_code  v2 o_me o_me_code = some y → Wd dC dI A s.heap [wX6 h_me h_me_code q_me k_me o_me, wX0 h_me_code nc_me_code ns_me_code q_me_code k_me_code o_me_code] H locs → lv_has ls 4 [(0, .ref h_me), (2, .int v2)] → W p l e ({ frames := FR + 91, cells := 0, slots := 0, locals := LC + 2023 } : Room) s m ([.ref h_me, .int p0] : List Value).toArray below meth c H locs 0 0 Qz (F0 m 185 ls []) := by
    intro v2 o_me o_me_code H locs ls h hw hl
    unfold bk_X6_readPlain_185 at h
    refine lv_iload_n hx hb dX6_readPlain_185 rfl (lv_at hl 1 rfl) ?_
    refine lv_if_eq (tgt := 199) hx hb dX6_readPlain_186 (by decide) (fun c => ?_) (fun c => ?_)
    · have h := z_t h c
      refine lv_iconst (v := 1) hx hb dX6_readPlain_199 (by decide) ?_
      have hy := Option.some.inj h
      rw [← hQz, ← hy]
      exact xr_i (v := (1 : Int32)) hx hb hr rfl hlk hK hw dX6_readPlain_200
    · have h := z_f h c
      refine lv_aload_n hx hb dX6_readPlain_189 rfl (lv_at hl 0 rfl) ?_
      refine fgX6_1 hx hb hts hown hK hw 0 rfl kw202 dX6_readPlain_190 ?_
      refine lv_iconst (v := 2) hx hb dX6_readPlain_193 (by decide) ?_
      refine lv_iconst (v := 0) hx hb dX6_readPlain_194 (by decide) ?_
      obtain ⟨z9, ez9, h⟩ := z_bd h
      refine xj_i (xrV (As := [.int (2 : Int32), .int (0 : Int32)]) (rest := []) ⟨hx, hb, hml, hown, hts⟩ (m_X0_add l dC dI _ h_me_code q_me_code k_me_code nc_me_code ns_me_code o_me_code (2 : Int32) (0 : Int32) z9 ez9) kw775 kw772 kw773 kw774 kw112 hd_X0_add ⟨Nat.ble_eq_true_of_le (by show 0 + 1 ≤ FR + 91; omega), Nat.ble_eq_true_of_le (by show 8 + (3 + 11) + (0) ≤ LC + 2023; omega)⟩ rfl rfl ⟨rfl, rfl⟩ hX hK hw [1] (by decide) rfl rfl rfl rfl rfl hl.1 rfl rfl dX6_readPlain_195) hw hA [1] (by decide) rfl rfl (fun H locs hw => ?_)
      have hw : Wd dC dI A s.heap [wX6 h_me h_me_code q_me k_me o_me, wX0 h_me_code nc_me_code ns_me_code q_me_code k_me_code z9.2] H locs := hw
      refine lv_pop hx hb dX6_readPlain_198 rfl ?_
      refine lv_iconst (v := 1) hx hb dX6_readPlain_199 (by decide) ?_
      have hy := Option.some.inj h
      rw [← hQz, ← hy]
      exact xr_i (v := (1 : Int32)) hx hb hr rfl hlk hK hw dX6_readPlain_200
  have bk_150_2 : ∀ (v1 : Int32) (v2 : Int32) (s0 : Int32) (o_me : Ob) (o_me_code : Ob) (H : Heap) (locs : List Loc) (ls : Array Slot), bk_X6_readPlain_150 rT nc_me_code ns_me_code  v1 v2 s0 o_me o_me_code = some y → Wd dC dI A s.heap [wX6 h_me h_me_code q_me k_me o_me, wX0 h_me_code nc_me_code ns_me_code q_me_code k_me_code o_me_code] H locs → lv_has ls 4 [(0, .ref h_me), (1, .int v1), (2, .int v2)] → W p l e ({ frames := FR + 91, cells := 0, slots := 0, locals := LC + 2023 } : Room) s m ([.ref h_me, .int p0] : List Value).toArray below meth c H locs 0 0 Qz (F0 m 150 ls [.int s0]) := by
    intro v1 v2 s0 o_me o_me_code H locs ls h hw hl
    unfold bk_X6_readPlain_150 at h
    refine lv_istore_n (lv' := [(3, .int s0), (0, .ref h_me), (1, .int v1), (2, .int v2)]) hx hb dX6_readPlain_150 rfl hl (by decide) rfl (fun ls hl => ?_)
    refine lv_iload_n hx hb dX6_readPlain_151 rfl (lv_at hl 0 rfl) ?_
    refine lv_iconst (v := (-1)) hx hb dX6_readPlain_152 (by decide) ?_
    refine lv_icmp_ne (tgt := 161) hx hb dX6_readPlain_153 (by decide) (fun c => ?_) (fun c => ?_)
    · have h := z_f h c
      refine lv_aload_n hx hb dX6_readPlain_161 rfl (lv_at hl 1 rfl) ?_
      obtain ⟨z6, ez6, h⟩ := z_bd h
      refine xj_v (xrV (As := []) (rest := []) ⟨hx, hb, hml, hown, hts⟩ (m_X6_step l dC dI _ h_me h_me_code q_me k_me o_me z6 ez6) kw675 kw672 kw674 kw5 kw111 hd_X6_step ⟨Nat.ble_eq_true_of_le (by show 1 + 1 ≤ FR + 91; omega), Nat.ble_eq_true_of_le (by show 8 + (2 + 11) + (21) ≤ LC + 2023; omega)⟩ rfl rfl ⟨rfl, rfl⟩ hX hK hw [0] (by decide) rfl rfl rfl rfl rfl hl.1 rfl rfl dX6_readPlain_162) hw hA [0] (by decide) rfl rfl (fun H locs hw => ?_)
      have hw : Wd dC dI A s.heap [wX6 h_me h_me_code q_me k_me z6, wX0 h_me_code nc_me_code ns_me_code q_me_code k_me_code o_me_code] H locs := hw
      refine lv_aload_n hx hb dX6_readPlain_165 rfl (lv_at hl 1 rfl) ?_
      refine lv_iload_n hx hb dX6_readPlain_166 rfl (lv_at hl 2 rfl) ?_
      obtain ⟨z7, ez7, h⟩ := z_bd h
      refine xj_i (xrV (As := [.int v1]) (rest := []) ⟨hx, hb, hml, hown, hts⟩ (mx_X6_readSum l dC dI h_me h_me_code q_me k_me q_me_code k_me_code nc_me_code ns_me_code 10 _ z6 o_me_code v1 z7 ez7) kw753 kw750 kw752 kw10 kw111 hd_X6_readSum ⟨Nat.ble_eq_true_of_le (by show 90 + 1 ≤ FR + 91; omega), Nat.ble_eq_true_of_le (by show 8 + (4 + 11) + (2000) ≤ LC + 2023; omega)⟩ rfl rfl ⟨rfl, rfl⟩ hX hK hw [0, 1] (by decide) rfl rfl rfl rfl rfl hl.1 rfl rfl dX6_readPlain_167) hw hA [0, 1] (by decide) rfl rfl (fun H locs hw => ?_)
      have hw : Wd dC dI A s.heap [wX6 h_me h_me_code q_me k_me z7.2.1, wX0 h_me_code nc_me_code ns_me_code q_me_code k_me_code z7.2.2] H locs := hw
      refine lv_if_ne (tgt := 175) hx hb dX6_readPlain_170 (by decide) (fun c => ?_) (fun c => ?_)
      · have h := z_f h c
        refine lv_aload_n hx hb dX6_readPlain_175 rfl (lv_at hl 1 rfl) ?_
        refine fgX6_1 hx hb hts hown hK hw 0 rfl kw202 dX6_readPlain_176 ?_
        refine lv_iload_n hx hb dX6_readPlain_179 rfl (lv_at hl 0 rfl) ?_
        refine lv_iconst (v := 0) hx hb dX6_readPlain_180 (by decide) ?_
        obtain ⟨z8, ez8, h⟩ := z_bd h
        refine xj_i (xrV (As := [.int s0, .int (0 : Int32)]) (rest := []) ⟨hx, hb, hml, hown, hts⟩ (m_X0_add l dC dI _ h_me_code q_me_code k_me_code nc_me_code ns_me_code z7.2.2 s0 (0 : Int32) z8 ez8) kw775 kw772 kw773 kw774 kw112 hd_X0_add ⟨Nat.ble_eq_true_of_le (by show 0 + 1 ≤ FR + 91; omega), Nat.ble_eq_true_of_le (by show 8 + (3 + 11) + (0) ≤ LC + 2023; omega)⟩ rfl rfl ⟨rfl, rfl⟩ hX hK hw [1] (by decide) rfl rfl rfl rfl rfl hl.1 rfl rfl dX6_readPlain_181) hw hA [1] (by decide) rfl rfl (fun H locs hw => ?_)
        have hw : Wd dC dI A s.heap [wX6 h_me h_me_code q_me k_me z7.2.1, wX0 h_me_code nc_me_code ns_me_code q_me_code k_me_code z8.2] H locs := hw
        refine lv_pop hx hb dX6_readPlain_184 rfl ?_
        exact bk_185_3  v2 z7.2.1 z8.2 _ _ _ h hw (lv_sub hl [1, 3] rfl)
      · have h := z_t h c
        refine lv_iconst (v := 0) hx hb dX6_readPlain_173 (by decide) ?_
        have hy := Option.some.inj h
        rw [← hQz, ← hy]
        exact xr_i (v := (0 : Int32)) hx hb hr rfl hlk hK hw dX6_readPlain_174
    · have h := z_t h c
      refine lv_aload_n hx hb dX6_readPlain_156 rfl (lv_at hl 1 rfl) ?_
      obtain ⟨z10, ez10, h⟩ := z_bd h
      refine xj_i (xrV (As := []) (rest := []) ⟨hx, hb, hml, hown, hts⟩ (m_X6_stop l dC dI _ h_me h_me_code q_me k_me o_me z10 ez10) kw749 kw746 kw748 kw9 kw111 hd_X6_stop ⟨Nat.ble_eq_true_of_le (by show 0 + 1 ≤ FR + 91; omega), Nat.ble_eq_true_of_le (by show 8 + (1 + 11) + (0) ≤ LC + 2023; omega)⟩ rfl rfl ⟨rfl, rfl⟩ hX hK hw [0] (by decide) rfl rfl rfl rfl rfl hl.1 rfl rfl dX6_readPlain_157) hw hA [0] (by decide) rfl rfl (fun H locs hw => ?_)
      have hw : Wd dC dI A s.heap [wX6 h_me h_me_code q_me k_me z10.2, wX0 h_me_code nc_me_code ns_me_code q_me_code k_me_code o_me_code] H locs := hw
      obtain ⟨g11, h⟩ := z_gd h
      have hy := Option.some.inj h
      rw [← hQz, ← hy]
      exact xr_i (v := z10.1) hx hb hr (z_nar g11) hlk hK hw dX6_readPlain_160
  have bk_40_1 : ∀ (v1 : Int32) (v2 : Int32) (o_me : Ob) (o_me_code : Ob) (H : Heap) (locs : List Loc) (ls : Array Slot), bk_X6_readPlain_40 rT nc_me_code ns_me_code  v1 v2 o_me o_me_code = some y → Wd dC dI A s.heap [wX6 h_me h_me_code q_me k_me o_me, wX0 h_me_code nc_me_code ns_me_code q_me_code k_me_code o_me_code] H locs → lv_has ls 4 [(0, .ref h_me), (1, .int v1), (2, .int v2)] → W p l e ({ frames := FR + 91, cells := 0, slots := 0, locals := LC + 2023 } : Room) s m ([.ref h_me, .int p0] : List Value).toArray below meth c H locs 0 0 Qz (F0 m 40 ls []) := by
    intro v1 v2 o_me o_me_code H locs ls h hw hl
    unfold bk_X6_readPlain_40 at h
    refine lv_aload_n hx hb dX6_readPlain_40 rfl (lv_at hl 0 rfl) ?_
    refine lv_bipush (v := 40) hx hb dX6_readPlain_41 (by decide) ?_
    obtain ⟨z1, ez1, h⟩ := z_bd h
    refine xj_i (xrV (As := [.int (40 : Int32)]) (rest := []) ⟨hx, hb, hml, hown, hts⟩ (m_X6_isSign l dC dI _ h_me h_me_code q_me k_me o_me (40 : Int32) z1 ez1) kw765 kw762 kw764 kw13 kw111 hd_X6_isSign ⟨Nat.ble_eq_true_of_le (by show 1 + 1 ≤ FR + 91; omega), Nat.ble_eq_true_of_le (by show 8 + (2 + 11) + (21) ≤ LC + 2023; omega)⟩ rfl rfl ⟨rfl, rfl⟩ hX hK hw [0] (by decide) rfl rfl rfl rfl rfl hl.1 rfl rfl dX6_readPlain_43) hw hA [0] (by decide) rfl rfl (fun H locs hw => ?_)
    have hw : Wd dC dI A s.heap [wX6 h_me h_me_code q_me k_me o_me, wX0 h_me_code nc_me_code ns_me_code q_me_code k_me_code o_me_code] H locs := hw
    refine lv_if_eq (tgt := 97) hx hb dX6_readPlain_46 (by decide) (fun c => ?_) (fun c => ?_)
    · have h := z_t h c
      refine lv_aload_n hx hb dX6_readPlain_97 rfl (lv_at hl 0 rfl) ?_
      refine lv_iload_n hx hb dX6_readPlain_98 rfl (lv_at hl 1 rfl) ?_
      obtain ⟨z2, ez2, h⟩ := z_bd h
      refine xj_i (xrV (As := [.int v1]) (rest := []) ⟨hx, hb, hml, hown, hts⟩ (mx_X6_readSum l dC dI h_me h_me_code q_me k_me q_me_code k_me_code nc_me_code ns_me_code 10 _ o_me o_me_code v1 z2 ez2) kw753 kw750 kw752 kw10 kw111 hd_X6_readSum ⟨Nat.ble_eq_true_of_le (by show 90 + 1 ≤ FR + 91; omega), Nat.ble_eq_true_of_le (by show 8 + (4 + 11) + (2000) ≤ LC + 2023; omega)⟩ rfl rfl ⟨rfl, rfl⟩ hX hK hw [0, 1] (by decide) rfl rfl rfl rfl rfl hl.1 rfl rfl dX6_readPlain_99) hw hA [0, 1] (by decide) rfl rfl (fun H locs hw => ?_)
      have hw : Wd dC dI A s.heap [wX6 h_me h_me_code q_me k_me z2.2.1, wX0 h_me_code nc_me_code ns_me_code q_me_code k_me_code z2.2.2] H locs := hw
      refine lv_if_ne (tgt := 107) hx hb dX6_readPlain_102 (by decide) (fun c => ?_) (fun c => ?_)
      · have h := z_f h c
        refine lv_aload_n hx hb dX6_readPlain_107 rfl (lv_at hl 0 rfl) ?_
        refine lv_bipush (v := 60) hx hb dX6_readPlain_108 (by decide) ?_
        obtain ⟨z3, ez3, h⟩ := z_bd h
        refine xj_i (xrV (As := [.int (60 : Int32)]) (rest := []) ⟨hx, hb, hml, hown, hts⟩ (m_X6_isSign l dC dI _ h_me h_me_code q_me k_me z2.2.1 (60 : Int32) z3 ez3) kw765 kw762 kw764 kw13 kw111 hd_X6_isSign ⟨Nat.ble_eq_true_of_le (by show 1 + 1 ≤ FR + 91; omega), Nat.ble_eq_true_of_le (by show 8 + (2 + 11) + (21) ≤ LC + 2023; omega)⟩ rfl rfl ⟨rfl, rfl⟩ hX hK hw [0] (by decide) rfl rfl rfl rfl rfl hl.1 rfl rfl dX6_readPlain_110) hw hA [0] (by decide) rfl rfl (fun H locs hw => ?_)
        have hw : Wd dC dI A s.heap [wX6 h_me h_me_code q_me k_me z2.2.1, wX0 h_me_code nc_me_code ns_me_code q_me_code k_me_code z2.2.2] H locs := hw
        refine lv_if_eq (tgt := 121) hx hb dX6_readPlain_113 (by decide) (fun c => ?_) (fun c => ?_)
        · have h := z_t h c
          refine lv_aload_n hx hb dX6_readPlain_121 rfl (lv_at hl 0 rfl) ?_
          refine lv_bipush (v := 62) hx hb dX6_readPlain_122 (by decide) ?_
          obtain ⟨z4, ez4, h⟩ := z_bd h
          refine xj_i (xrV (As := [.int (62 : Int32)]) (rest := []) ⟨hx, hb, hml, hown, hts⟩ (m_X6_isSign l dC dI _ h_me h_me_code q_me k_me z2.2.1 (62 : Int32) z4 ez4) kw765 kw762 kw764 kw13 kw111 hd_X6_isSign ⟨Nat.ble_eq_true_of_le (by show 1 + 1 ≤ FR + 91; omega), Nat.ble_eq_true_of_le (by show 8 + (2 + 11) + (21) ≤ LC + 2023; omega)⟩ rfl rfl ⟨rfl, rfl⟩ hX hK hw [0] (by decide) rfl rfl rfl rfl rfl hl.1 rfl rfl dX6_readPlain_124) hw hA [0] (by decide) rfl rfl (fun H locs hw => ?_)
          have hw : Wd dC dI A s.heap [wX6 h_me h_me_code q_me k_me z2.2.1, wX0 h_me_code nc_me_code ns_me_code q_me_code k_me_code z2.2.2] H locs := hw
          refine lv_if_eq (tgt := 135) hx hb dX6_readPlain_127 (by decide) (fun c => ?_) (fun c => ?_)
          · have h := z_t h c
            refine lv_aload_n hx hb dX6_readPlain_135 rfl (lv_at hl 0 rfl) ?_
            refine lv_bipush (v := 61) hx hb dX6_readPlain_136 (by decide) ?_
            obtain ⟨z5, ez5, h⟩ := z_bd h
            refine xj_i (xrV (As := [.int (61 : Int32)]) (rest := []) ⟨hx, hb, hml, hown, hts⟩ (m_X6_isSign l dC dI _ h_me h_me_code q_me k_me z2.2.1 (61 : Int32) z5 ez5) kw765 kw762 kw764 kw13 kw111 hd_X6_isSign ⟨Nat.ble_eq_true_of_le (by show 1 + 1 ≤ FR + 91; omega), Nat.ble_eq_true_of_le (by show 8 + (2 + 11) + (21) ≤ LC + 2023; omega)⟩ rfl rfl ⟨rfl, rfl⟩ hX hK hw [0] (by decide) rfl rfl rfl rfl rfl hl.1 rfl rfl dX6_readPlain_138) hw hA [0] (by decide) rfl rfl (fun H locs hw => ?_)
            have hw : Wd dC dI A s.heap [wX6 h_me h_me_code q_me k_me z2.2.1, wX0 h_me_code nc_me_code ns_me_code q_me_code k_me_code z2.2.2] H locs := hw
            refine lv_if_eq (tgt := 149) hx hb dX6_readPlain_141 (by decide) (fun c => ?_) (fun c => ?_)
            · have h := z_t h c
              refine lv_iconst (v := (-1)) hx hb dX6_readPlain_149 (by decide) ?_
              exact bk_150_2  v1 v2 (-1 : Int32) z2.2.1 z2.2.2 _ _ _ h hw (lv_sub hl [0, 1, 2] rfl)
            · have h := z_f h c
              refine lv_bipush (v := 12) hx hb dX6_readPlain_144 (by decide) ?_
              refine lv_goto (tgt := 150) hx hb dX6_readPlain_146 (by decide) ?_
              exact bk_150_2  v1 v2 (12 : Int32) z2.2.1 z2.2.2 _ _ _ h hw (lv_sub hl [0, 1, 2] rfl)
          · have h := z_f h c
            refine lv_bipush (v := 11) hx hb dX6_readPlain_130 (by decide) ?_
            refine lv_goto (tgt := 150) hx hb dX6_readPlain_132 (by decide) ?_
            exact bk_150_2  v1 v2 (11 : Int32) z2.2.1 z2.2.2 _ _ _ h hw (lv_sub hl [0, 1, 2] rfl)
        · have h := z_f h c
          refine lv_bipush (v := 10) hx hb dX6_readPlain_116 (by decide) ?_
          refine lv_goto (tgt := 150) hx hb dX6_readPlain_118 (by decide) ?_
          exact bk_150_2  v1 v2 (10 : Int32) z2.2.1 z2.2.2 _ _ _ h hw (lv_sub hl [0, 1, 2] rfl)
      · have h := z_t h c
        refine lv_iconst (v := 0) hx hb dX6_readPlain_105 (by decide) ?_
        have hy := Option.some.inj h
        rw [← hQz, ← hy]
        exact xr_i (v := (0 : Int32)) hx hb hr rfl hlk hK hw dX6_readPlain_106
    · have h := z_f h c
      refine lv_iload_n hx hb dX6_readPlain_49 rfl (lv_at hl 1 rfl) ?_
      refine lv_bipush (v := 8) hx hb dX6_readPlain_50 (by decide) ?_
      refine lv_icmp_lt (tgt := 60) hx hb dX6_readPlain_52 (by decide) (fun c => ?_) (fun c => ?_)
      · have h := z_t h c
        refine lv_aload_n hx hb dX6_readPlain_60 rfl (lv_at hl 0 rfl) ?_
        obtain ⟨z12, ez12, h⟩ := z_bd h
        refine xj_v (xrV (As := []) (rest := []) ⟨hx, hb, hml, hown, hts⟩ (m_X6_step l dC dI _ h_me h_me_code q_me k_me o_me z12 ez12) kw675 kw672 kw674 kw5 kw111 hd_X6_step ⟨Nat.ble_eq_true_of_le (by show 1 + 1 ≤ FR + 91; omega), Nat.ble_eq_true_of_le (by show 8 + (2 + 11) + (21) ≤ LC + 2023; omega)⟩ rfl rfl ⟨rfl, rfl⟩ hX hK hw [0] (by decide) rfl rfl rfl rfl rfl hl.1 rfl rfl dX6_readPlain_61) hw hA [0] (by decide) rfl rfl (fun H locs hw => ?_)
        have hw : Wd dC dI A s.heap [wX6 h_me h_me_code q_me k_me z12, wX0 h_me_code nc_me_code ns_me_code q_me_code k_me_code o_me_code] H locs := hw
        refine lv_aload_n hx hb dX6_readPlain_64 rfl (lv_at hl 0 rfl) ?_
        refine lv_iload_n hx hb dX6_readPlain_65 rfl (lv_at hl 1 rfl) ?_
        refine lv_iconst (v := 1) hx hb dX6_readPlain_66 (by decide) ?_
        refine lv_iadd hx hb dX6_readPlain_67 ?_
        obtain ⟨z13, ez13, h⟩ := z_bd h
        refine xj_i (xrV (As := [.int (v1 + (1 : Int32))]) (rest := []) ⟨hx, hb, hml, hown, hts⟩ (hrT _ z12 o_me_code (v1 + (1 : Int32)) z13 ez13) kw788 kw785 kw787 kw16 kw111 hd_X6_readTest ⟨Nat.ble_eq_true_of_le (by show FR + 1 ≤ FR + 91; omega), Nat.ble_eq_true_of_le (by show 8 + (4 + 11) + (LC) ≤ LC + 2023; omega)⟩ rfl rfl ⟨rfl, rfl⟩ hX hK hw [0, 1] (by decide) rfl rfl rfl rfl rfl hl.1 rfl rfl dX6_readPlain_68) hw hA [0, 1] (by decide) rfl rfl (fun H locs hw => ?_)
        have hw : Wd dC dI A s.heap [wX6 h_me h_me_code q_me k_me z13.2.1, wX0 h_me_code nc_me_code ns_me_code q_me_code k_me_code z13.2.2] H locs := hw
        refine lv_if_ne (tgt := 76) hx hb dX6_readPlain_71 (by decide) (fun c => ?_) (fun c => ?_)
        · have h := z_f h c
          refine lv_aload_n hx hb dX6_readPlain_76 rfl (lv_at hl 0 rfl) ?_
          refine lv_bipush (v := 41) hx hb dX6_readPlain_77 (by decide) ?_
          obtain ⟨z14, ez14, h⟩ := z_bd h
          refine xj_i (xrV (As := [.int (41 : Int32)]) (rest := []) ⟨hx, hb, hml, hown, hts⟩ (m_X6_isSign l dC dI _ h_me h_me_code q_me k_me z13.2.1 (41 : Int32) z14 ez14) kw765 kw762 kw764 kw13 kw111 hd_X6_isSign ⟨Nat.ble_eq_true_of_le (by show 1 + 1 ≤ FR + 91; omega), Nat.ble_eq_true_of_le (by show 8 + (2 + 11) + (21) ≤ LC + 2023; omega)⟩ rfl rfl ⟨rfl, rfl⟩ hX hK hw [0] (by decide) rfl rfl rfl rfl rfl hl.1 rfl rfl dX6_readPlain_79) hw hA [0] (by decide) rfl rfl (fun H locs hw => ?_)
          have hw : Wd dC dI A s.heap [wX6 h_me h_me_code q_me k_me z13.2.1, wX0 h_me_code nc_me_code ns_me_code q_me_code k_me_code z13.2.2] H locs := hw
          refine lv_if_ne (tgt := 90) hx hb dX6_readPlain_82 (by decide) (fun c => ?_) (fun c => ?_)
          · have h := z_f h c
            refine lv_aload_n hx hb dX6_readPlain_90 rfl (lv_at hl 0 rfl) ?_
            obtain ⟨z15, ez15, h⟩ := z_bd h
            refine xj_v (xrV (As := []) (rest := []) ⟨hx, hb, hml, hown, hts⟩ (m_X6_step l dC dI _ h_me h_me_code q_me k_me z13.2.1 z15 ez15) kw675 kw672 kw674 kw5 kw111 hd_X6_step ⟨Nat.ble_eq_true_of_le (by show 1 + 1 ≤ FR + 91; omega), Nat.ble_eq_true_of_le (by show 8 + (2 + 11) + (21) ≤ LC + 2023; omega)⟩ rfl rfl ⟨rfl, rfl⟩ hX hK hw [0] (by decide) rfl rfl rfl rfl rfl hl.1 rfl rfl dX6_readPlain_91) hw hA [0] (by decide) rfl rfl (fun H locs hw => ?_)
            have hw : Wd dC dI A s.heap [wX6 h_me h_me_code q_me k_me z15, wX0 h_me_code nc_me_code ns_me_code q_me_code k_me_code z13.2.2] H locs := hw
            refine lv_goto (tgt := 185) hx hb dX6_readPlain_94 (by decide) ?_
            exact bk_185_3  v2 z15 z13.2.2 _ _ _ h hw (lv_sub hl [0, 2] rfl)
          · have h := z_t h c
            refine lv_aload_n hx hb dX6_readPlain_85 rfl (lv_at hl 0 rfl) ?_
            obtain ⟨z16, ez16, h⟩ := z_bd h
            refine xj_i (xrV (As := []) (rest := []) ⟨hx, hb, hml, hown, hts⟩ (m_X6_stop l dC dI _ h_me h_me_code q_me k_me z13.2.1 z16 ez16) kw749 kw746 kw748 kw9 kw111 hd_X6_stop ⟨Nat.ble_eq_true_of_le (by show 0 + 1 ≤ FR + 91; omega), Nat.ble_eq_true_of_le (by show 8 + (1 + 11) + (0) ≤ LC + 2023; omega)⟩ rfl rfl ⟨rfl, rfl⟩ hX hK hw [0] (by decide) rfl rfl rfl rfl rfl hl.1 rfl rfl dX6_readPlain_86) hw hA [0] (by decide) rfl rfl (fun H locs hw => ?_)
            have hw : Wd dC dI A s.heap [wX6 h_me h_me_code q_me k_me z16.2, wX0 h_me_code nc_me_code ns_me_code q_me_code k_me_code z13.2.2] H locs := hw
            obtain ⟨g17, h⟩ := z_gd h
            have hy := Option.some.inj h
            rw [← hQz, ← hy]
            exact xr_i (v := z16.1) hx hb hr (z_nar g17) hlk hK hw dX6_readPlain_89
        · have h := z_t h c
          refine lv_iconst (v := 0) hx hb dX6_readPlain_74 (by decide) ?_
          have hy := Option.some.inj h
          rw [← hQz, ← hy]
          exact xr_i (v := (0 : Int32)) hx hb hr rfl hlk hK hw dX6_readPlain_75
      · have h := z_f h c
        refine lv_aload_n hx hb dX6_readPlain_55 rfl (lv_at hl 0 rfl) ?_
        obtain ⟨z18, ez18, h⟩ := z_bd h
        refine xj_i (xrV (As := []) (rest := []) ⟨hx, hb, hml, hown, hts⟩ (m_X6_stop l dC dI _ h_me h_me_code q_me k_me o_me z18 ez18) kw749 kw746 kw748 kw9 kw111 hd_X6_stop ⟨Nat.ble_eq_true_of_le (by show 0 + 1 ≤ FR + 91; omega), Nat.ble_eq_true_of_le (by show 8 + (1 + 11) + (0) ≤ LC + 2023; omega)⟩ rfl rfl ⟨rfl, rfl⟩ hX hK hw [0] (by decide) rfl rfl rfl rfl rfl hl.1 rfl rfl dX6_readPlain_56) hw hA [0] (by decide) rfl rfl (fun H locs hw => ?_)
        have hw : Wd dC dI A s.heap [wX6 h_me h_me_code q_me k_me z18.2, wX0 h_me_code nc_me_code ns_me_code q_me_code k_me_code o_me_code] H locs := hw
        obtain ⟨g19, h⟩ := z_gd h
        have hy := Option.some.inj h
        rw [← hQz, ← hy]
        exact xr_i (v := z18.1) hx hb hr (z_nar g19) hlk hK hw dX6_readPlain_59
  have bk_33_4 : ∀ (rec_4_0 : Int32 × Int32 × Int32 × Ob × Ob → Option (Int32 × Ob × Ob)) (hrec_4_0 : ∀ (v1 : Int32) (v2 : Int32) (v3 : Int32) (o_me : Ob) (o_me_code : Ob) (H : Heap) (locs : List Loc) (ls : Array Slot), rec_4_0 (v1, v2, v3, o_me, o_me_code) = some y → Wd dC dI A s.heap [wX6 h_me h_me_code q_me k_me o_me, wX0 h_me_code nc_me_code ns_me_code q_me_code k_me_code o_me_code] H locs → lv_has ls 4 [(0, .ref h_me), (1, .int v1), (2, .int v2), (3, .int v3)] → W p l e ({ frames := FR + 91, cells := 0, slots := 0, locals := LC + 2023 } : Room) s m ([.ref h_me, .int p0] : List Value).toArray below meth c H locs 0 0 Qz (F0 m 4 ls [])), ∀ (v1 : Int32) (v3 : Int32) (s0 : Int32) (o_me : Ob) (o_me_code : Ob) (H : Heap) (locs : List Loc) (ls : Array Slot), bk_X6_readPlain_33 rT nc_me_code ns_me_code rec_4_0 v1 v3 s0 o_me o_me_code = some y → Wd dC dI A s.heap [wX6 h_me h_me_code q_me k_me o_me, wX0 h_me_code nc_me_code ns_me_code q_me_code k_me_code o_me_code] H locs → lv_has ls 4 [(0, .ref h_me), (1, .int v1), (3, .int v3)] → W p l e ({ frames := FR + 91, cells := 0, slots := 0, locals := LC + 2023 } : Room) s m ([.ref h_me, .int p0] : List Value).toArray below meth c H locs 0 0 Qz (F0 m 33 ls [.int s0]) := by
    intro rec_4_0 hrec_4_0
    intro v1 v3 s0 o_me o_me_code H locs ls h hw hl
    unfold bk_X6_readPlain_33 at h
    refine lv_istore_n (lv' := [(2, .int s0), (0, .ref h_me), (1, .int v1), (3, .int v3)]) hx hb dX6_readPlain_33 rfl hl (by decide) rfl (fun ls hl => ?_)
    obtain ⟨x22, ex22, h⟩ := z_lt h
    refine lv_iinc (v := x22) (lv' := [(3, .int x22), (2, .int s0), (0, .ref h_me), (1, .int v1)]) hx hb dX6_readPlain_34 hl (k := 3) rfl ((congrArg (v3 + ·) (show Int32.ofInt 1 = (1 : Int32) from by decide)).trans ex22.symm) (by decide) rfl (fun ls hl => ?_)
    refine lv_goto (tgt := 4) hx hb dX6_readPlain_37 (by decide) ?_
    exact hrec_4_0 v1 s0 x22 o_me o_me_code _ _ _ h hw (lv_sub hl [2, 3, 1, 0] rfl)
  have lp_4_0 : ∀ (N : Nat), ∀ (v1 : Int32) (v2 : Int32) (v3 : Int32) (o_me : Ob) (o_me_code : Ob) (H : Heap) (locs : List Loc) (ls : Array Slot), lp_X6_readPlain_4 rT nc_me_code ns_me_code  N (v1, v2, v3, o_me, o_me_code) = some y → Wd dC dI A s.heap [wX6 h_me h_me_code q_me k_me o_me, wX0 h_me_code nc_me_code ns_me_code q_me_code k_me_code o_me_code] H locs → lv_has ls 4 [(0, .ref h_me), (1, .int v1), (2, .int v2), (3, .int v3)] → W p l e ({ frames := FR + 91, cells := 0, slots := 0, locals := LC + 2023 } : Room) s m ([.ref h_me, .int p0] : List Value).toArray below meth c H locs 0 0 Qz (F0 m 4 ls []) := by
    intro N
    induction N with
    | zero =>
      intro v1 v2 v3 o_me o_me_code H locs ls h hw hl
      exact absurd (show (none : Option (Int32 × Ob × Ob)) = some y from h) (by simp)
    | succ N ih =>
      intro v1 v2 v3 o_me o_me_code H locs ls h hw hl
      have h : lb_X6_readPlain_4 rT nc_me_code ns_me_code  (lp_X6_readPlain_4 rT nc_me_code ns_me_code  N) v1 v2 v3 o_me o_me_code = some y := h
      unfold lb_X6_readPlain_4 at h
      refine lv_iload_n hx hb dX6_readPlain_4 rfl (lv_at hl 3 rfl) ?_
      refine lv_sipush (v := 400) hx hb dX6_readPlain_5 (by decide) ?_
      refine lv_icmp_ge (tgt := 40) hx hb dX6_readPlain_8 (by decide) (fun c => ?_) (fun c => ?_)
      · have h := z_t h c
        exact bk_40_1  v1 v2 o_me o_me_code _ _ _ h hw (lv_sub hl [0, 1, 2] rfl)
      · have h := z_f h c
        refine lv_aload_n hx hb dX6_readPlain_11 rfl (lv_at hl 0 rfl) ?_
        refine va_ldcS hx hb hown hX.2.2.2.2.2.2.2.2.2.2.2.2.1 dX6_readPlain_12 ?_
        obtain ⟨z20, ez20, h⟩ := z_bd h
        refine xj_i (xrV (As := [.ref (dI 101 6)]) (rest := []) ⟨hx, hb, hml, hown, hts⟩ (m_X6_isWord l dC dI _ h_me h_me_code q_me k_me o_me 6 z20 ez20) kw783 kw780 kw782 kw15 kw111 hd_X6_isWord ⟨Nat.ble_eq_true_of_le (by show 6 + 1 ≤ FR + 91; omega), Nat.ble_eq_true_of_le (by show 8 + (2 + 11) + (134) ≤ LC + 2023; omega)⟩ rfl rfl ⟨rfl, rfl⟩ hX hK hw [0] (by decide) rfl rfl rfl rfl rfl hl.1 rfl rfl dX6_readPlain_14) hw hA [0] (by decide) rfl rfl (fun H locs hw => ?_)
        have hw : Wd dC dI A s.heap [wX6 h_me h_me_code q_me k_me o_me, wX0 h_me_code nc_me_code ns_me_code q_me_code k_me_code o_me_code] H locs := hw
        refine lv_if_eq (tgt := 40) hx hb dX6_readPlain_17 (by decide) (fun c => ?_) (fun c => ?_)
        · have h := z_t h c
          exact bk_40_1  v1 v2 o_me o_me_code _ _ _ h hw (lv_sub hl [0, 1, 2] rfl)
        · have h := z_f h c
          refine lv_aload_n hx hb dX6_readPlain_20 rfl (lv_at hl 0 rfl) ?_
          obtain ⟨z21, ez21, h⟩ := z_bd h
          refine xj_v (xrV (As := []) (rest := []) ⟨hx, hb, hml, hown, hts⟩ (m_X6_step l dC dI _ h_me h_me_code q_me k_me o_me z21 ez21) kw675 kw672 kw674 kw5 kw111 hd_X6_step ⟨Nat.ble_eq_true_of_le (by show 1 + 1 ≤ FR + 91; omega), Nat.ble_eq_true_of_le (by show 8 + (2 + 11) + (21) ≤ LC + 2023; omega)⟩ rfl rfl ⟨rfl, rfl⟩ hX hK hw [0] (by decide) rfl rfl rfl rfl rfl hl.1 rfl rfl dX6_readPlain_21) hw hA [0] (by decide) rfl rfl (fun H locs hw => ?_)
          have hw : Wd dC dI A s.heap [wX6 h_me h_me_code q_me k_me z21, wX0 h_me_code nc_me_code ns_me_code q_me_code k_me_code o_me_code] H locs := hw
          refine lv_iload_n hx hb dX6_readPlain_24 rfl (lv_at hl 2 rfl) ?_
          refine lv_if_ne (tgt := 32) hx hb dX6_readPlain_25 (by decide) (fun c => ?_) (fun c => ?_)
          · have h := z_f h c
            refine lv_iconst (v := 0) hx hb dX6_readPlain_32 (by decide) ?_
            exact bk_33_4 (lp_X6_readPlain_4 rT nc_me_code ns_me_code  N) ih v1 v3 (0 : Int32) z21 o_me_code _ _ _ h hw (lv_sub hl [0, 1, 3] rfl)
          · have h := z_t h c
            refine lv_iconst (v := 1) hx hb dX6_readPlain_28 (by decide) ?_
            refine lv_goto (tgt := 33) hx hb dX6_readPlain_29 (by decide) ?_
            exact bk_33_4 (lp_X6_readPlain_4 rT nc_me_code ns_me_code  N) ih v1 v3 (1 : Int32) z21 o_me_code _ _ _ h hw (lv_sub hl [0, 1, 3] rfl)
  unfold f_X6_readPlain at h
  refine lv_iconst (v := 0) hx hb dX6_readPlain_0 (by decide) ?_
  refine lv_istore_n (lv' := [(2, .int (0 : Int32)), (0, .ref h_me), (1, .int p0)]) hx hb dX6_readPlain_1 rfl hl (by decide) rfl (fun ls hl => ?_)
  refine lv_iconst (v := 0) hx hb dX6_readPlain_2 (by decide) ?_
  refine lv_istore_n (lv' := [(3, .int (0 : Int32)), (2, .int (0 : Int32)), (0, .ref h_me), (1, .int p0)]) hx hb dX6_readPlain_3 rfl hl (by decide) rfl (fun ls hl => ?_)
  exact lp_4_0  zfu p0 (0 : Int32) (0 : Int32) o_me o_me_code _ _ _ h hw (lv_sub hl [2, 3, 1, 0] rfl)

