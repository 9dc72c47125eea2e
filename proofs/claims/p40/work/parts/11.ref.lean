def f_X9_isSign (o_me : Ob) (p0 : Int32) : Option (Int32) :=
  if (gI o_me 16) = (3 : Int32) then
  (if (lg_cmp (gL o_me 17) p0.toInt64) = (0 : Int32) then
  (some (1 : Int32))
  else
  (some (0 : Int32)))
  else
  (some (0 : Int32))
set_option maxHeartbeats 4000000 in
set_option maxRecDepth 100000 in
theorem m_X9_isSign (l : Launch) (dC : Nat → ClassId) (dI : Nat → Nat → Nat) (sz : Nat) (h_me : Nat) (q_me : Nat → Nat) (k_me : Nat → ClassId) (o_me : Ob) (p0 : Int32) (y : Int32) (h : f_X9_isSign o_me p0 = some y) : CI l yX9_isSign cX9_isSign 2 (some .boolean) ({ frames := 0, cells := 0, slots := 0, locals := 0 } : Room) dC dI sz [.ref h_me, .int p0] [wX9 h_me q_me k_me o_me] [tX9 k_me] y [wX9 h_me q_me k_me o_me] := by
  refine CC_of (by decide) (Nat.le_of_ble_eq_true rfl) ?_
  intro p e s m below meth c A ls hx hb hml hr hlk hnm hown hts hX hK hP hD hA hl
  have hl : lv_has ls 2 [(0, .ref h_me), (1, .int p0)] := hl
  have hown : s.vm.findClass RX9 = some m.cls := hown
  have hw : Wd dC dI A s.heap [wX9 h_me q_me k_me o_me] s.heap [] := ⟨hP, hD, va_S.rf⟩
  generalize hQz : (MQ below (QI dC dI (fun r (_ : Unit) => r = y) (fun _ => Jn [wX9 h_me q_me k_me o_me]) (fun _ => Jt [tX9 k_me]) A) ([.ref h_me, .int p0] : List Value).toArray s 0 0 A) = Qz
  clear hP hD hnm
  unfold f_X9_isSign at h
  refine lv_aload_n hx hb dX9_isSign_0 rfl (lv_at hl 0 rfl) ?_
  refine fgX9_16 hx hb hts hown hK hw 0 rfl kw1192 dX9_isSign_1 ?_
  refine lv_iconst (v := 3) hx hb dX9_isSign_4 (by decide) ?_
  refine lv_icmp_ne (tgt := 22) hx hb dX9_isSign_5 (by decide) (fun c => ?_) (fun c => ?_)
  · have h := z_f h c
    refine lv_iconst (v := 0) hx hb dX9_isSign_22 (by decide) ?_
    have hy := Option.some.inj h
    rw [← hQz, ← hy]
    exact xr_i (v := (0 : Int32)) hx hb hr rfl hlk hK hw dX9_isSign_23
  · have h := z_t h c
    refine lv_aload_n hx hb dX9_isSign_8 rfl (lv_at hl 0 rfl) ?_
    refine fgX9_17 hx hb hts hown hK hw 0 rfl kw1193 dX9_isSign_9 ?_
    refine lv_iload_n hx hb dX9_isSign_12 rfl (lv_at hl 1 rfl) ?_
    refine lv_i2l hx hb dX9_isSign_13 rfl ?_
    refine W.lcmp hx hb dX9_isSign_14 ?_
    refine lv_if_ne (tgt := 22) hx hb dX9_isSign_15 (by decide) (fun c => ?_) (fun c => ?_)
    · have h := z_f h c
      refine lv_iconst (v := 0) hx hb dX9_isSign_22 (by decide) ?_
      have hy := Option.some.inj h
      rw [← hQz, ← hy]
      exact xr_i (v := (0 : Int32)) hx hb hr rfl hlk hK hw dX9_isSign_23
    · have h := z_t h c
      refine lv_iconst (v := 1) hx hb dX9_isSign_18 (by decide) ?_
      refine lv_goto (tgt := 23) hx hb dX9_isSign_19 (by decide) ?_
      have hy := Option.some.inj h
      rw [← hQz, ← hy]
      exact xr_i (v := (1 : Int32)) hx hb hr rfl hlk hK hw dX9_isSign_23

def bk_X9_inner_33 (o_me : Ob) (rec_4_0 : Int32 × Int32 → Option (Int32)) (v2 : Int32) (s0 : Int32) : Option (Int32) :=
  zlt (v2 + (1 : Int32)) fun x2 =>
  rec_4_0 (s0, x2)
def lb_X9_inner_4 (o_me : Ob)  (rec_4_0 : Int32 × Int32 → Option (Int32)) (v1 : Int32) (v2 : Int32) : Option (Int32) :=
  if (gI o_me 29) ≤ v2 then
  (some v1)
  else
  (zgd (zin v2 400) <|
  if (gA o_me 27 v2.toNatClampNeg) < (31 : Int32) then
  (bk_X9_inner_33 o_me rec_4_0 v2 v1)
  else
  (zgd (zin v2 400) <|
  bk_X9_inner_33 o_me rec_4_0 v2 (gA o_me 27 v2.toNatClampNeg)))
def lp_X9_inner_4 (o_me : Ob)  : Nat → (Int32 × Int32) → Option (Int32) := zit (fun rec a => lb_X9_inner_4 o_me  rec a.1 a.2)
def f_X9_inner (o_me : Ob) : Option (Int32) :=
  lp_X9_inner_4 o_me  zfu ((-1 : Int32), (0 : Int32))
set_option maxHeartbeats 4000000 in
set_option maxRecDepth 100000 in
theorem m_X9_inner (l : Launch) (dC : Nat → ClassId) (dI : Nat → Nat → Nat) (sz : Nat) (h_me : Nat) (q_me : Nat → Nat) (k_me : Nat → ClassId) (o_me : Ob) (y : Int32) (h : f_X9_inner o_me = some y) : CI l yX9_inner cX9_inner 3 (some .int) ({ frames := 0, cells := 0, slots := 0, locals := 0 } : Room) dC dI sz [.ref h_me] [wX9 h_me q_me k_me o_me] [tX9 k_me] y [wX9 h_me q_me k_me o_me] := by
  refine CC_of (by decide) (Nat.le_of_ble_eq_true rfl) ?_
  intro p e s m below meth c A ls hx hb hml hr hlk hnm hown hts hX hK hP hD hA hl
  have hl : lv_has ls 3 [(0, .ref h_me)] := hl
  have hown : s.vm.findClass RX9 = some m.cls := hown
  have hw : Wd dC dI A s.heap [wX9 h_me q_me k_me o_me] s.heap [] := ⟨hP, hD, va_S.rf⟩
  generalize hQz : (MQ below (QI dC dI (fun r (_ : Unit) => r = y) (fun _ => Jn [wX9 h_me q_me k_me o_me]) (fun _ => Jt [tX9 k_me]) A) ([.ref h_me] : List Value).toArray s 0 0 A) = Qz
  clear hP hD hnm
  have bk_33_1 : ∀ (rec_4_0 : Int32 × Int32 → Option (Int32)) (hrec_4_0 : ∀ (v1 : Int32) (v2 : Int32) (H : Heap) (locs : List Loc) (ls : Array Slot), rec_4_0 (v1, v2) = some y → Wd dC dI A s.heap [wX9 h_me q_me k_me o_me] H locs → lv_has ls 3 [(0, .ref h_me), (1, .int v1), (2, .int v2)] → W p l e ({ frames := 0, cells := 0, slots := 0, locals := 0 } : Room) s m ([.ref h_me] : List Value).toArray below meth c H locs 0 0 Qz (F0 m 4 ls [])), ∀ (v2 : Int32) (s0 : Int32) (H : Heap) (locs : List Loc) (ls : Array Slot), bk_X9_inner_33 o_me rec_4_0 v2 s0 = some y → Wd dC dI A s.heap [wX9 h_me q_me k_me o_me] H locs → lv_has ls 3 [(0, .ref h_me), (2, .int v2)] → W p l e ({ frames := 0, cells := 0, slots := 0, locals := 0 } : Room) s m ([.ref h_me] : List Value).toArray below meth c H locs 0 0 Qz (F0 m 33 ls [.int s0]) := by
    intro rec_4_0 hrec_4_0
    intro v2 s0 H locs ls h hw hl
    unfold bk_X9_inner_33 at h
    refine lv_istore_n (lv' := [(1, .int s0), (0, .ref h_me), (2, .int v2)]) hx hb dX9_inner_33 rfl hl (by decide) rfl (fun ls hl => ?_)
    obtain ⟨x2, ex2, h⟩ := z_lt h
    refine lv_iinc (v := x2) (lv' := [(2, .int x2), (1, .int s0), (0, .ref h_me)]) hx hb dX9_inner_34 hl (k := 2) rfl ((congrArg (v2 + ·) (show Int32.ofInt 1 = (1 : Int32) from by decide)).trans ex2.symm) (by decide) rfl (fun ls hl => ?_)
    refine lv_goto (tgt := 4) hx hb dX9_inner_37 (by decide) ?_
    exact hrec_4_0 s0 x2 _ _ _ h hw (lv_sub hl [2, 1, 0] rfl)
  have lp_4_0 : ∀ (N : Nat), ∀ (v1 : Int32) (v2 : Int32) (H : Heap) (locs : List Loc) (ls : Array Slot), lp_X9_inner_4 o_me  N (v1, v2) = some y → Wd dC dI A s.heap [wX9 h_me q_me k_me o_me] H locs → lv_has ls 3 [(0, .ref h_me), (1, .int v1), (2, .int v2)] → W p l e ({ frames := 0, cells := 0, slots := 0, locals := 0 } : Room) s m ([.ref h_me] : List Value).toArray below meth c H locs 0 0 Qz (F0 m 4 ls []) := by
    intro N
    induction N with
    | zero =>
      intro v1 v2 H locs ls h hw hl
      exact absurd (show (none : Option (Int32)) = some y from h) (by simp)
    | succ N ih =>
      intro v1 v2 H locs ls h hw hl
      have h : lb_X9_inner_4 o_me  (lp_X9_inner_4 o_me  N) v1 v2 = some y := h
      unfold lb_X9_inner_4 at h
      refine lv_iload_n hx hb dX9_inner_4 rfl (lv_at hl 2 rfl) ?_
      refine lv_aload_n hx hb dX9_inner_5 rfl (lv_at hl 0 rfl) ?_
      refine fgX9_29 hx hb hts hown hK hw 0 rfl kw1205 dX9_inner_6 ?_
      refine lv_icmp_ge (tgt := 40) hx hb dX9_inner_9 (by decide) (fun c => ?_) (fun c => ?_)
      · have h := z_t h c
        refine lv_iload_n hx hb dX9_inner_40 rfl (lv_at hl 1 rfl) ?_
        have hy := Option.some.inj h
        rw [← hQz, ← hy]
        exact xr_i (v := v1) hx hb hr rfl hlk hK hw dX9_inner_41
      · have h := z_f h c
        refine lv_aload_n hx hb dX9_inner_12 rfl (lv_at hl 0 rfl) ?_
        refine fgX9_27 hx hb hts hown hK hw 0 rfl kw1203 dX9_inner_13 ?_
        refine lv_iload_n hx hb dX9_inner_16 rfl (lv_at hl 2 rfl) ?_
        obtain ⟨g1, h⟩ := z_gd h
        refine faX9_27 hx hb hK hw 0 rfl rfl g1 dX9_inner_17 ?_
        refine lv_bipush (v := 31) hx hb dX9_inner_18 (by decide) ?_
        refine lv_icmp_lt (tgt := 32) hx hb dX9_inner_20 (by decide) (fun c => ?_) (fun c => ?_)
        · have h := z_t h c
          refine lv_iload_n hx hb dX9_inner_32 rfl (lv_at hl 1 rfl) ?_
          exact bk_33_1 (lp_X9_inner_4 o_me  N) ih v2 v1 _ _ _ h hw (lv_sub hl [0, 2] rfl)
        · have h := z_f h c
          refine lv_aload_n hx hb dX9_inner_23 rfl (lv_at hl 0 rfl) ?_
          refine fgX9_27 hx hb hts hown hK hw 0 rfl kw1203 dX9_inner_24 ?_
          refine lv_iload_n hx hb dX9_inner_27 rfl (lv_at hl 2 rfl) ?_
          obtain ⟨g3, h⟩ := z_gd h
          refine faX9_27 hx hb hK hw 0 rfl rfl g3 dX9_inner_28 ?_
          refine lv_goto (tgt := 33) hx hb dX9_inner_29 (by decide) ?_
          exact bk_33_1 (lp_X9_inner_4 o_me  N) ih v2 (gA o_me 27 v2.toNatClampNeg) _ _ _ h hw (lv_sub hl [0, 2] rfl)
  unfold f_X9_inner at h
  refine lv_iconst (v := (-1)) hx hb dX9_inner_0 (by decide) ?_
  refine lv_istore_n (lv' := [(1, .int (-1 : Int32)), (0, .ref h_me)]) hx hb dX9_inner_1 rfl hl (by decide) rfl (fun ls hl => ?_)
  refine lv_iconst (v := 0) hx hb dX9_inner_2 (by decide) ?_
  refine lv_istore_n (lv' := [(2, .int (0 : Int32)), (1, .int (-1 : Int32)), (0, .ref h_me)]) hx hb dX9_inner_3 rfl hl (by decide) rfl (fun ls hl => ?_)
  exact lp_4_0  zfu (-1 : Int32) (0 : Int32) _ _ _ h hw (lv_sub hl [2, 1, 0] rfl)

def bk_X9_isCompared_36 (o_me : Ob)  (v1 : Int32) : Option (Int32) :=
  if v1 < (0 : Int32) then
  (some (0 : Int32))
  else
  (zgd (zin v1 400) <|
  (f_X9_in ((gA o_me 27 v1.toNatClampNeg).toInt64) (25 : Int64) (27 : Int64)).bind fun z3 =>
  if z3 = (0 : Int32) then
  (some (0 : Int32))
  else
  (some (1 : Int32)))
def lb_X9_isCompared_7 (o_me : Ob)  (rec_7_0 : Int32 → Option (Int32)) (v1 : Int32) : Option (Int32) :=
  if v1 < (0 : Int32) then
  (bk_X9_isCompared_36 o_me  v1)
  else
  (zgd (zin v1 400) <|
  (f_X9_in ((gA o_me 27 v1.toNatClampNeg).toInt64) (20 : Int64) (24 : Int64)).bind fun z5 =>
  if z5 = (0 : Int32) then
  (bk_X9_isCompared_36 o_me  v1)
  else
  (zlt (v1 + (-1 : Int32)) fun x6 =>
  rec_7_0 x6))
def lp_X9_isCompared_7 (o_me : Ob)  : Nat → Int32 → Option (Int32) := zit (fun rec a => lb_X9_isCompared_7 o_me  rec a)
def f_X9_isCompared (o_me : Ob) : Option (Int32) :=
  zlt ((gI o_me 29) - (1 : Int32)) fun x1 =>
  lp_X9_isCompared_7 o_me  zfu x1
set_option maxHeartbeats 4000000 in
set_option maxRecDepth 100000 in
theorem m_X9_isCompared (l : Launch) (dC : Nat → ClassId) (dI : Nat → Nat → Nat) (sz : Nat) (h_me : Nat) (q_me : Nat → Nat) (k_me : Nat → ClassId) (o_me : Ob) (y : Int32) (h : f_X9_isCompared o_me = some y) : CI l yX9_isCompared cX9_isCompared 2 (some .boolean) ({ frames := 1, cells := 0, slots := 0, locals := 25 } : Room) dC dI sz [.ref h_me] [wX9 h_me q_me k_me o_me] [tX9 k_me] y [wX9 h_me q_me k_me o_me] := by
  refine CC_of (by decide) (Nat.le_of_ble_eq_true rfl) ?_
  intro p e s m below meth c A ls hx hb hml hr hlk hnm hown hts hX hK hP hD hA hl
  have hl : lv_has ls 2 [(0, .ref h_me)] := hl
  have hown : s.vm.findClass RX9 = some m.cls := hown
  have hw : Wd dC dI A s.heap [wX9 h_me q_me k_me o_me] s.heap [] := ⟨hP, hD, va_S.rf⟩
  generalize hQz : (MQ below (QI dC dI (fun r (_ : Unit) => r = y) (fun _ => Jn [wX9 h_me q_me k_me o_me]) (fun _ => Jt [tX9 k_me]) A) ([.ref h_me] : List Value).toArray s 0 0 A) = Qz
  clear hP hD hnm
  have bk_36_1 : ∀ (v1 : Int32) (H : Heap) (locs : List Loc) (ls : Array Slot), bk_X9_isCompared_36 o_me  v1 = some y → Wd dC dI A s.heap [wX9 h_me q_me k_me o_me] H locs → lv_has ls 2 [(0, .ref h_me), (1, .int v1)] → W p l e ({ frames := 1, cells := 0, slots := 0, locals := 25 } : Room) s m ([.ref h_me] : List Value).toArray below meth c H locs 0 0 Qz (F0 m 36 ls []) := by
    intro v1 H locs ls h hw hl
    unfold bk_X9_isCompared_36 at h
    refine lv_iload_n hx hb dX9_isCompared_36 rfl (lv_at hl 1 rfl) ?_
    refine lv_if_lt (tgt := 63) hx hb dX9_isCompared_37 (by decide) (fun c => ?_) (fun c => ?_)
    · have h := z_t h c
      refine lv_iconst (v := 0) hx hb dX9_isCompared_63 (by decide) ?_
      have hy := Option.some.inj h
      rw [← hQz, ← hy]
      exact xr_i (v := (0 : Int32)) hx hb hr rfl hlk hK hw dX9_isCompared_64
    · have h := z_f h c
      refine lv_aload_n hx hb dX9_isCompared_40 rfl (lv_at hl 0 rfl) ?_
      refine fgX9_27 hx hb hts hown hK hw 0 rfl kw1203 dX9_isCompared_41 ?_
      refine lv_iload_n hx hb dX9_isCompared_44 rfl (lv_at hl 1 rfl) ?_
      obtain ⟨g2, h⟩ := z_gd h
      refine faX9_27 hx hb hK hw 0 rfl rfl g2 dX9_isCompared_45 ?_
      refine lv_i2l hx hb dX9_isCompared_46 rfl ?_
      refine lv_ldc2 (v := 25) hx hb hown (hts _ kw1603) dX9_isCompared_47 ?_
      refine lv_ldc2 (v := 27) hx hb hown (hts _ kw1604) dX9_isCompared_50 ?_
      obtain ⟨z3, ez3, h⟩ := z_bd h
      refine xj_i (xrS (As := [.long ((gA o_me 27 v1.toNatClampNeg).toInt64), .long (25 : Int64), .long (27 : Int64)]) (rest := []) ⟨hx, hb, hml, hown, hts⟩ (m_X9_in l dC dI _  ((gA o_me 27 v1.toNatClampNeg).toInt64) (25 : Int64) (27 : Int64) z3 ez3) kw1385 kw1383 kw1384 kw120 hd_X9_in ⟨rfl, rfl⟩ rfl rfl ⟨rfl, rfl⟩ hX hK hw [] (by decide) rfl rfl hl.1 rfl rfl dX9_isCompared_53) hw hA [] (by decide) rfl rfl (fun H locs hw => ?_)
      refine lv_if_eq (tgt := 63) hx hb dX9_isCompared_56 (by decide) (fun c => ?_) (fun c => ?_)
      · have h := z_t h c
        refine lv_iconst (v := 0) hx hb dX9_isCompared_63 (by decide) ?_
        have hy := Option.some.inj h
        rw [← hQz, ← hy]
        exact xr_i (v := (0 : Int32)) hx hb hr rfl hlk hK hw dX9_isCompared_64
      · have h := z_f h c
        refine lv_iconst (v := 1) hx hb dX9_isCompared_59 (by decide) ?_
        refine lv_goto (tgt := 64) hx hb dX9_isCompared_60 (by decide) ?_
        have hy := Option.some.inj h
        rw [← hQz, ← hy]
        exact xr_i (v := (1 : Int32)) hx hb hr rfl hlk hK hw dX9_isCompared_64
  have lp_7_0 : ∀ (N : Nat), ∀ (v1 : Int32) (H : Heap) (locs : List Loc) (ls : Array Slot), lp_X9_isCompared_7 o_me  N v1 = some y → Wd dC dI A s.heap [wX9 h_me q_me k_me o_me] H locs → lv_has ls 2 [(0, .ref h_me), (1, .int v1)] → W p l e ({ frames := 1, cells := 0, slots := 0, locals := 25 } : Room) s m ([.ref h_me] : List Value).toArray below meth c H locs 0 0 Qz (F0 m 7 ls []) := by
    intro N
    induction N with
    | zero =>
      intro v1 H locs ls h hw hl
      exact absurd (show (none : Option (Int32)) = some y from h) (by simp)
    | succ N ih =>
      intro v1 H locs ls h hw hl
      have h : lb_X9_isCompared_7 o_me  (lp_X9_isCompared_7 o_me  N) v1 = some y := h
      unfold lb_X9_isCompared_7 at h
      refine lv_iload_n hx hb dX9_isCompared_7 rfl (lv_at hl 1 rfl) ?_
      refine lv_if_lt (tgt := 36) hx hb dX9_isCompared_8 (by decide) (fun c => ?_) (fun c => ?_)
      · have h := z_t h c
        exact bk_36_1  v1 _ _ _ h hw (lv_sub hl [0, 1] rfl)
      · have h := z_f h c
        refine lv_aload_n hx hb dX9_isCompared_11 rfl (lv_at hl 0 rfl) ?_
        refine fgX9_27 hx hb hts hown hK hw 0 rfl kw1203 dX9_isCompared_12 ?_
        refine lv_iload_n hx hb dX9_isCompared_15 rfl (lv_at hl 1 rfl) ?_
        obtain ⟨g4, h⟩ := z_gd h
        refine faX9_27 hx hb hK hw 0 rfl rfl g4 dX9_isCompared_16 ?_
        refine lv_i2l hx hb dX9_isCompared_17 rfl ?_
        refine lv_ldc2 (v := 20) hx hb hown (hts _ kw1601) dX9_isCompared_18 ?_
        refine lv_ldc2 (v := 24) hx hb hown (hts _ kw1602) dX9_isCompared_21 ?_
        obtain ⟨z5, ez5, h⟩ := z_bd h
        refine xj_i (xrS (As := [.long ((gA o_me 27 v1.toNatClampNeg).toInt64), .long (20 : Int64), .long (24 : Int64)]) (rest := []) ⟨hx, hb, hml, hown, hts⟩ (m_X9_in l dC dI _  ((gA o_me 27 v1.toNatClampNeg).toInt64) (20 : Int64) (24 : Int64) z5 ez5) kw1385 kw1383 kw1384 kw120 hd_X9_in ⟨rfl, rfl⟩ rfl rfl ⟨rfl, rfl⟩ hX hK hw [] (by decide) rfl rfl hl.1 rfl rfl dX9_isCompared_24) hw hA [] (by decide) rfl rfl (fun H locs hw => ?_)
        refine lv_if_eq (tgt := 36) hx hb dX9_isCompared_27 (by decide) (fun c => ?_) (fun c => ?_)
        · have h := z_t h c
          exact bk_36_1  v1 _ _ _ h hw (lv_sub hl [0, 1] rfl)
        · have h := z_f h c
          obtain ⟨x6, ex6, h⟩ := z_lt h
          refine lv_iinc (v := x6) (lv' := [(1, .int x6), (0, .ref h_me)]) hx hb dX9_isCompared_30 hl (k := 1) rfl ((congrArg (v1 + ·) (show Int32.ofInt (-1) = (-1 : Int32) from by decide)).trans ex6.symm) (by decide) rfl (fun ls hl => ?_)
          refine lv_goto (tgt := 7) hx hb dX9_isCompared_33 (by decide) ?_
          exact ih x6 _ _ _ h hw (lv_sub hl [1, 0] rfl)
  unfold f_X9_isCompared at h
  refine lv_aload_n hx hb dX9_isCompared_0 rfl (lv_at hl 0 rfl) ?_
  refine fgX9_29 hx hb hts hown hK hw 0 rfl kw1205 dX9_isCompared_1 ?_
  refine lv_iconst (v := 1) hx hb dX9_isCompared_4 (by decide) ?_
  refine lv_isub hx hb dX9_isCompared_5 ?_
  obtain ⟨x1, ex1, h⟩ := z_lt h
  refine lv_fi (v := x1) ex1.symm ?_
  refine lv_istore_n (lv' := [(1, .int x1), (0, .ref h_me)]) hx hb dX9_isCompared_6 rfl hl (by decide) rfl (fun ls hl => ?_)
  exact lp_7_0  zfu x1 _ _ _ h hw (lv_sub hl [1, 0] rfl)

def bk_X9_must_24   (o_me : Ob) : Option (Ob) :=
  if (gI o_me 19) = (0 : Int32) then
  ((f_X9_next o_me).bind fun z1 =>
  some z1)
  else
  (some o_me)
def f_X9_must (o_me : Ob) (p0 : Int32) : Option (Ob) :=
  if (gI o_me 19) = (0 : Int32) then
  (if p0 = (0 : Int32) then
  (zlt (sI o_me 19 (1 : Int32)) fun o2 =>
  zlt (sI o2 18 (gI o2 14)) fun o3 =>
  bk_X9_must_24   o3)
  else
  (bk_X9_must_24   o_me))
  else
  (bk_X9_must_24   o_me)
set_option maxHeartbeats 4000000 in
set_option maxRecDepth 100000 in
theorem m_X9_must (l : Launch) (dC : Nat → ClassId) (dI : Nat → Nat → Nat) (sz : Nat) (h_me : Nat) (q_me : Nat → Nat) (k_me : Nat → ClassId) (o_me : Ob) (p0 : Int32) (y : Ob) (h : f_X9_must o_me p0 = some y) : CV l yX9_must cX9_must 2 none ({ frames := 2, cells := 0, slots := 0, locals := 40 } : Room) dC dI sz [.ref h_me, .int p0] [wX9 h_me q_me k_me o_me] [tX9 k_me] [wX9 h_me q_me k_me y] := by
  refine CC_of (by decide) (Nat.le_of_ble_eq_true rfl) ?_
  intro p e s m below meth c A ls hx hb hml hr hlk hnm hown hts hX hK hP hD hA hl
  have hl : lv_has ls 2 [(0, .ref h_me), (1, .int p0)] := hl
  have hown : s.vm.findClass RX9 = some m.cls := hown
  have hw : Wd dC dI A s.heap [wX9 h_me q_me k_me o_me] s.heap [] := ⟨hP, hD, va_S.rf⟩
  generalize hQz : (MQ below (QV dC dI (fun (_ : Unit) => True) (fun _ => Jn [wX9 h_me q_me k_me y]) (fun _ => Jt [tX9 k_me]) A) ([.ref h_me, .int p0] : List Value).toArray s 0 0 A) = Qz
  clear hP hD hnm
  have bk_24_0 : ∀ (o_me : Ob) (H : Heap) (locs : List Loc) (ls : Array Slot), bk_X9_must_24   o_me = some y → Wd dC dI A s.heap [wX9 h_me q_me k_me o_me] H locs → lv_has ls 2 [(0, .ref h_me)] → W p l e ({ frames := 2, cells := 0, slots := 0, locals := 40 } : Room) s m ([.ref h_me, .int p0] : List Value).toArray below meth c H locs 0 0 Qz (F0 m 24 ls []) := by
    intro o_me H locs ls h hw hl
    unfold bk_X9_must_24 at h
    refine lv_aload_n hx hb dX9_must_24 rfl (lv_at hl 0 rfl) ?_
    refine fgX9_19 hx hb hts hown hK hw 0 rfl kw1195 dX9_must_25 ?_
    refine lv_if_ne (tgt := 35) hx hb dX9_must_28 (by decide) (fun c => ?_) (fun c => ?_)
    · have h := z_f h c
      have hy := Option.some.inj h
      rw [← hQz, ← hy]
      exact xr_v hx hb hr hlk hK hw dX9_must_35
    · have h := z_t h c
      refine lv_aload_n hx hb dX9_must_31 rfl (lv_at hl 0 rfl) ?_
      obtain ⟨z1, ez1, h⟩ := z_bd h
      refine xj_v (xrV (As := []) (rest := []) ⟨hx, hb, hml, hown, hts⟩ (m_X9_next l dC dI _ h_me q_me k_me o_me z1 ez1) kw1512 kw1509 kw1511 kw55 kw120 hd_X9_next ⟨rfl, rfl⟩ rfl rfl ⟨rfl, rfl⟩ hX hK hw [0] (by decide) rfl rfl rfl rfl rfl hl.1 rfl rfl dX9_must_32) hw hA [0] (by decide) rfl rfl (fun H locs hw => ?_)
      have hw : Wd dC dI A s.heap [wX9 h_me q_me k_me z1] H locs := hw
      have hy := Option.some.inj h
      rw [← hQz, ← hy]
      exact xr_v hx hb hr hlk hK hw dX9_must_35
  unfold f_X9_must at h
  refine lv_aload_n hx hb dX9_must_0 rfl (lv_at hl 0 rfl) ?_
  refine fgX9_19 hx hb hts hown hK hw 0 rfl kw1195 dX9_must_1 ?_
  refine lv_if_ne (tgt := 24) hx hb dX9_must_4 (by decide) (fun c => ?_) (fun c => ?_)
  · have h := z_f h c
    exact bk_24_0  o_me _ _ _ h hw (lv_sub hl [0] rfl)
  · have h := z_t h c
    refine lv_iload_n hx hb dX9_must_7 rfl (lv_at hl 1 rfl) ?_
    refine lv_if_ne (tgt := 24) hx hb dX9_must_8 (by decide) (fun c => ?_) (fun c => ?_)
    · have h := z_f h c
      exact bk_24_0  o_me _ _ _ h hw (lv_sub hl [0] rfl)
    · have h := z_t h c
      refine lv_aload_n hx hb dX9_must_11 rfl (lv_at hl 0 rfl) ?_
      refine lv_iconst (v := 1) hx hb dX9_must_12 (by decide) ?_
      refine fpX9_19 hx hb hts hown hK hw 0 rfl kw1195 (by decide) dX9_must_13 (fun H locs hw => ?_)
      obtain ⟨o2, eo2, h⟩ := z_lt h
      have hw : Wd dC dI A s.heap [wX9 h_me q_me k_me o2] H locs := by rw [eo2]; exact hw
      refine lv_aload_n hx hb dX9_must_16 rfl (lv_at hl 0 rfl) ?_
      refine lv_aload_n hx hb dX9_must_17 rfl (lv_at hl 0 rfl) ?_
      refine fgX9_14 hx hb hts hown hK hw 0 rfl kw1190 dX9_must_18 ?_
      refine fpX9_18 hx hb hts hown hK hw 0 rfl kw1194 dX9_must_21 (fun H locs hw => ?_)
      obtain ⟨o3, eo3, h⟩ := z_lt h
      have hw : Wd dC dI A s.heap [wX9 h_me q_me k_me o3] H locs := by rw [eo3]; exact hw
      exact bk_24_0  o3 _ _ _ h hw (lv_sub hl [0] rfl)

def f_X9_binds (p0 : Int32) : Option (Int32) :=
  if p0 < (31 : Int32) then
  (if p0 = (30 : Int32) then
  (some (1 : Int32))
  else
  (if p0 = (29 : Int32) then
  (some (2 : Int32))
  else
  (if p0 = (28 : Int32) then
  (some (3 : Int32))
  else
  (if p0 < (25 : Int32) then
  (if p0 < (22 : Int32) then
  (some (5 : Int32))
  else
  (some (6 : Int32)))
  else
  (some (4 : Int32))))))
  else
  (some (0 : Int32))
set_option maxHeartbeats 4000000 in
set_option maxRecDepth 100000 in
theorem m_X9_binds (l : Launch) (dC : Nat → ClassId) (dI : Nat → Nat → Nat) (sz : Nat)  (p0 : Int32) (y : Int32) (h : f_X9_binds p0 = some y) : CI l yX9_binds cX9_binds 1 (some .int) ({ frames := 0, cells := 0, slots := 0, locals := 0 } : Room) dC dI sz [.int p0] [] [] y [] := by
  refine CC_of (by decide) (Nat.le_of_ble_eq_true rfl) ?_
  intro p e s m below meth c A ls hx hb hml hr hlk hnm hown hts hX hK hP hD hA hl
  have hl : lv_has ls 1 [(0, .int p0)] := hl
  have hown : s.vm.findClass RX9 = some m.cls := hown
  have hw : Wd dC dI A s.heap [] s.heap [] := ⟨hP, hD, va_S.rf⟩
  generalize hQz : (MQ below (QI dC dI (fun r (_ : Unit) => r = y) (fun _ => Jn []) (fun _ => Jt []) A) ([.int p0] : List Value).toArray s 0 0 A) = Qz
  clear hP hD hnm
  unfold f_X9_binds at h
  refine lv_iload_n hx hb dX9_binds_0 rfl (lv_at hl 0 rfl) ?_
  refine lv_bipush (v := 31) hx hb dX9_binds_1 (by decide) ?_
  refine lv_icmp_lt (tgt := 10) hx hb dX9_binds_3 (by decide) (fun c => ?_) (fun c => ?_)
  · have h := z_t h c
    refine lv_iload_n hx hb dX9_binds_10 rfl (lv_at hl 0 rfl) ?_
    refine lv_bipush (v := 30) hx hb dX9_binds_11 (by decide) ?_
    refine lv_icmp_ne (tgt := 20) hx hb dX9_binds_13 (by decide) (fun c => ?_) (fun c => ?_)
    · have h := z_f h c
      refine lv_iload_n hx hb dX9_binds_20 rfl (lv_at hl 0 rfl) ?_
      refine lv_bipush (v := 29) hx hb dX9_binds_21 (by decide) ?_
      refine lv_icmp_ne (tgt := 30) hx hb dX9_binds_23 (by decide) (fun c => ?_) (fun c => ?_)
      · have h := z_f h c
        refine lv_iload_n hx hb dX9_binds_30 rfl (lv_at hl 0 rfl) ?_
        refine lv_bipush (v := 28) hx hb dX9_binds_31 (by decide) ?_
        refine lv_icmp_ne (tgt := 40) hx hb dX9_binds_33 (by decide) (fun c => ?_) (fun c => ?_)
        · have h := z_f h c
          refine lv_iload_n hx hb dX9_binds_40 rfl (lv_at hl 0 rfl) ?_
          refine lv_bipush (v := 25) hx hb dX9_binds_41 (by decide) ?_
          refine lv_icmp_lt (tgt := 50) hx hb dX9_binds_43 (by decide) (fun c => ?_) (fun c => ?_)
          · have h := z_t h c
            refine lv_iload_n hx hb dX9_binds_50 rfl (lv_at hl 0 rfl) ?_
            refine lv_bipush (v := 22) hx hb dX9_binds_51 (by decide) ?_
            refine lv_icmp_lt (tgt := 61) hx hb dX9_binds_53 (by decide) (fun c => ?_) (fun c => ?_)
            · have h := z_t h c
              refine lv_iconst (v := 5) hx hb dX9_binds_61 (by decide) ?_
              have hy := Option.some.inj h
              rw [← hQz, ← hy]
              exact xr_i (v := (5 : Int32)) hx hb hr rfl hlk hK hw dX9_binds_62
            · have h := z_f h c
              refine lv_bipush (v := 6) hx hb dX9_binds_56 (by decide) ?_
              refine lv_goto (tgt := 62) hx hb dX9_binds_58 (by decide) ?_
              have hy := Option.some.inj h
              rw [← hQz, ← hy]
              exact xr_i (v := (6 : Int32)) hx hb hr rfl hlk hK hw dX9_binds_62
          · have h := z_f h c
            refine lv_iconst (v := 4) hx hb dX9_binds_46 (by decide) ?_
            refine lv_goto (tgt := 62) hx hb dX9_binds_47 (by decide) ?_
            have hy := Option.some.inj h
            rw [← hQz, ← hy]
            exact xr_i (v := (4 : Int32)) hx hb hr rfl hlk hK hw dX9_binds_62
        · have h := z_t h c
          refine lv_iconst (v := 3) hx hb dX9_binds_36 (by decide) ?_
          refine lv_goto (tgt := 62) hx hb dX9_binds_37 (by decide) ?_
          have hy := Option.some.inj h
          rw [← hQz, ← hy]
          exact xr_i (v := (3 : Int32)) hx hb hr rfl hlk hK hw dX9_binds_62
      · have h := z_t h c
        refine lv_iconst (v := 2) hx hb dX9_binds_26 (by decide) ?_
        refine lv_goto (tgt := 62) hx hb dX9_binds_27 (by decide) ?_
        have hy := Option.some.inj h
        rw [← hQz, ← hy]
        exact xr_i (v := (2 : Int32)) hx hb hr rfl hlk hK hw dX9_binds_62
    · have h := z_t h c
      refine lv_iconst (v := 1) hx hb dX9_binds_16 (by decide) ?_
      refine lv_goto (tgt := 62) hx hb dX9_binds_17 (by decide) ?_
      have hy := Option.some.inj h
      rw [← hQz, ← hy]
      exact xr_i (v := (1 : Int32)) hx hb hr rfl hlk hK hw dX9_binds_62
  · have h := z_f h c
    refine lv_iconst (v := 0) hx hb dX9_binds_6 (by decide) ?_
    refine lv_goto (tgt := 62) hx hb dX9_binds_7 (by decide) ?_
    have hy := Option.some.inj h
    rw [← hQz, ← hy]
    exact xr_i (v := (0 : Int32)) hx hb hr rfl hlk hK hw dX9_binds_62

def f_X9_emit (o_me : Ob) (p0 : Int32) (p1 : Int32) : Option (Ob) :=
  zgd (zin (gI o_me 23) 400) <|
  zlt (tA o_me 24 (gI o_me 23).toNatClampNeg p0) fun o2 =>
  zgd (zin (gI o2 23) 400) <|
  zlt (tA o2 25 (gI o2 23).toNatClampNeg p1) fun o4 =>
  zlt (sI o4 23 ((gI o4 23) + (1 : Int32))) fun o5 =>
  some o5
set_option maxHeartbeats 4000000 in
set_option maxRecDepth 100000 in
theorem m_X9_emit (l : Launch) (dC : Nat → ClassId) (dI : Nat → Nat → Nat) (sz : Nat) (h_me : Nat) (q_me : Nat → Nat) (k_me : Nat → ClassId) (o_me : Ob) (p0 : Int32) (p1 : Int32) (y : Ob) (h : f_X9_emit o_me p0 p1 = some y) : CV l yX9_emit cX9_emit 3 none ({ frames := 0, cells := 0, slots := 0, locals := 0 } : Room) dC dI sz [.ref h_me, .int p0, .int p1] [wX9 h_me q_me k_me o_me] [tX9 k_me] [wX9 h_me q_me k_me y] := by
  refine CC_of (by decide) (Nat.le_of_ble_eq_true rfl) ?_
  intro p e s m below meth c A ls hx hb hml hr hlk hnm hown hts hX hK hP hD hA hl
  have hl : lv_has ls 3 [(0, .ref h_me), (1, .int p0), (2, .int p1)] := hl
  have hown : s.vm.findClass RX9 = some m.cls := hown
  have hw : Wd dC dI A s.heap [wX9 h_me q_me k_me o_me] s.heap [] := ⟨hP, hD, va_S.rf⟩
  generalize hQz : (MQ below (QV dC dI (fun (_ : Unit) => True) (fun _ => Jn [wX9 h_me q_me k_me y]) (fun _ => Jt [tX9 k_me]) A) ([.ref h_me, .int p0, .int p1] : List Value).toArray s 0 0 A) = Qz
  clear hP hD hnm
  unfold f_X9_emit at h
  refine lv_aload_n hx hb dX9_emit_0 rfl (lv_at hl 0 rfl) ?_
  refine fgX9_24 hx hb hts hown hK hw 0 rfl kw1200 dX9_emit_1 ?_
  refine lv_aload_n hx hb dX9_emit_4 rfl (lv_at hl 0 rfl) ?_
  refine fgX9_23 hx hb hts hown hK hw 0 rfl kw1199 dX9_emit_5 ?_
  refine lv_iload_n hx hb dX9_emit_8 rfl (lv_at hl 1 rfl) ?_
  obtain ⟨g1, h⟩ := z_gd h
  refine fbX9_24 hx hb hK hw 0 rfl rfl g1 dX9_emit_9 (fun H locs hw => ?_)
  obtain ⟨o2, eo2, h⟩ := z_lt h
  have hw : Wd dC dI A s.heap [wX9 h_me q_me k_me o2] H locs := by rw [eo2]; exact hw
  refine lv_aload_n hx hb dX9_emit_10 rfl (lv_at hl 0 rfl) ?_
  refine fgX9_25 hx hb hts hown hK hw 0 rfl kw1201 dX9_emit_11 ?_
  refine lv_aload_n hx hb dX9_emit_14 rfl (lv_at hl 0 rfl) ?_
  refine fgX9_23 hx hb hts hown hK hw 0 rfl kw1199 dX9_emit_15 ?_
  refine lv_iload_n hx hb dX9_emit_18 rfl (lv_at hl 2 rfl) ?_
  obtain ⟨g3, h⟩ := z_gd h
  refine fbX9_25 hx hb hK hw 0 rfl rfl g3 dX9_emit_19 (fun H locs hw => ?_)
  obtain ⟨o4, eo4, h⟩ := z_lt h
  have hw : Wd dC dI A s.heap [wX9 h_me q_me k_me o4] H locs := by rw [eo4]; exact hw
  refine lv_aload_n hx hb dX9_emit_20 rfl (lv_at hl 0 rfl) ?_
  refine lv_dup hx hb dX9_emit_21 rfl ?_
  refine fgX9_23 hx hb hts hown hK hw 0 rfl kw1199 dX9_emit_22 ?_
  refine lv_iconst (v := 1) hx hb dX9_emit_25 (by decide) ?_
  refine lv_iadd hx hb dX9_emit_26 ?_
  refine fpX9_23 hx hb hts hown hK hw 0 rfl kw1199 dX9_emit_27 (fun H locs hw => ?_)
  obtain ⟨o5, eo5, h⟩ := z_lt h
  have hw : Wd dC dI A s.heap [wX9 h_me q_me k_me o5] H locs := by rw [eo5]; exact hw
  have hy := Option.some.inj h
  rw [← hQz, ← hy]
  exact xr_v hx hb hr hlk hK hw dX9_emit_30

def bk_X9_settle_63  (rec_0_0 : Int32 × Ob → Option (Ob)) (v1 : Int32) (o_me : Ob) : Option (Ob) :=
  zgd (zin (gI o_me 29) 400) <|
  zgd (zin (gA o_me 28 (gI o_me 29).toNatClampNeg) 400) <|
  zlt (tA o_me 25 (gA o_me 28 (gI o_me 29).toNatClampNeg).toNatClampNeg (gI o_me 23)) fun o7 =>
  rec_0_0 (v1, o7)
def lb_X9_settle_0   (rec_0_0 : Int32 × Ob → Option (Ob)) (v1 : Int32) (o_me : Ob) : Option (Ob) :=
  if (gI o_me 29) ≤ (0 : Int32) then
  (some o_me)
  else
  (zgd (zin ((gI o_me 29) - (1 : Int32)) 400) <|
  (f_X9_binds (gA o_me 27 ((gI o_me 29) - (1 : Int32)).toNatClampNeg)).bind fun z2 =>
  if z2 < v1 then
  (some o_me)
  else
  (zlt (sI o_me 29 ((gI o_me 29) - (1 : Int32))) fun o3 =>
  zgd (zin (gI o3 29) 400) <|
  if (gA o3 27 (gI o3 29).toNatClampNeg) = (29 : Int32) then
  (bk_X9_settle_63  rec_0_0 v1 o3)
  else
  (zgd (zin (gI o3 29) 400) <|
  if (gA o3 27 (gI o3 29).toNatClampNeg) = (30 : Int32) then
  (bk_X9_settle_63  rec_0_0 v1 o3)
  else
  (zgd (zin (gI o3 29) 400) <|
  (f_X9_emit o3 (gA o3 27 (gI o3 29).toNatClampNeg) (0 : Int32)).bind fun z10 =>
  rec_0_0 (v1, z10)))))
def lp_X9_settle_0   : Nat → (Int32 × Ob) → Option (Ob) := zit (fun rec a => lb_X9_settle_0   rec a.1 a.2)
def f_X9_settle (o_me : Ob) (p0 : Int32) : Option (Ob) :=
  lp_X9_settle_0   zfu (p0, o_me)
set_option maxHeartbeats 4000000 in
set_option maxRecDepth 100000 in
theorem m_X9_settle (l : Launch) (dC : Nat → ClassId) (dI : Nat → Nat → Nat) (sz : Nat) (h_me : Nat) (q_me : Nat → Nat) (k_me : Nat → ClassId) (o_me : Ob) (p0 : Int32) (y : Ob) (h : f_X9_settle o_me p0 = some y) : CV l yX9_settle cX9_settle 2 none ({ frames := 1, cells := 0, slots := 0, locals := 22 } : Room) dC dI sz [.ref h_me, .int p0] [wX9 h_me q_me k_me o_me] [tX9 k_me] [wX9 h_me q_me k_me y] := by
  refine CC_of (by decide) (Nat.le_of_ble_eq_true rfl) ?_
  intro p e s m below meth c A ls hx hb hml hr hlk hnm hown hts hX hK hP hD hA hl
  have hl : lv_has ls 2 [(0, .ref h_me), (1, .int p0)] := hl
  have hown : s.vm.findClass RX9 = some m.cls := hown
  have hw : Wd dC dI A s.heap [wX9 h_me q_me k_me o_me] s.heap [] := ⟨hP, hD, va_S.rf⟩
  generalize hQz : (MQ below (QV dC dI (fun (_ : Unit) => True) (fun _ => Jn [wX9 h_me q_me k_me y]) (fun _ => Jt [tX9 k_me]) A) ([.ref h_me, .int p0] : List Value).toArray s 0 0 A) = Qz
  clear hP hD hnm
  have bk_63_1 : ∀ (rec_0_0 : Int32 × Ob → Option (Ob)) (hrec_0_0 : ∀ (v1 : Int32) (o_me : Ob) (H : Heap) (locs : List Loc) (ls : Array Slot), rec_0_0 (v1, o_me) = some y → Wd dC dI A s.heap [wX9 h_me q_me k_me o_me] H locs → lv_has ls 2 [(0, .ref h_me), (1, .int v1)] → W p l e ({ frames := 1, cells := 0, slots := 0, locals := 22 } : Room) s m ([.ref h_me, .int p0] : List Value).toArray below meth c H locs 0 0 Qz (F0 m 0 ls [])), ∀ (v1 : Int32) (o_me : Ob) (H : Heap) (locs : List Loc) (ls : Array Slot), bk_X9_settle_63  rec_0_0 v1 o_me = some y → Wd dC dI A s.heap [wX9 h_me q_me k_me o_me] H locs → lv_has ls 2 [(0, .ref h_me), (1, .int v1)] → W p l e ({ frames := 1, cells := 0, slots := 0, locals := 22 } : Room) s m ([.ref h_me, .int p0] : List Value).toArray below meth c H locs 0 0 Qz (F0 m 63 ls []) := by
    intro rec_0_0 hrec_0_0
    intro v1 o_me H locs ls h hw hl
    unfold bk_X9_settle_63 at h
    refine lv_aload_n hx hb dX9_settle_63 rfl (lv_at hl 0 rfl) ?_
    refine fgX9_25 hx hb hts hown hK hw 0 rfl kw1201 dX9_settle_64 ?_
    refine lv_aload_n hx hb dX9_settle_67 rfl (lv_at hl 0 rfl) ?_
    refine fgX9_28 hx hb hts hown hK hw 0 rfl kw1204 dX9_settle_68 ?_
    refine lv_aload_n hx hb dX9_settle_71 rfl (lv_at hl 0 rfl) ?_
    refine fgX9_29 hx hb hts hown hK hw 0 rfl kw1205 dX9_settle_72 ?_
    obtain ⟨g5, h⟩ := z_gd h
    refine faX9_28 hx hb hK hw 0 rfl rfl g5 dX9_settle_75 ?_
    refine lv_aload_n hx hb dX9_settle_76 rfl (lv_at hl 0 rfl) ?_
    refine fgX9_23 hx hb hts hown hK hw 0 rfl kw1199 dX9_settle_77 ?_
    obtain ⟨g6, h⟩ := z_gd h
    refine fbX9_25 hx hb hK hw 0 rfl rfl g6 dX9_settle_80 (fun H locs hw => ?_)
    obtain ⟨o7, eo7, h⟩ := z_lt h
    have hw : Wd dC dI A s.heap [wX9 h_me q_me k_me o7] H locs := by rw [eo7]; exact hw
    refine lv_goto (tgt := 0) hx hb dX9_settle_81 (by decide) ?_
    exact hrec_0_0 v1 o7 _ _ _ h hw (lv_sub hl [0, 1] rfl)
  have lp_0_0 : ∀ (N : Nat), ∀ (v1 : Int32) (o_me : Ob) (H : Heap) (locs : List Loc) (ls : Array Slot), lp_X9_settle_0   N (v1, o_me) = some y → Wd dC dI A s.heap [wX9 h_me q_me k_me o_me] H locs → lv_has ls 2 [(0, .ref h_me), (1, .int v1)] → W p l e ({ frames := 1, cells := 0, slots := 0, locals := 22 } : Room) s m ([.ref h_me, .int p0] : List Value).toArray below meth c H locs 0 0 Qz (F0 m 0 ls []) := by
    intro N
    induction N with
    | zero =>
      intro v1 o_me H locs ls h hw hl
      exact absurd (show (none : Option (Ob)) = some y from h) (by simp)
    | succ N ih =>
      intro v1 o_me H locs ls h hw hl
      have h : lb_X9_settle_0   (lp_X9_settle_0   N) v1 o_me = some y := h
      unfold lb_X9_settle_0 at h
      refine lv_aload_n hx hb dX9_settle_0 rfl (lv_at hl 0 rfl) ?_
      refine fgX9_29 hx hb hts hown hK hw 0 rfl kw1205 dX9_settle_1 ?_
      refine lv_if_le (tgt := 101) hx hb dX9_settle_4 (by decide) (fun c => ?_) (fun c => ?_)
      · have h := z_t h c
        have hy := Option.some.inj h
        rw [← hQz, ← hy]
        exact xr_v hx hb hr hlk hK hw dX9_settle_101
      · have h := z_f h c
        refine lv_aload_n hx hb dX9_settle_7 rfl (lv_at hl 0 rfl) ?_
        refine fgX9_27 hx hb hts hown hK hw 0 rfl kw1203 dX9_settle_8 ?_
        refine lv_aload_n hx hb dX9_settle_11 rfl (lv_at hl 0 rfl) ?_
        refine fgX9_29 hx hb hts hown hK hw 0 rfl kw1205 dX9_settle_12 ?_
        refine lv_iconst (v := 1) hx hb dX9_settle_15 (by decide) ?_
        refine lv_isub hx hb dX9_settle_16 ?_
        obtain ⟨g1, h⟩ := z_gd h
        refine faX9_27 hx hb hK hw 0 rfl rfl g1 dX9_settle_17 ?_
        obtain ⟨z2, ez2, h⟩ := z_bd h
        refine xj_i (xrS (As := [.int (gA o_me 27 ((gI o_me 29) - (1 : Int32)).toNatClampNeg)]) (rest := []) ⟨hx, hb, hml, hown, hts⟩ (m_X9_binds l dC dI _  (gA o_me 27 ((gI o_me 29) - (1 : Int32)).toNatClampNeg) z2 ez2) kw1588 kw1586 kw1587 kw120 hd_X9_binds ⟨rfl, rfl⟩ rfl rfl ⟨rfl, rfl⟩ hX hK hw [] (by decide) rfl rfl hl.1 rfl rfl dX9_settle_18) hw hA [] (by decide) rfl rfl (fun H locs hw => ?_)
        refine lv_iload_n hx hb dX9_settle_21 rfl (lv_at hl 1 rfl) ?_
        refine lv_icmp_lt (tgt := 101) hx hb dX9_settle_22 (by decide) (fun c => ?_) (fun c => ?_)
        · have h := z_t h c
          have hy := Option.some.inj h
          rw [← hQz, ← hy]
          exact xr_v hx hb hr hlk hK hw dX9_settle_101
        · have h := z_f h c
          refine lv_aload_n hx hb dX9_settle_25 rfl (lv_at hl 0 rfl) ?_
          refine lv_dup hx hb dX9_settle_26 rfl ?_
          refine fgX9_29 hx hb hts hown hK hw 0 rfl kw1205 dX9_settle_27 ?_
          refine lv_iconst (v := 1) hx hb dX9_settle_30 (by decide) ?_
          refine lv_isub hx hb dX9_settle_31 ?_
          refine fpX9_29 hx hb hts hown hK hw 0 rfl kw1205 dX9_settle_32 (fun H locs hw => ?_)
          obtain ⟨o3, eo3, h⟩ := z_lt h
          have hw : Wd dC dI A s.heap [wX9 h_me q_me k_me o3] H locs := by rw [eo3]; exact hw
          refine lv_aload_n hx hb dX9_settle_35 rfl (lv_at hl 0 rfl) ?_
          refine fgX9_27 hx hb hts hown hK hw 0 rfl kw1203 dX9_settle_36 ?_
          refine lv_aload_n hx hb dX9_settle_39 rfl (lv_at hl 0 rfl) ?_
          refine fgX9_29 hx hb hts hown hK hw 0 rfl kw1205 dX9_settle_40 ?_
          obtain ⟨g4, h⟩ := z_gd h
          refine faX9_27 hx hb hK hw 0 rfl rfl g4 dX9_settle_43 ?_
          refine lv_bipush (v := 29) hx hb dX9_settle_44 (by decide) ?_
          refine lv_icmp_eq (tgt := 63) hx hb dX9_settle_46 (by decide) (fun c => ?_) (fun c => ?_)
          · have h := z_t h c
            exact bk_63_1 (lp_X9_settle_0   N) ih v1 o3 _ _ _ h hw (lv_sub hl [0, 1] rfl)
          · have h := z_f h c
            refine lv_aload_n hx hb dX9_settle_49 rfl (lv_at hl 0 rfl) ?_
            refine fgX9_27 hx hb hts hown hK hw 0 rfl kw1203 dX9_settle_50 ?_
            refine lv_aload_n hx hb dX9_settle_53 rfl (lv_at hl 0 rfl) ?_
            refine fgX9_29 hx hb hts hown hK hw 0 rfl kw1205 dX9_settle_54 ?_
            obtain ⟨g8, h⟩ := z_gd h
            refine faX9_27 hx hb hK hw 0 rfl rfl g8 dX9_settle_57 ?_
            refine lv_bipush (v := 30) hx hb dX9_settle_58 (by decide) ?_
            refine lv_icmp_ne (tgt := 84) hx hb dX9_settle_60 (by decide) (fun c => ?_) (fun c => ?_)
            · have h := z_f h c
              refine lv_aload_n hx hb dX9_settle_84 rfl (lv_at hl 0 rfl) ?_
              refine lv_aload_n hx hb dX9_settle_85 rfl (lv_at hl 0 rfl) ?_
              refine fgX9_27 hx hb hts hown hK hw 0 rfl kw1203 dX9_settle_86 ?_
              refine lv_aload_n hx hb dX9_settle_89 rfl (lv_at hl 0 rfl) ?_
              refine fgX9_29 hx hb hts hown hK hw 0 rfl kw1205 dX9_settle_90 ?_
              obtain ⟨g9, h⟩ := z_gd h
              refine faX9_27 hx hb hK hw 0 rfl rfl g9 dX9_settle_93 ?_
              refine lv_iconst (v := 0) hx hb dX9_settle_94 (by decide) ?_
              obtain ⟨z10, ez10, h⟩ := z_bd h
              refine xj_v (xrV (As := [.int (gA o3 27 (gI o3 29).toNatClampNeg), .int (0 : Int32)]) (rest := []) ⟨hx, hb, hml, hown, hts⟩ (m_X9_emit l dC dI _ h_me q_me k_me o3 (gA o3 27 (gI o3 29).toNatClampNeg) (0 : Int32) z10 ez10) kw1576 kw1573 kw1575 kw68 kw120 hd_X9_emit ⟨rfl, rfl⟩ rfl rfl ⟨rfl, rfl⟩ hX hK hw [0] (by decide) rfl rfl rfl rfl rfl hl.1 rfl rfl dX9_settle_95) hw hA [0] (by decide) rfl rfl (fun H locs hw => ?_)
              have hw : Wd dC dI A s.heap [wX9 h_me q_me k_me z10] H locs := hw
              refine lv_goto (tgt := 0) hx hb dX9_settle_98 (by decide) ?_
              exact ih v1 z10 _ _ _ h hw (lv_sub hl [0, 1] rfl)
            · have h := z_t h c
              exact bk_63_1 (lp_X9_settle_0   N) ih v1 o3 _ _ _ h hw (lv_sub hl [0, 1] rfl)
  unfold f_X9_settle at h
  exact lp_0_0  zfu p0 o_me _ _ _ h hw (lv_sub hl [0, 1] rfl)

def f_X9_push (o_me : Ob) (p0 : Int32) (p1 : Int32) : Option (Ob) :=
  zgd (zin (gI o_me 29) 400) <|
  zlt (tA o_me 27 (gI o_me 29).toNatClampNeg p0) fun o2 =>
  zgd (zin (gI o2 29) 400) <|
  zlt (tA o2 28 (gI o2 29).toNatClampNeg p1) fun o4 =>
  zlt (sI o4 29 ((gI o4 29) + (1 : Int32))) fun o5 =>
  some o5
set_option maxHeartbeats 4000000 in
set_option maxRecDepth 100000 in
theorem m_X9_push (l : Launch) (dC : Nat → ClassId) (dI : Nat → Nat → Nat) (sz : Nat) (h_me : Nat) (q_me : Nat → Nat) (k_me : Nat → ClassId) (o_me : Ob) (p0 : Int32) (p1 : Int32) (y : Ob) (h : f_X9_push o_me p0 p1 = some y) : CV l yX9_push cX9_push 3 none ({ frames := 0, cells := 0, slots := 0, locals := 0 } : Room) dC dI sz [.ref h_me, .int p0, .int p1] [wX9 h_me q_me k_me o_me] [tX9 k_me] [wX9 h_me q_me k_me y] := by
  refine CC_of (by decide) (Nat.le_of_ble_eq_true rfl) ?_
  intro p e s m below meth c A ls hx hb hml hr hlk hnm hown hts hX hK hP hD hA hl
  have hl : lv_has ls 3 [(0, .ref h_me), (1, .int p0), (2, .int p1)] := hl
  have hown : s.vm.findClass RX9 = some m.cls := hown
  have hw : Wd dC dI A s.heap [wX9 h_me q_me k_me o_me] s.heap [] := ⟨hP, hD, va_S.rf⟩
  generalize hQz : (MQ below (QV dC dI (fun (_ : Unit) => True) (fun _ => Jn [wX9 h_me q_me k_me y]) (fun _ => Jt [tX9 k_me]) A) ([.ref h_me, .int p0, .int p1] : List Value).toArray s 0 0 A) = Qz
  clear hP hD hnm
  unfold f_X9_push at h
  refine lv_aload_n hx hb dX9_push_0 rfl (lv_at hl 0 rfl) ?_
  refine fgX9_27 hx hb hts hown hK hw 0 rfl kw1203 dX9_push_1 ?_
  refine lv_aload_n hx hb dX9_push_4 rfl (lv_at hl 0 rfl) ?_
  refine fgX9_29 hx hb hts hown hK hw 0 rfl kw1205 dX9_push_5 ?_
  refine lv_iload_n hx hb dX9_push_8 rfl (lv_at hl 1 rfl) ?_
  obtain ⟨g1, h⟩ := z_gd h
  refine fbX9_27 hx hb hK hw 0 rfl rfl g1 dX9_push_9 (fun H locs hw => ?_)
  obtain ⟨o2, eo2, h⟩ := z_lt h
  have hw : Wd dC dI A s.heap [wX9 h_me q_me k_me o2] H locs := by rw [eo2]; exact hw
  refine lv_aload_n hx hb dX9_push_10 rfl (lv_at hl 0 rfl) ?_
  refine fgX9_28 hx hb hts hown hK hw 0 rfl kw1204 dX9_push_11 ?_
  refine lv_aload_n hx hb dX9_push_14 rfl (lv_at hl 0 rfl) ?_
  refine fgX9_29 hx hb hts hown hK hw 0 rfl kw1205 dX9_push_15 ?_
  refine lv_iload_n hx hb dX9_push_18 rfl (lv_at hl 2 rfl) ?_
  obtain ⟨g3, h⟩ := z_gd h
  refine fbX9_28 hx hb hK hw 0 rfl rfl g3 dX9_push_19 (fun H locs hw => ?_)
  obtain ⟨o4, eo4, h⟩ := z_lt h
  have hw : Wd dC dI A s.heap [wX9 h_me q_me k_me o4] H locs := by rw [eo4]; exact hw
  refine lv_aload_n hx hb dX9_push_20 rfl (lv_at hl 0 rfl) ?_
  refine lv_dup hx hb dX9_push_21 rfl ?_
  refine fgX9_29 hx hb hts hown hK hw 0 rfl kw1205 dX9_push_22 ?_
  refine lv_iconst (v := 1) hx hb dX9_push_25 (by decide) ?_
  refine lv_iadd hx hb dX9_push_26 ?_
  refine fpX9_29 hx hb hts hown hK hw 0 rfl kw1205 dX9_push_27 (fun H locs hw => ?_)
  obtain ⟨o5, eo5, h⟩ := z_lt h
  have hw : Wd dC dI A s.heap [wX9 h_me q_me k_me o5] H locs := by rw [eo5]; exact hw
  have hy := Option.some.inj h
  rw [← hQz, ← hy]
  exact xr_v hx hb hr hlk hK hw dX9_push_30

def bk_X9_behindSum_224   (v2 : Int32) (s0 : Int32) (o_me : Ob) : Option (Int32 × Ob) :=
  (f_X9_must o_me s0).bind fun z10 =>
  if (gI z10 19) = (0 : Int32) then
  ((f_X9_settle z10 (5 : Int32)).bind fun z11 =>
  (f_X9_push z11 v2 (0 : Int32)).bind fun z12 =>
  some ((1 : Int32), z12))
  else
  (some ((1 : Int32), z10))
def bk_X9_behindSum_219   (v2 : Int32) (o_me : Ob) : Option (Int32 × Ob) :=
  bk_X9_behindSum_224   v2 (1 : Int32) o_me
def bk_X9_behindSum_202   (s0 : Int32) (o_me : Ob) : Option (Int32 × Ob) :=
  if s0 = (27 : Int32) then
  ((f_X9_isSign o_me (61 : Int32)).bind fun z13 =>
  if z13 = (0 : Int32) then
  (bk_X9_behindSum_224   s0 (0 : Int32) o_me)
  else
  (bk_X9_behindSum_219   s0 o_me))
  else
  (bk_X9_behindSum_219   s0 o_me)
def bk_X9_behindSum_163   (o_me : Ob) : Option (Int32 × Ob) :=
  (f_X9_isCompared o_me).bind fun z7 =>
  if z7 = (0 : Int32) then
  ((f_X9_isSign o_me (60 : Int32)).bind fun z8 =>
  if z8 = (0 : Int32) then
  ((f_X9_isSign o_me (62 : Int32)).bind fun z9 =>
  if z9 = (0 : Int32) then
  (bk_X9_behindSum_202   (27 : Int32) o_me)
  else
  (bk_X9_behindSum_202   (26 : Int32) o_me))
  else
  (bk_X9_behindSum_202   (25 : Int32) o_me))
  else
  (some ((2 : Int32), o_me))
def bk_X9_behindSum_71   (v1 : Int32) (s0 : Int32) (o_me : Ob) : Option (Int32 × Ob) :=
  if s0 = (-1 : Int32) then
  ((f_X9_inner o_me).bind fun z6 =>
  if z6 = (32 : Int32) then
  ((f_X9_isSign o_me (93 : Int32)).bind fun z14 =>
  (f_X9_must o_me z14).bind fun z15 =>
  if (gI z15 19) = (0 : Int32) then
  ((f_X9_settle z15 (5 : Int32)).bind fun z16 =>
  zlt (sI z16 29 ((gI z16 29) - (1 : Int32))) fun o17 =>
  zlt (sI o17 30 ((gI o17 30) - (1 : Int32))) fun o18 =>
  some ((3 : Int32), o18))
  else
  (some ((3 : Int32), z15)))
  else
  (if z6 = (-1 : Int32) then
  (if v1 = (0 : Int32) then
  (some ((4 : Int32), o_me))
  else
  (bk_X9_behindSum_163   o_me))
  else
  (bk_X9_behindSum_163   o_me)))
  else
  ((f_X9_binds s0).bind fun z19 =>
  (f_X9_settle o_me z19).bind fun z20 =>
  (f_X9_push z20 s0 (0 : Int32)).bind fun z21 =>
  (f_X9_next z21).bind fun z22 =>
  some ((1 : Int32), z22))
def f_X9_behindSum (o_me : Ob) (p0 : Int32) : Option (Int32 × Ob) :=
  (f_X9_isSign o_me (43 : Int32)).bind fun z1 =>
  if z1 = (0 : Int32) then
  ((f_X9_isSign o_me (45 : Int32)).bind fun z2 =>
  if z2 = (0 : Int32) then
  ((f_X9_isSign o_me (42 : Int32)).bind fun z3 =>
  if z3 = (0 : Int32) then
  ((f_X9_isSign o_me (47 : Int32)).bind fun z4 =>
  if z4 = (0 : Int32) then
  ((f_X9_isSign o_me (37 : Int32)).bind fun z5 =>
  if z5 = (0 : Int32) then
  (bk_X9_behindSum_71   p0 (-1 : Int32) o_me)
  else
  (bk_X9_behindSum_71   p0 (24 : Int32) o_me))
  else
  (bk_X9_behindSum_71   p0 (23 : Int32) o_me))
  else
  (bk_X9_behindSum_71   p0 (22 : Int32) o_me))
  else
  (bk_X9_behindSum_71   p0 (21 : Int32) o_me))
  else
  (bk_X9_behindSum_71   p0 (20 : Int32) o_me)
set_option maxHeartbeats 4000000 in
set_option maxRecDepth 100000 in
theorem m_X9_behindSum (l : Launch) (dC : Nat → ClassId) (dI : Nat → Nat → Nat) (sz : Nat) (h_me : Nat) (q_me : Nat → Nat) (k_me : Nat → ClassId) (o_me : Ob) (p0 : Int32) (y : Int32 × Ob) (h : f_X9_behindSum o_me p0 = some y) : CI l yX9_behindSum cX9_behindSum 4 (some .int) ({ frames := 3, cells := 0, slots := 0, locals := 61 } : Room) dC dI sz [.ref h_me, .int p0] [wX9 h_me q_me k_me o_me] [tX9 k_me] y.1 [wX9 h_me q_me k_me y.2] := by
  refine CC_of (by decide) (Nat.le_of_ble_eq_true rfl) ?_
  intro p e s m below meth c A ls hx hb hml hr hlk hnm hown hts hX hK hP hD hA hl
  have hl : lv_has ls 4 [(0, .ref h_me), (1, .int p0)] := hl
  have hown : s.vm.findClass RX9 = some m.cls := hown
  have hw : Wd dC dI A s.heap [wX9 h_me q_me k_me o_me] s.heap [] := ⟨hP, hD, va_S.rf⟩
  generalize hQz : (MQ below (QI dC dI (fun r (_ : Unit) => r = y.1) (fun _ => Jn [wX9 h_me q_me k_me y.2]) (fun _ => Jt [tX9 k_me]) A) ([.ref h_me, .int p0] : List Value).toArray s 0 0 A) = Qz
  clear hP hD hnm
  have bk_224_4 : ∀ (v2 : Int32) (s0 : Int32) (o_me : Ob) (H : Heap) (locs : List Loc) (ls : Array Slot), bk_X9_behindSum_224   v2 s0 o_me = some y → Wd dC dI A s.heap [wX9 h_me q_me k_me o_me] H locs → lv_has ls 4 [(0, .ref h_me), (2, .int v2)] → W p l e ({ frames := 3, cells := 0, slots := 0, locals := 61 } : Room) s m ([.ref h_me, .int p0] : List Value).toArray below meth c H locs 0 0 Qz (F0 m 224 ls [.int s0, .ref h_me]) := by
    intro v2 s0 o_me H locs ls h hw hl
    unfold bk_X9_behindSum_224 at h
    obtain ⟨z10, ez10, h⟩ := z_bd h
    refine xj_v (xrV (As := [.int s0]) (rest := []) ⟨hx, hb, hml, hown, hts⟩ (m_X9_must l dC dI _ h_me q_me k_me o_me s0 z10 ez10) kw1534 kw1531 kw1533 kw58 kw120 hd_X9_must ⟨rfl, rfl⟩ rfl rfl ⟨rfl, rfl⟩ hX hK hw [0] (by decide) rfl rfl rfl rfl rfl hl.1 rfl rfl dX9_behindSum_224) hw hA [0] (by decide) rfl rfl (fun H locs hw => ?_)
    have hw : Wd dC dI A s.heap [wX9 h_me q_me k_me z10] H locs := hw
    refine lv_aload_n hx hb dX9_behindSum_227 rfl (lv_at hl 0 rfl) ?_
    refine fgX9_19 hx hb hts hown hK hw 0 rfl kw1195 dX9_behindSum_228 ?_
    refine lv_if_ne (tgt := 245) hx hb dX9_behindSum_231 (by decide) (fun c => ?_) (fun c => ?_)
    · have h := z_f h c
      refine lv_iconst (v := 1) hx hb dX9_behindSum_245 (by decide) ?_
      have hy := Option.some.inj h
      rw [← hQz, ← hy]
      exact xr_i (v := (1 : Int32)) hx hb hr rfl hlk hK hw dX9_behindSum_246
    · have h := z_t h c
      refine lv_aload_n hx hb dX9_behindSum_234 rfl (lv_at hl 0 rfl) ?_
      refine lv_iconst (v := 5) hx hb dX9_behindSum_235 (by decide) ?_
      obtain ⟨z11, ez11, h⟩ := z_bd h
      refine xj_v (xrV (As := [.int (5 : Int32)]) (rest := []) ⟨hx, hb, hml, hown, hts⟩ (m_X9_settle l dC dI _ h_me q_me k_me z10 (5 : Int32) z11 ez11) kw1592 kw1589 kw1591 kw71 kw120 hd_X9_settle ⟨rfl, rfl⟩ rfl rfl ⟨rfl, rfl⟩ hX hK hw [0] (by decide) rfl rfl rfl rfl rfl hl.1 rfl rfl dX9_behindSum_236) hw hA [0] (by decide) rfl rfl (fun H locs hw => ?_)
      have hw : Wd dC dI A s.heap [wX9 h_me q_me k_me z11] H locs := hw
      refine lv_aload_n hx hb dX9_behindSum_239 rfl (lv_at hl 0 rfl) ?_
      refine lv_iload_n hx hb dX9_behindSum_240 rfl (lv_at hl 1 rfl) ?_
      refine lv_iconst (v := 0) hx hb dX9_behindSum_241 (by decide) ?_
      obtain ⟨z12, ez12, h⟩ := z_bd h
      refine xj_v (xrV (As := [.int v2, .int (0 : Int32)]) (rest := []) ⟨hx, hb, hml, hown, hts⟩ (m_X9_push l dC dI _ h_me q_me k_me z11 v2 (0 : Int32) z12 ez12) kw1547 kw1544 kw1546 kw61 kw120 hd_X9_push ⟨rfl, rfl⟩ rfl rfl ⟨rfl, rfl⟩ hX hK hw [0] (by decide) rfl rfl rfl rfl rfl hl.1 rfl rfl dX9_behindSum_242) hw hA [0] (by decide) rfl rfl (fun H locs hw => ?_)
      have hw : Wd dC dI A s.heap [wX9 h_me q_me k_me z12] H locs := hw
      refine lv_iconst (v := 1) hx hb dX9_behindSum_245 (by decide) ?_
      have hy := Option.some.inj h
      rw [← hQz, ← hy]
      exact xr_i (v := (1 : Int32)) hx hb hr rfl hlk hK hw dX9_behindSum_246
  have bk_219_3 : ∀ (v2 : Int32) (o_me : Ob) (H : Heap) (locs : List Loc) (ls : Array Slot), bk_X9_behindSum_219   v2 o_me = some y → Wd dC dI A s.heap [wX9 h_me q_me k_me o_me] H locs → lv_has ls 4 [(0, .ref h_me), (2, .int v2)] → W p l e ({ frames := 3, cells := 0, slots := 0, locals := 61 } : Room) s m ([.ref h_me, .int p0] : List Value).toArray below meth c H locs 0 0 Qz (F0 m 219 ls [.ref h_me]) := by
    intro v2 o_me H locs ls h hw hl
    unfold bk_X9_behindSum_219 at h
    refine lv_iconst (v := 1) hx hb dX9_behindSum_219 (by decide) ?_
    refine lv_goto (tgt := 224) hx hb dX9_behindSum_220 (by decide) ?_
    exact bk_224_4  v2 (1 : Int32) o_me _ _ _ h hw (lv_sub hl [0, 1] rfl)
  have bk_202_2 : ∀ (s0 : Int32) (o_me : Ob) (H : Heap) (locs : List Loc) (ls : Array Slot), bk_X9_behindSum_202   s0 o_me = some y → Wd dC dI A s.heap [wX9 h_me q_me k_me o_me] H locs → lv_has ls 4 [(0, .ref h_me)] → W p l e ({ frames := 3, cells := 0, slots := 0, locals := 61 } : Room) s m ([.ref h_me, .int p0] : List Value).toArray below meth c H locs 0 0 Qz (F0 m 202 ls [.int s0]) := by
    intro s0 o_me H locs ls h hw hl
    unfold bk_X9_behindSum_202 at h
    refine lv_istore_n (lv' := [(2, .int s0), (0, .ref h_me)]) hx hb dX9_behindSum_202 rfl hl (by decide) rfl (fun ls hl => ?_)
    refine lv_aload_n hx hb dX9_behindSum_203 rfl (lv_at hl 1 rfl) ?_
    refine lv_iload_n hx hb dX9_behindSum_204 rfl (lv_at hl 0 rfl) ?_
    refine lv_bipush (v := 27) hx hb dX9_behindSum_205 (by decide) ?_
    refine lv_icmp_ne (tgt := 219) hx hb dX9_behindSum_207 (by decide) (fun c => ?_) (fun c => ?_)
    · have h := z_f h c
      exact bk_219_3  s0 o_me _ _ _ h hw (lv_sub hl [1, 0] rfl)
    · have h := z_t h c
      refine lv_aload_n hx hb dX9_behindSum_210 rfl (lv_at hl 1 rfl) ?_
      refine lv_bipush (v := 61) hx hb dX9_behindSum_211 (by decide) ?_
      obtain ⟨z13, ez13, h⟩ := z_bd h
      refine xj_i (xrV (As := [.int (61 : Int32)]) (rest := [.ref h_me]) ⟨hx, hb, hml, hown, hts⟩ (m_X9_isSign l dC dI _ h_me q_me k_me o_me (61 : Int32) z13 ez13) kw1551 kw1548 kw1550 kw62 kw120 hd_X9_isSign ⟨rfl, rfl⟩ rfl rfl ⟨rfl, rfl⟩ hX hK hw [0] (by decide) rfl rfl rfl rfl rfl hl.1 rfl rfl dX9_behindSum_213) hw hA [0] (by decide) rfl rfl (fun H locs hw => ?_)
      have hw : Wd dC dI A s.heap [wX9 h_me q_me k_me o_me] H locs := hw
      refine lv_if_eq (tgt := 223) hx hb dX9_behindSum_216 (by decide) (fun c => ?_) (fun c => ?_)
      · have h := z_t h c
        refine lv_iconst (v := 0) hx hb dX9_behindSum_223 (by decide) ?_
        exact bk_224_4  s0 (0 : Int32) o_me _ _ _ h hw (lv_sub hl [1, 0] rfl)
      · have h := z_f h c
        exact bk_219_3  s0 o_me _ _ _ h hw (lv_sub hl [1, 0] rfl)
  have bk_163_1 : ∀ (o_me : Ob) (H : Heap) (locs : List Loc) (ls : Array Slot), bk_X9_behindSum_163   o_me = some y → Wd dC dI A s.heap [wX9 h_me q_me k_me o_me] H locs → lv_has ls 4 [(0, .ref h_me)] → W p l e ({ frames := 3, cells := 0, slots := 0, locals := 61 } : Room) s m ([.ref h_me, .int p0] : List Value).toArray below meth c H locs 0 0 Qz (F0 m 163 ls []) := by
    intro o_me H locs ls h hw hl
    unfold bk_X9_behindSum_163 at h
    refine lv_aload_n hx hb dX9_behindSum_163 rfl (lv_at hl 0 rfl) ?_
    obtain ⟨z7, ez7, h⟩ := z_bd h
    refine xj_i (xrV (As := []) (rest := []) ⟨hx, hb, hml, hown, hts⟩ (m_X9_isCompared l dC dI _ h_me q_me k_me o_me z7 ez7) kw1600 kw1597 kw1599 kw73 kw120 hd_X9_isCompared ⟨rfl, rfl⟩ rfl rfl ⟨rfl, rfl⟩ hX hK hw [0] (by decide) rfl rfl rfl rfl rfl hl.1 rfl rfl dX9_behindSum_164) hw hA [0] (by decide) rfl rfl (fun H locs hw => ?_)
    have hw : Wd dC dI A s.heap [wX9 h_me q_me k_me o_me] H locs := hw
    refine lv_if_eq (tgt := 172) hx hb dX9_behindSum_167 (by decide) (fun c => ?_) (fun c => ?_)
    · have h := z_t h c
      refine lv_aload_n hx hb dX9_behindSum_172 rfl (lv_at hl 0 rfl) ?_
      refine lv_bipush (v := 60) hx hb dX9_behindSum_173 (by decide) ?_
      obtain ⟨z8, ez8, h⟩ := z_bd h
      refine xj_i (xrV (As := [.int (60 : Int32)]) (rest := []) ⟨hx, hb, hml, hown, hts⟩ (m_X9_isSign l dC dI _ h_me q_me k_me o_me (60 : Int32) z8 ez8) kw1551 kw1548 kw1550 kw62 kw120 hd_X9_isSign ⟨rfl, rfl⟩ rfl rfl ⟨rfl, rfl⟩ hX hK hw [0] (by decide) rfl rfl rfl rfl rfl hl.1 rfl rfl dX9_behindSum_175) hw hA [0] (by decide) rfl rfl (fun H locs hw => ?_)
      have hw : Wd dC dI A s.heap [wX9 h_me q_me k_me o_me] H locs := hw
      refine lv_if_eq (tgt := 186) hx hb dX9_behindSum_178 (by decide) (fun c => ?_) (fun c => ?_)
      · have h := z_t h c
        refine lv_aload_n hx hb dX9_behindSum_186 rfl (lv_at hl 0 rfl) ?_
        refine lv_bipush (v := 62) hx hb dX9_behindSum_187 (by decide) ?_
        obtain ⟨z9, ez9, h⟩ := z_bd h
        refine xj_i (xrV (As := [.int (62 : Int32)]) (rest := []) ⟨hx, hb, hml, hown, hts⟩ (m_X9_isSign l dC dI _ h_me q_me k_me o_me (62 : Int32) z9 ez9) kw1551 kw1548 kw1550 kw62 kw120 hd_X9_isSign ⟨rfl, rfl⟩ rfl rfl ⟨rfl, rfl⟩ hX hK hw [0] (by decide) rfl rfl rfl rfl rfl hl.1 rfl rfl dX9_behindSum_189) hw hA [0] (by decide) rfl rfl (fun H locs hw => ?_)
        have hw : Wd dC dI A s.heap [wX9 h_me q_me k_me o_me] H locs := hw
        refine lv_if_eq (tgt := 200) hx hb dX9_behindSum_192 (by decide) (fun c => ?_) (fun c => ?_)
        · have h := z_t h c
          refine lv_bipush (v := 27) hx hb dX9_behindSum_200 (by decide) ?_
          exact bk_202_2  (27 : Int32) o_me _ _ _ h hw (lv_sub hl [0] rfl)
        · have h := z_f h c
          refine lv_bipush (v := 26) hx hb dX9_behindSum_195 (by decide) ?_
          refine lv_goto (tgt := 202) hx hb dX9_behindSum_197 (by decide) ?_
          exact bk_202_2  (26 : Int32) o_me _ _ _ h hw (lv_sub hl [0] rfl)
      · have h := z_f h c
        refine lv_bipush (v := 25) hx hb dX9_behindSum_181 (by decide) ?_
        refine lv_goto (tgt := 202) hx hb dX9_behindSum_183 (by decide) ?_
        exact bk_202_2  (25 : Int32) o_me _ _ _ h hw (lv_sub hl [0] rfl)
    · have h := z_f h c
      refine lv_iconst (v := 2) hx hb dX9_behindSum_170 (by decide) ?_
      have hy := Option.some.inj h
      rw [← hQz, ← hy]
      exact xr_i (v := (2 : Int32)) hx hb hr rfl hlk hK hw dX9_behindSum_171
  have bk_71_0 : ∀ (v1 : Int32) (s0 : Int32) (o_me : Ob) (H : Heap) (locs : List Loc) (ls : Array Slot), bk_X9_behindSum_71   v1 s0 o_me = some y → Wd dC dI A s.heap [wX9 h_me q_me k_me o_me] H locs → lv_has ls 4 [(0, .ref h_me), (1, .int v1)] → W p l e ({ frames := 3, cells := 0, slots := 0, locals := 61 } : Room) s m ([.ref h_me, .int p0] : List Value).toArray below meth c H locs 0 0 Qz (F0 m 71 ls [.int s0]) := by
    intro v1 s0 o_me H locs ls h hw hl
    unfold bk_X9_behindSum_71 at h
    refine lv_istore_n (lv' := [(2, .int s0), (0, .ref h_me), (1, .int v1)]) hx hb dX9_behindSum_71 rfl hl (by decide) rfl (fun ls hl => ?_)
    refine lv_iload_n hx hb dX9_behindSum_72 rfl (lv_at hl 0 rfl) ?_
    refine lv_iconst (v := (-1)) hx hb dX9_behindSum_73 (by decide) ?_
    refine lv_icmp_eq (tgt := 97) hx hb dX9_behindSum_74 (by decide) (fun c => ?_) (fun c => ?_)
    · have h := z_t h c
      refine lv_aload_n hx hb dX9_behindSum_97 rfl (lv_at hl 1 rfl) ?_
      obtain ⟨z6, ez6, h⟩ := z_bd h
      refine xj_i (xrV (As := []) (rest := []) ⟨hx, hb, hml, hown, hts⟩ (m_X9_inner l dC dI _ h_me q_me k_me o_me z6 ez6) kw1596 kw1593 kw1595 kw72 kw120 hd_X9_inner ⟨rfl, rfl⟩ rfl rfl ⟨rfl, rfl⟩ hX hK hw [0] (by decide) rfl rfl rfl rfl rfl hl.1 rfl rfl dX9_behindSum_98) hw hA [0] (by decide) rfl rfl (fun H locs hw => ?_)
      have hw : Wd dC dI A s.heap [wX9 h_me q_me k_me o_me] H locs := hw
      refine lv_istore_n (lv' := [(3, .int z6), (2, .int s0), (0, .ref h_me), (1, .int v1)]) hx hb dX9_behindSum_101 rfl hl (by decide) rfl (fun ls hl => ?_)
      refine lv_iload_n hx hb dX9_behindSum_102 rfl (lv_at hl 0 rfl) ?_
      refine lv_bipush (v := 32) hx hb dX9_behindSum_103 (by decide) ?_
      refine lv_icmp_ne (tgt := 152) hx hb dX9_behindSum_105 (by decide) (fun c => ?_) (fun c => ?_)
      · have h := z_f h c
        refine lv_iload_n hx hb dX9_behindSum_152 rfl (lv_at hl 0 rfl) ?_
        refine lv_iconst (v := (-1)) hx hb dX9_behindSum_153 (by decide) ?_
        refine lv_icmp_ne (tgt := 163) hx hb dX9_behindSum_154 (by decide) (fun c => ?_) (fun c => ?_)
        · have h := z_f h c
          exact bk_163_1  o_me _ _ _ h hw (lv_sub hl [2] rfl)
        · have h := z_t h c
          refine lv_iload_n hx hb dX9_behindSum_157 rfl (lv_at hl 3 rfl) ?_
          refine lv_if_ne (tgt := 163) hx hb dX9_behindSum_158 (by decide) (fun c => ?_) (fun c => ?_)
          · have h := z_f h c
            exact bk_163_1  o_me _ _ _ h hw (lv_sub hl [2] rfl)
          · have h := z_t h c
            refine lv_iconst (v := 4) hx hb dX9_behindSum_161 (by decide) ?_
            have hy := Option.some.inj h
            rw [← hQz, ← hy]
            exact xr_i (v := (4 : Int32)) hx hb hr rfl hlk hK hw dX9_behindSum_162
      · have h := z_t h c
        refine lv_aload_n hx hb dX9_behindSum_108 rfl (lv_at hl 2 rfl) ?_
        refine lv_aload_n hx hb dX9_behindSum_109 rfl (lv_at hl 2 rfl) ?_
        refine lv_bipush (v := 93) hx hb dX9_behindSum_110 (by decide) ?_
        obtain ⟨z14, ez14, h⟩ := z_bd h
        refine xj_i (xrV (As := [.int (93 : Int32)]) (rest := [.ref h_me]) ⟨hx, hb, hml, hown, hts⟩ (m_X9_isSign l dC dI _ h_me q_me k_me o_me (93 : Int32) z14 ez14) kw1551 kw1548 kw1550 kw62 kw120 hd_X9_isSign ⟨rfl, rfl⟩ rfl rfl ⟨rfl, rfl⟩ hX hK hw [0] (by decide) rfl rfl rfl rfl rfl hl.1 rfl rfl dX9_behindSum_112) hw hA [0] (by decide) rfl rfl (fun H locs hw => ?_)
        have hw : Wd dC dI A s.heap [wX9 h_me q_me k_me o_me] H locs := hw
        obtain ⟨z15, ez15, h⟩ := z_bd h
        refine xj_v (xrV (As := [.int z14]) (rest := []) ⟨hx, hb, hml, hown, hts⟩ (m_X9_must l dC dI _ h_me q_me k_me o_me z14 z15 ez15) kw1534 kw1531 kw1533 kw58 kw120 hd_X9_must ⟨rfl, rfl⟩ rfl rfl ⟨rfl, rfl⟩ hX hK hw [0] (by decide) rfl rfl rfl rfl rfl hl.1 rfl rfl dX9_behindSum_115) hw hA [0] (by decide) rfl rfl (fun H locs hw => ?_)
        have hw : Wd dC dI A s.heap [wX9 h_me q_me k_me z15] H locs := hw
        refine lv_aload_n hx hb dX9_behindSum_118 rfl (lv_at hl 2 rfl) ?_
        refine fgX9_19 hx hb hts hown hK hw 0 rfl kw1195 dX9_behindSum_119 ?_
        refine lv_if_ne (tgt := 150) hx hb dX9_behindSum_122 (by decide) (fun c => ?_) (fun c => ?_)
        · have h := z_f h c
          refine lv_iconst (v := 3) hx hb dX9_behindSum_150 (by decide) ?_
          have hy := Option.some.inj h
          rw [← hQz, ← hy]
          exact xr_i (v := (3 : Int32)) hx hb hr rfl hlk hK hw dX9_behindSum_151
        · have h := z_t h c
          refine lv_aload_n hx hb dX9_behindSum_125 rfl (lv_at hl 2 rfl) ?_
          refine lv_iconst (v := 5) hx hb dX9_behindSum_126 (by decide) ?_
          obtain ⟨z16, ez16, h⟩ := z_bd h
          refine xj_v (xrV (As := [.int (5 : Int32)]) (rest := []) ⟨hx, hb, hml, hown, hts⟩ (m_X9_settle l dC dI _ h_me q_me k_me z15 (5 : Int32) z16 ez16) kw1592 kw1589 kw1591 kw71 kw120 hd_X9_settle ⟨rfl, rfl⟩ rfl rfl ⟨rfl, rfl⟩ hX hK hw [0] (by decide) rfl rfl rfl rfl rfl hl.1 rfl rfl dX9_behindSum_127) hw hA [0] (by decide) rfl rfl (fun H locs hw => ?_)
          have hw : Wd dC dI A s.heap [wX9 h_me q_me k_me z16] H locs := hw
          refine lv_aload_n hx hb dX9_behindSum_130 rfl (lv_at hl 2 rfl) ?_
          refine lv_dup hx hb dX9_behindSum_131 rfl ?_
          refine fgX9_29 hx hb hts hown hK hw 0 rfl kw1205 dX9_behindSum_132 ?_
          refine lv_iconst (v := 1) hx hb dX9_behindSum_135 (by decide) ?_
          refine lv_isub hx hb dX9_behindSum_136 ?_
          refine fpX9_29 hx hb hts hown hK hw 0 rfl kw1205 dX9_behindSum_137 (fun H locs hw => ?_)
          obtain ⟨o17, eo17, h⟩ := z_lt h
          have hw : Wd dC dI A s.heap [wX9 h_me q_me k_me o17] H locs := by rw [eo17]; exact hw
          refine lv_aload_n hx hb dX9_behindSum_140 rfl (lv_at hl 2 rfl) ?_
          refine lv_dup hx hb dX9_behindSum_141 rfl ?_
          refine fgX9_30 hx hb hts hown hK hw 0 rfl kw1206 dX9_behindSum_142 ?_
          refine lv_iconst (v := 1) hx hb dX9_behindSum_145 (by decide) ?_
          refine lv_isub hx hb dX9_behindSum_146 ?_
          refine fpX9_30 hx hb hts hown hK hw 0 rfl kw1206 dX9_behindSum_147 (fun H locs hw => ?_)
          obtain ⟨o18, eo18, h⟩ := z_lt h
          have hw : Wd dC dI A s.heap [wX9 h_me q_me k_me o18] H locs := by rw [eo18]; exact hw
          refine lv_iconst (v := 3) hx hb dX9_behindSum_150 (by decide) ?_
          have hy := Option.some.inj h
          rw [← hQz, ← hy]
          exact xr_i (v := (3 : Int32)) hx hb hr rfl hlk hK hw dX9_behindSum_151
    · have h := z_f h c
      refine lv_aload_n hx hb dX9_behindSum_77 rfl (lv_at hl 1 rfl) ?_
      refine lv_iload_n hx hb dX9_behindSum_78 rfl (lv_at hl 0 rfl) ?_
      obtain ⟨z19, ez19, h⟩ := z_bd h
      refine xj_i (xrS (As := [.int s0]) (rest := [.ref h_me]) ⟨hx, hb, hml, hown, hts⟩ (m_X9_binds l dC dI _  s0 z19 ez19) kw1588 kw1586 kw1587 kw120 hd_X9_binds ⟨rfl, rfl⟩ rfl rfl ⟨rfl, rfl⟩ hX hK hw [] (by decide) rfl rfl hl.1 rfl rfl dX9_behindSum_79) hw hA [] (by decide) rfl rfl (fun H locs hw => ?_)
      obtain ⟨z20, ez20, h⟩ := z_bd h
      refine xj_v (xrV (As := [.int z19]) (rest := []) ⟨hx, hb, hml, hown, hts⟩ (m_X9_settle l dC dI _ h_me q_me k_me o_me z19 z20 ez20) kw1592 kw1589 kw1591 kw71 kw120 hd_X9_settle ⟨rfl, rfl⟩ rfl rfl ⟨rfl, rfl⟩ hX hK hw [0] (by decide) rfl rfl rfl rfl rfl hl.1 rfl rfl dX9_behindSum_82) hw hA [0] (by decide) rfl rfl (fun H locs hw => ?_)
      have hw : Wd dC dI A s.heap [wX9 h_me q_me k_me z20] H locs := hw
      refine lv_aload_n hx hb dX9_behindSum_85 rfl (lv_at hl 1 rfl) ?_
      refine lv_iload_n hx hb dX9_behindSum_86 rfl (lv_at hl 0 rfl) ?_
      refine lv_iconst (v := 0) hx hb dX9_behindSum_87 (by decide) ?_
      obtain ⟨z21, ez21, h⟩ := z_bd h
      refine xj_v (xrV (As := [.int s0, .int (0 : Int32)]) (rest := []) ⟨hx, hb, hml, hown, hts⟩ (m_X9_push l dC dI _ h_me q_me k_me z20 s0 (0 : Int32) z21 ez21) kw1547 kw1544 kw1546 kw61 kw120 hd_X9_push ⟨rfl, rfl⟩ rfl rfl ⟨rfl, rfl⟩ hX hK hw [0] (by decide) rfl rfl rfl rfl rfl hl.1 rfl rfl dX9_behindSum_88) hw hA [0] (by decide) rfl rfl (fun H locs hw => ?_)
      have hw : Wd dC dI A s.heap [wX9 h_me q_me k_me z21] H locs := hw
      refine lv_aload_n hx hb dX9_behindSum_91 rfl (lv_at hl 1 rfl) ?_
      obtain ⟨z22, ez22, h⟩ := z_bd h
      refine xj_v (xrV (As := []) (rest := []) ⟨hx, hb, hml, hown, hts⟩ (m_X9_next l dC dI _ h_me q_me k_me z21 z22 ez22) kw1512 kw1509 kw1511 kw55 kw120 hd_X9_next ⟨rfl, rfl⟩ rfl rfl ⟨rfl, rfl⟩ hX hK hw [0] (by decide) rfl rfl rfl rfl rfl hl.1 rfl rfl dX9_behindSum_92) hw hA [0] (by decide) rfl rfl (fun H locs hw => ?_)
      have hw : Wd dC dI A s.heap [wX9 h_me q_me k_me z22] H locs := hw
      refine lv_iconst (v := 1) hx hb dX9_behindSum_95 (by decide) ?_
      have hy := Option.some.inj h
      rw [← hQz, ← hy]
      exact xr_i (v := (1 : Int32)) hx hb hr rfl hlk hK hw dX9_behindSum_96
  unfold f_X9_behindSum at h
  refine lv_aload_n hx hb dX9_behindSum_0 rfl (lv_at hl 0 rfl) ?_
  refine lv_bipush (v := 43) hx hb dX9_behindSum_1 (by decide) ?_
  obtain ⟨z1, ez1, h⟩ := z_bd h
  refine xj_i (xrV (As := [.int (43 : Int32)]) (rest := []) ⟨hx, hb, hml, hown, hts⟩ (m_X9_isSign l dC dI _ h_me q_me k_me o_me (43 : Int32) z1 ez1) kw1551 kw1548 kw1550 kw62 kw120 hd_X9_isSign ⟨rfl, rfl⟩ rfl rfl ⟨rfl, rfl⟩ hX hK hw [0] (by decide) rfl rfl rfl rfl rfl hl.1 rfl rfl dX9_behindSum_3) hw hA [0] (by decide) rfl rfl (fun H locs hw => ?_)
  have hw : Wd dC dI A s.heap [wX9 h_me q_me k_me o_me] H locs := hw
  refine lv_if_eq (tgt := 14) hx hb dX9_behindSum_6 (by decide) (fun c => ?_) (fun c => ?_)
  · have h := z_t h c
    refine lv_aload_n hx hb dX9_behindSum_14 rfl (lv_at hl 0 rfl) ?_
    refine lv_bipush (v := 45) hx hb dX9_behindSum_15 (by decide) ?_
    obtain ⟨z2, ez2, h⟩ := z_bd h
    refine xj_i (xrV (As := [.int (45 : Int32)]) (rest := []) ⟨hx, hb, hml, hown, hts⟩ (m_X9_isSign l dC dI _ h_me q_me k_me o_me (45 : Int32) z2 ez2) kw1551 kw1548 kw1550 kw62 kw120 hd_X9_isSign ⟨rfl, rfl⟩ rfl rfl ⟨rfl, rfl⟩ hX hK hw [0] (by decide) rfl rfl rfl rfl rfl hl.1 rfl rfl dX9_behindSum_17) hw hA [0] (by decide) rfl rfl (fun H locs hw => ?_)
    have hw : Wd dC dI A s.heap [wX9 h_me q_me k_me o_me] H locs := hw
    refine lv_if_eq (tgt := 28) hx hb dX9_behindSum_20 (by decide) (fun c => ?_) (fun c => ?_)
    · have h := z_t h c
      refine lv_aload_n hx hb dX9_behindSum_28 rfl (lv_at hl 0 rfl) ?_
      refine lv_bipush (v := 42) hx hb dX9_behindSum_29 (by decide) ?_
      obtain ⟨z3, ez3, h⟩ := z_bd h
      refine xj_i (xrV (As := [.int (42 : Int32)]) (rest := []) ⟨hx, hb, hml, hown, hts⟩ (m_X9_isSign l dC dI _ h_me q_me k_me o_me (42 : Int32) z3 ez3) kw1551 kw1548 kw1550 kw62 kw120 hd_X9_isSign ⟨rfl, rfl⟩ rfl rfl ⟨rfl, rfl⟩ hX hK hw [0] (by decide) rfl rfl rfl rfl rfl hl.1 rfl rfl dX9_behindSum_31) hw hA [0] (by decide) rfl rfl (fun H locs hw => ?_)
      have hw : Wd dC dI A s.heap [wX9 h_me q_me k_me o_me] H locs := hw
      refine lv_if_eq (tgt := 42) hx hb dX9_behindSum_34 (by decide) (fun c => ?_) (fun c => ?_)
      · have h := z_t h c
        refine lv_aload_n hx hb dX9_behindSum_42 rfl (lv_at hl 0 rfl) ?_
        refine lv_bipush (v := 47) hx hb dX9_behindSum_43 (by decide) ?_
        obtain ⟨z4, ez4, h⟩ := z_bd h
        refine xj_i (xrV (As := [.int (47 : Int32)]) (rest := []) ⟨hx, hb, hml, hown, hts⟩ (m_X9_isSign l dC dI _ h_me q_me k_me o_me (47 : Int32) z4 ez4) kw1551 kw1548 kw1550 kw62 kw120 hd_X9_isSign ⟨rfl, rfl⟩ rfl rfl ⟨rfl, rfl⟩ hX hK hw [0] (by decide) rfl rfl rfl rfl rfl hl.1 rfl rfl dX9_behindSum_45) hw hA [0] (by decide) rfl rfl (fun H locs hw => ?_)
        have hw : Wd dC dI A s.heap [wX9 h_me q_me k_me o_me] H locs := hw
        refine lv_if_eq (tgt := 56) hx hb dX9_behindSum_48 (by decide) (fun c => ?_) (fun c => ?_)
        · have h := z_t h c
          refine lv_aload_n hx hb dX9_behindSum_56 rfl (lv_at hl 0 rfl) ?_
          refine lv_bipush (v := 37) hx hb dX9_behindSum_57 (by decide) ?_
          obtain ⟨z5, ez5, h⟩ := z_bd h
          refine xj_i (xrV (As := [.int (37 : Int32)]) (rest := []) ⟨hx, hb, hml, hown, hts⟩ (m_X9_isSign l dC dI _ h_me q_me k_me o_me (37 : Int32) z5 ez5) kw1551 kw1548 kw1550 kw62 kw120 hd_X9_isSign ⟨rfl, rfl⟩ rfl rfl ⟨rfl, rfl⟩ hX hK hw [0] (by decide) rfl rfl rfl rfl rfl hl.1 rfl rfl dX9_behindSum_59) hw hA [0] (by decide) rfl rfl (fun H locs hw => ?_)
          have hw : Wd dC dI A s.heap [wX9 h_me q_me k_me o_me] H locs := hw
          refine lv_if_eq (tgt := 70) hx hb dX9_behindSum_62 (by decide) (fun c => ?_) (fun c => ?_)
          · have h := z_t h c
            refine lv_iconst (v := (-1)) hx hb dX9_behindSum_70 (by decide) ?_
            exact bk_71_0  p0 (-1 : Int32) o_me _ _ _ h hw (lv_sub hl [0, 1] rfl)
          · have h := z_f h c
            refine lv_bipush (v := 24) hx hb dX9_behindSum_65 (by decide) ?_
            refine lv_goto (tgt := 71) hx hb dX9_behindSum_67 (by decide) ?_
            exact bk_71_0  p0 (24 : Int32) o_me _ _ _ h hw (lv_sub hl [0, 1] rfl)
        · have h := z_f h c
          refine lv_bipush (v := 23) hx hb dX9_behindSum_51 (by decide) ?_
          refine lv_goto (tgt := 71) hx hb dX9_behindSum_53 (by decide) ?_
          exact bk_71_0  p0 (23 : Int32) o_me _ _ _ h hw (lv_sub hl [0, 1] rfl)
      · have h := z_f h c
        refine lv_bipush (v := 22) hx hb dX9_behindSum_37 (by decide) ?_
        refine lv_goto (tgt := 71) hx hb dX9_behindSum_39 (by decide) ?_
        exact bk_71_0  p0 (22 : Int32) o_me _ _ _ h hw (lv_sub hl [0, 1] rfl)
    · have h := z_f h c
      refine lv_bipush (v := 21) hx hb dX9_behindSum_23 (by decide) ?_
      refine lv_goto (tgt := 71) hx hb dX9_behindSum_25 (by decide) ?_
      exact bk_71_0  p0 (21 : Int32) o_me _ _ _ h hw (lv_sub hl [0, 1] rfl)
  · have h := z_f h c
    refine lv_bipush (v := 20) hx hb dX9_behindSum_9 (by decide) ?_
    refine lv_goto (tgt := 71) hx hb dX9_behindSum_11 (by decide) ?_
    exact bk_71_0  p0 (20 : Int32) o_me _ _ _ h hw (lv_sub hl [0, 1] rfl)

def f_X9_isWord (o_me : Ob) (p0 : Int64) : Option (Int32) :=
  if (gI o_me 16) = (1 : Int32) then
  (if (lg_cmp (gL o_me 17) p0) = (0 : Int32) then
  (some (1 : Int32))
  else
  (some (0 : Int32)))
  else
  (some (0 : Int32))
set_option maxHeartbeats 4000000 in
set_option maxRecDepth 100000 in
theorem m_X9_isWord (l : Launch) (dC : Nat → ClassId) (dI : Nat → Nat → Nat) (sz : Nat) (h_me : Nat) (q_me : Nat → Nat) (k_me : Nat → ClassId) (o_me : Ob) (p0 : Int64) (y : Int32) (h : f_X9_isWord o_me p0 = some y) : CI l yX9_isWord cX9_isWord 3 (some .boolean) ({ frames := 0, cells := 0, slots := 0, locals := 0 } : Room) dC dI sz [.ref h_me, .long p0] [wX9 h_me q_me k_me o_me] [tX9 k_me] y [wX9 h_me q_me k_me o_me] := by
  refine CC_of (by decide) (Nat.le_of_ble_eq_true rfl) ?_
  intro p e s m below meth c A ls hx hb hml hr hlk hnm hown hts hX hK hP hD hA hl
  have hl : lv_has ls 3 [(0, .ref h_me), (1, .long p0)] := hl
  have hown : s.vm.findClass RX9 = some m.cls := hown
  have hw : Wd dC dI A s.heap [wX9 h_me q_me k_me o_me] s.heap [] := ⟨hP, hD, va_S.rf⟩
  generalize hQz : (MQ below (QI dC dI (fun r (_ : Unit) => r = y) (fun _ => Jn [wX9 h_me q_me k_me o_me]) (fun _ => Jt [tX9 k_me]) A) ([.ref h_me, .long p0] : List Value).toArray s 0 0 A) = Qz
  clear hP hD hnm
  unfold f_X9_isWord at h
  refine lv_aload_n hx hb dX9_isWord_0 rfl (lv_at hl 0 rfl) ?_
  refine fgX9_16 hx hb hts hown hK hw 0 rfl kw1192 dX9_isWord_1 ?_
  refine lv_iconst (v := 1) hx hb dX9_isWord_4 (by decide) ?_
  refine lv_icmp_ne (tgt := 21) hx hb dX9_isWord_5 (by decide) (fun c => ?_) (fun c => ?_)
  · have h := z_f h c
    refine lv_iconst (v := 0) hx hb dX9_isWord_21 (by decide) ?_
    have hy := Option.some.inj h
    rw [← hQz, ← hy]
    exact xr_i (v := (0 : Int32)) hx hb hr rfl hlk hK hw dX9_isWord_22
  · have h := z_t h c
    refine lv_aload_n hx hb dX9_isWord_8 rfl (lv_at hl 0 rfl) ?_
    refine fgX9_17 hx hb hts hown hK hw 0 rfl kw1193 dX9_isWord_9 ?_
    refine lv_lload_n hx hb dX9_isWord_12 rfl (lv_at hl 1 rfl) ?_
    refine W.lcmp hx hb dX9_isWord_13 ?_
    refine lv_if_ne (tgt := 21) hx hb dX9_isWord_14 (by decide) (fun c => ?_) (fun c => ?_)
    · have h := z_f h c
      refine lv_iconst (v := 0) hx hb dX9_isWord_21 (by decide) ?_
      have hy := Option.some.inj h
      rw [← hQz, ← hy]
      exact xr_i (v := (0 : Int32)) hx hb hr rfl hlk hK hw dX9_isWord_22
    · have h := z_t h c
      refine lv_iconst (v := 1) hx hb dX9_isWord_17 (by decide) ?_
      refine lv_goto (tgt := 22) hx hb dX9_isWord_18 (by decide) ?_
      have hy := Option.some.inj h
      rw [← hQz, ← hy]
      exact xr_i (v := (1 : Int32)) hx hb hr rfl hlk hK hw dX9_isWord_22

def bk_X9_behindTest_66   (s0 : Int32) (o_me : Ob) : Option (Int32 × Ob) :=
  (f_X9_emit o_me s0 (0 : Int32)).bind fun z4 =>
  (f_X9_next z4).bind fun z5 =>
  some ((0 : Int32), z5)
def bk_X9_behindTest_47   (v1 : Int32) (s0 : Int32) (o_me : Ob) : Option (Int32 × Ob) :=
  (f_X9_push o_me s0 (gI o_me 23)).bind fun z3 =>
  if v1 = (0 : Int32) then
  (bk_X9_behindTest_66   (30 : Int32) z3)
  else
  (bk_X9_behindTest_66   (29 : Int32) z3)
def bk_X9_behindTest_32   (v1 : Int32) (s0 : Int32) (o_me : Ob) : Option (Int32 × Ob) :=
  (f_X9_settle o_me s0).bind fun z2 =>
  if v1 = (0 : Int32) then
  (bk_X9_behindTest_47   v1 (30 : Int32) z2)
  else
  (bk_X9_behindTest_47   v1 (29 : Int32) z2)
def bk_X9_behindTest_22   (v1 : Int32) (o_me : Ob) : Option (Int32 × Ob) :=
  if v1 = (0 : Int32) then
  (bk_X9_behindTest_32   v1 (1 : Int32) o_me)
  else
  (bk_X9_behindTest_32   v1 (2 : Int32) o_me)
def f_X9_behindTest (o_me : Ob) : Option (Int32 × Ob) :=
  (f_X9_isWord o_me (1476 : Int64)).bind fun z1 =>
  if z1 = (0 : Int32) then
  ((f_X9_isWord o_me (498 : Int64)).bind fun z6 =>
  if z6 = (0 : Int32) then
  ((f_X9_inner o_me).bind fun z7 =>
  if z7 = (-1 : Int32) then
  (some ((4 : Int32), o_me))
  else
  ((f_X9_isSign o_me (41 : Int32)).bind fun z8 =>
  (f_X9_must o_me z8).bind fun z9 =>
  if (gI z9 19) = (0 : Int32) then
  ((f_X9_settle z9 (1 : Int32)).bind fun z10 =>
  zlt (sI z10 29 ((gI z10 29) - (1 : Int32))) fun o11 =>
  zlt (sI o11 30 ((gI o11 30) - (1 : Int32))) fun o12 =>
  some ((2 : Int32), o12))
  else
  (some ((2 : Int32), z9))))
  else
  (bk_X9_behindTest_22   z1 o_me))
  else
  (bk_X9_behindTest_22   z1 o_me)
set_option maxHeartbeats 4000000 in
set_option maxRecDepth 100000 in
theorem m_X9_behindTest (l : Launch) (dC : Nat → ClassId) (dI : Nat → Nat → Nat) (sz : Nat) (h_me : Nat) (q_me : Nat → Nat) (k_me : Nat → ClassId) (o_me : Ob) (y : Int32 × Ob) (h : f_X9_behindTest o_me = some y) : CI l yX9_behindTest cX9_behindTest 2 (some .int) ({ frames := 3, cells := 0, slots := 0, locals := 61 } : Room) dC dI sz [.ref h_me] [wX9 h_me q_me k_me o_me] [tX9 k_me] y.1 [wX9 h_me q_me k_me y.2] := by
  refine CC_of (by decide) (Nat.le_of_ble_eq_true rfl) ?_
  intro p e s m below meth c A ls hx hb hml hr hlk hnm hown hts hX hK hP hD hA hl
  have hl : lv_has ls 2 [(0, .ref h_me)] := hl
  have hown : s.vm.findClass RX9 = some m.cls := hown
  have hw : Wd dC dI A s.heap [wX9 h_me q_me k_me o_me] s.heap [] := ⟨hP, hD, va_S.rf⟩
  generalize hQz : (MQ below (QI dC dI (fun r (_ : Unit) => r = y.1) (fun _ => Jn [wX9 h_me q_me k_me y.2]) (fun _ => Jt [tX9 k_me]) A) ([.ref h_me] : List Value).toArray s 0 0 A) = Qz
  clear hP hD hnm
  have bk_66_3 : ∀ (s0 : Int32) (o_me : Ob) (H : Heap) (locs : List Loc) (ls : Array Slot), bk_X9_behindTest_66   s0 o_me = some y → Wd dC dI A s.heap [wX9 h_me q_me k_me o_me] H locs → lv_has ls 2 [(0, .ref h_me)] → W p l e ({ frames := 3, cells := 0, slots := 0, locals := 61 } : Room) s m ([.ref h_me] : List Value).toArray below meth c H locs 0 0 Qz (F0 m 66 ls [.int s0, .ref h_me]) := by
    intro s0 o_me H locs ls h hw hl
    unfold bk_X9_behindTest_66 at h
    refine lv_iconst (v := 0) hx hb dX9_behindTest_66 (by decide) ?_
    obtain ⟨z4, ez4, h⟩ := z_bd h
    refine xj_v (xrV (As := [.int s0, .int (0 : Int32)]) (rest := []) ⟨hx, hb, hml, hown, hts⟩ (m_X9_emit l dC dI _ h_me q_me k_me o_me s0 (0 : Int32) z4 ez4) kw1576 kw1573 kw1575 kw68 kw120 hd_X9_emit ⟨rfl, rfl⟩ rfl rfl ⟨rfl, rfl⟩ hX hK hw [0] (by decide) rfl rfl rfl rfl rfl hl.1 rfl rfl dX9_behindTest_67) hw hA [0] (by decide) rfl rfl (fun H locs hw => ?_)
    have hw : Wd dC dI A s.heap [wX9 h_me q_me k_me z4] H locs := hw
    refine lv_aload_n hx hb dX9_behindTest_70 rfl (lv_at hl 0 rfl) ?_
    obtain ⟨z5, ez5, h⟩ := z_bd h
    refine xj_v (xrV (As := []) (rest := []) ⟨hx, hb, hml, hown, hts⟩ (m_X9_next l dC dI _ h_me q_me k_me z4 z5 ez5) kw1512 kw1509 kw1511 kw55 kw120 hd_X9_next ⟨rfl, rfl⟩ rfl rfl ⟨rfl, rfl⟩ hX hK hw [0] (by decide) rfl rfl rfl rfl rfl hl.1 rfl rfl dX9_behindTest_71) hw hA [0] (by decide) rfl rfl (fun H locs hw => ?_)
    have hw : Wd dC dI A s.heap [wX9 h_me q_me k_me z5] H locs := hw
    refine lv_iconst (v := 0) hx hb dX9_behindTest_74 (by decide) ?_
    have hy := Option.some.inj h
    rw [← hQz, ← hy]
    exact xr_i (v := (0 : Int32)) hx hb hr rfl hlk hK hw dX9_behindTest_75
  have bk_47_2 : ∀ (v1 : Int32) (s0 : Int32) (o_me : Ob) (H : Heap) (locs : List Loc) (ls : Array Slot), bk_X9_behindTest_47   v1 s0 o_me = some y → Wd dC dI A s.heap [wX9 h_me q_me k_me o_me] H locs → lv_has ls 2 [(0, .ref h_me), (1, .int v1)] → W p l e ({ frames := 3, cells := 0, slots := 0, locals := 61 } : Room) s m ([.ref h_me] : List Value).toArray below meth c H locs 0 0 Qz (F0 m 47 ls [.int s0, .ref h_me]) := by
    intro v1 s0 o_me H locs ls h hw hl
    unfold bk_X9_behindTest_47 at h
    refine lv_aload_n hx hb dX9_behindTest_47 rfl (lv_at hl 0 rfl) ?_
    refine fgX9_23 hx hb hts hown hK hw 0 rfl kw1199 dX9_behindTest_48 ?_
    obtain ⟨z3, ez3, h⟩ := z_bd h
    refine xj_v (xrV (As := [.int s0, .int (gI o_me 23)]) (rest := []) ⟨hx, hb, hml, hown, hts⟩ (m_X9_push l dC dI _ h_me q_me k_me o_me s0 (gI o_me 23) z3 ez3) kw1547 kw1544 kw1546 kw61 kw120 hd_X9_push ⟨rfl, rfl⟩ rfl rfl ⟨rfl, rfl⟩ hX hK hw [0] (by decide) rfl rfl rfl rfl rfl hl.1 rfl rfl dX9_behindTest_51) hw hA [0] (by decide) rfl rfl (fun H locs hw => ?_)
    have hw : Wd dC dI A s.heap [wX9 h_me q_me k_me z3] H locs := hw
    refine lv_aload_n hx hb dX9_behindTest_54 rfl (lv_at hl 0 rfl) ?_
    refine lv_iload_n hx hb dX9_behindTest_55 rfl (lv_at hl 1 rfl) ?_
    refine lv_if_eq (tgt := 64) hx hb dX9_behindTest_56 (by decide) (fun c => ?_) (fun c => ?_)
    · have h := z_t h c
      refine lv_bipush (v := 30) hx hb dX9_behindTest_64 (by decide) ?_
      exact bk_66_3  (30 : Int32) z3 _ _ _ h hw (lv_sub hl [0] rfl)
    · have h := z_f h c
      refine lv_bipush (v := 29) hx hb dX9_behindTest_59 (by decide) ?_
      refine lv_goto (tgt := 66) hx hb dX9_behindTest_61 (by decide) ?_
      exact bk_66_3  (29 : Int32) z3 _ _ _ h hw (lv_sub hl [0] rfl)
  have bk_32_1 : ∀ (v1 : Int32) (s0 : Int32) (o_me : Ob) (H : Heap) (locs : List Loc) (ls : Array Slot), bk_X9_behindTest_32   v1 s0 o_me = some y → Wd dC dI A s.heap [wX9 h_me q_me k_me o_me] H locs → lv_has ls 2 [(0, .ref h_me), (1, .int v1)] → W p l e ({ frames := 3, cells := 0, slots := 0, locals := 61 } : Room) s m ([.ref h_me] : List Value).toArray below meth c H locs 0 0 Qz (F0 m 32 ls [.int s0, .ref h_me]) := by
    intro v1 s0 o_me H locs ls h hw hl
    unfold bk_X9_behindTest_32 at h
    obtain ⟨z2, ez2, h⟩ := z_bd h
    refine xj_v (xrV (As := [.int s0]) (rest := []) ⟨hx, hb, hml, hown, hts⟩ (m_X9_settle l dC dI _ h_me q_me k_me o_me s0 z2 ez2) kw1592 kw1589 kw1591 kw71 kw120 hd_X9_settle ⟨rfl, rfl⟩ rfl rfl ⟨rfl, rfl⟩ hX hK hw [0] (by decide) rfl rfl rfl rfl rfl hl.1 rfl rfl dX9_behindTest_32) hw hA [0] (by decide) rfl rfl (fun H locs hw => ?_)
    have hw : Wd dC dI A s.heap [wX9 h_me q_me k_me z2] H locs := hw
    refine lv_aload_n hx hb dX9_behindTest_35 rfl (lv_at hl 0 rfl) ?_
    refine lv_iload_n hx hb dX9_behindTest_36 rfl (lv_at hl 1 rfl) ?_
    refine lv_if_eq (tgt := 45) hx hb dX9_behindTest_37 (by decide) (fun c => ?_) (fun c => ?_)
    · have h := z_t h c
      refine lv_bipush (v := 30) hx hb dX9_behindTest_45 (by decide) ?_
      exact bk_47_2  v1 (30 : Int32) z2 _ _ _ h hw (lv_sub hl [0, 1] rfl)
    · have h := z_f h c
      refine lv_bipush (v := 29) hx hb dX9_behindTest_40 (by decide) ?_
      refine lv_goto (tgt := 47) hx hb dX9_behindTest_42 (by decide) ?_
      exact bk_47_2  v1 (29 : Int32) z2 _ _ _ h hw (lv_sub hl [0, 1] rfl)
  have bk_22_0 : ∀ (v1 : Int32) (o_me : Ob) (H : Heap) (locs : List Loc) (ls : Array Slot), bk_X9_behindTest_22   v1 o_me = some y → Wd dC dI A s.heap [wX9 h_me q_me k_me o_me] H locs → lv_has ls 2 [(0, .ref h_me), (1, .int v1)] → W p l e ({ frames := 3, cells := 0, slots := 0, locals := 61 } : Room) s m ([.ref h_me] : List Value).toArray below meth c H locs 0 0 Qz (F0 m 22 ls []) := by
    intro v1 o_me H locs ls h hw hl
    unfold bk_X9_behindTest_22 at h
    refine lv_aload_n hx hb dX9_behindTest_22 rfl (lv_at hl 0 rfl) ?_
    refine lv_iload_n hx hb dX9_behindTest_23 rfl (lv_at hl 1 rfl) ?_
    refine lv_if_eq (tgt := 31) hx hb dX9_behindTest_24 (by decide) (fun c => ?_) (fun c => ?_)
    · have h := z_t h c
      refine lv_iconst (v := 1) hx hb dX9_behindTest_31 (by decide) ?_
      exact bk_32_1  v1 (1 : Int32) o_me _ _ _ h hw (lv_sub hl [0, 1] rfl)
    · have h := z_f h c
      refine lv_iconst (v := 2) hx hb dX9_behindTest_27 (by decide) ?_
      refine lv_goto (tgt := 32) hx hb dX9_behindTest_28 (by decide) ?_
      exact bk_32_1  v1 (2 : Int32) o_me _ _ _ h hw (lv_sub hl [0, 1] rfl)
  unfold f_X9_behindTest at h
  refine lv_aload_n hx hb dX9_behindTest_0 rfl (lv_at hl 0 rfl) ?_
  refine lv_ldc2 (v := 1476) hx hb hown (hts _ kw1609) dX9_behindTest_1 ?_
  obtain ⟨z1, ez1, h⟩ := z_bd h
  refine xj_i (xrV (As := [.long (1476 : Int64)]) (rest := []) ⟨hx, hb, hml, hown, hts⟩ (m_X9_isWord l dC dI _ h_me q_me k_me o_me (1476 : Int64) z1 ez1) kw1530 kw1527 kw1529 kw57 kw120 hd_X9_isWord ⟨rfl, rfl⟩ rfl rfl ⟨rfl, rfl⟩ hX hK hw [0] (by decide) rfl rfl rfl rfl rfl hl.1 rfl rfl dX9_behindTest_4) hw hA [0] (by decide) rfl rfl (fun H locs hw => ?_)
  have hw : Wd dC dI A s.heap [wX9 h_me q_me k_me o_me] H locs := hw
  refine lv_istore_n (lv' := [(1, .int z1), (0, .ref h_me)]) hx hb dX9_behindTest_7 rfl hl (by decide) rfl (fun ls hl => ?_)
  refine lv_iload_n hx hb dX9_behindTest_8 rfl (lv_at hl 0 rfl) ?_
  refine lv_if_ne (tgt := 22) hx hb dX9_behindTest_9 (by decide) (fun c => ?_) (fun c => ?_)
  · have h := z_f h c
    exact bk_22_0  z1 o_me _ _ _ h hw (lv_sub hl [1, 0] rfl)
  · have h := z_t h c
    refine lv_aload_n hx hb dX9_behindTest_12 rfl (lv_at hl 1 rfl) ?_
    refine lv_ldc2 (v := 498) hx hb hown (hts _ kw1610) dX9_behindTest_13 ?_
    obtain ⟨z6, ez6, h⟩ := z_bd h
    refine xj_i (xrV (As := [.long (498 : Int64)]) (rest := []) ⟨hx, hb, hml, hown, hts⟩ (m_X9_isWord l dC dI _ h_me q_me k_me o_me (498 : Int64) z6 ez6) kw1530 kw1527 kw1529 kw57 kw120 hd_X9_isWord ⟨rfl, rfl⟩ rfl rfl ⟨rfl, rfl⟩ hX hK hw [0] (by decide) rfl rfl rfl rfl rfl hl.1 rfl rfl dX9_behindTest_16) hw hA [0] (by decide) rfl rfl (fun H locs hw => ?_)
    have hw : Wd dC dI A s.heap [wX9 h_me q_me k_me o_me] H locs := hw
    refine lv_if_eq (tgt := 76) hx hb dX9_behindTest_19 (by decide) (fun c => ?_) (fun c => ?_)
    · have h := z_t h c
      refine lv_aload_n hx hb dX9_behindTest_76 rfl (lv_at hl 1 rfl) ?_
      obtain ⟨z7, ez7, h⟩ := z_bd h
      refine xj_i (xrV (As := []) (rest := []) ⟨hx, hb, hml, hown, hts⟩ (m_X9_inner l dC dI _ h_me q_me k_me o_me z7 ez7) kw1596 kw1593 kw1595 kw72 kw120 hd_X9_inner ⟨rfl, rfl⟩ rfl rfl ⟨rfl, rfl⟩ hX hK hw [0] (by decide) rfl rfl rfl rfl rfl hl.1 rfl rfl dX9_behindTest_77) hw hA [0] (by decide) rfl rfl (fun H locs hw => ?_)
      have hw : Wd dC dI A s.heap [wX9 h_me q_me k_me o_me] H locs := hw
      refine lv_iconst (v := (-1)) hx hb dX9_behindTest_80 (by decide) ?_
      refine lv_icmp_ne (tgt := 86) hx hb dX9_behindTest_81 (by decide) (fun c => ?_) (fun c => ?_)
      · have h := z_f h c
        refine lv_aload_n hx hb dX9_behindTest_86 rfl (lv_at hl 1 rfl) ?_
        refine lv_aload_n hx hb dX9_behindTest_87 rfl (lv_at hl 1 rfl) ?_
        refine lv_bipush (v := 41) hx hb dX9_behindTest_88 (by decide) ?_
        obtain ⟨z8, ez8, h⟩ := z_bd h
        refine xj_i (xrV (As := [.int (41 : Int32)]) (rest := [.ref h_me]) ⟨hx, hb, hml, hown, hts⟩ (m_X9_isSign l dC dI _ h_me q_me k_me o_me (41 : Int32) z8 ez8) kw1551 kw1548 kw1550 kw62 kw120 hd_X9_isSign ⟨rfl, rfl⟩ rfl rfl ⟨rfl, rfl⟩ hX hK hw [0] (by decide) rfl rfl rfl rfl rfl hl.1 rfl rfl dX9_behindTest_90) hw hA [0] (by decide) rfl rfl (fun H locs hw => ?_)
        have hw : Wd dC dI A s.heap [wX9 h_me q_me k_me o_me] H locs := hw
        obtain ⟨z9, ez9, h⟩ := z_bd h
        refine xj_v (xrV (As := [.int z8]) (rest := []) ⟨hx, hb, hml, hown, hts⟩ (m_X9_must l dC dI _ h_me q_me k_me o_me z8 z9 ez9) kw1534 kw1531 kw1533 kw58 kw120 hd_X9_must ⟨rfl, rfl⟩ rfl rfl ⟨rfl, rfl⟩ hX hK hw [0] (by decide) rfl rfl rfl rfl rfl hl.1 rfl rfl dX9_behindTest_93) hw hA [0] (by decide) rfl rfl (fun H locs hw => ?_)
        have hw : Wd dC dI A s.heap [wX9 h_me q_me k_me z9] H locs := hw
        refine lv_aload_n hx hb dX9_behindTest_96 rfl (lv_at hl 1 rfl) ?_
        refine fgX9_19 hx hb hts hown hK hw 0 rfl kw1195 dX9_behindTest_97 ?_
        refine lv_if_ne (tgt := 128) hx hb dX9_behindTest_100 (by decide) (fun c => ?_) (fun c => ?_)
        · have h := z_f h c
          refine lv_iconst (v := 2) hx hb dX9_behindTest_128 (by decide) ?_
          have hy := Option.some.inj h
          rw [← hQz, ← hy]
          exact xr_i (v := (2 : Int32)) hx hb hr rfl hlk hK hw dX9_behindTest_129
        · have h := z_t h c
          refine lv_aload_n hx hb dX9_behindTest_103 rfl (lv_at hl 1 rfl) ?_
          refine lv_iconst (v := 1) hx hb dX9_behindTest_104 (by decide) ?_
          obtain ⟨z10, ez10, h⟩ := z_bd h
          refine xj_v (xrV (As := [.int (1 : Int32)]) (rest := []) ⟨hx, hb, hml, hown, hts⟩ (m_X9_settle l dC dI _ h_me q_me k_me z9 (1 : Int32) z10 ez10) kw1592 kw1589 kw1591 kw71 kw120 hd_X9_settle ⟨rfl, rfl⟩ rfl rfl ⟨rfl, rfl⟩ hX hK hw [0] (by decide) rfl rfl rfl rfl rfl hl.1 rfl rfl dX9_behindTest_105) hw hA [0] (by decide) rfl rfl (fun H locs hw => ?_)
          have hw : Wd dC dI A s.heap [wX9 h_me q_me k_me z10] H locs := hw
          refine lv_aload_n hx hb dX9_behindTest_108 rfl (lv_at hl 1 rfl) ?_
          refine lv_dup hx hb dX9_behindTest_109 rfl ?_
          refine fgX9_29 hx hb hts hown hK hw 0 rfl kw1205 dX9_behindTest_110 ?_
          refine lv_iconst (v := 1) hx hb dX9_behindTest_113 (by decide) ?_
          refine lv_isub hx hb dX9_behindTest_114 ?_
          refine fpX9_29 hx hb hts hown hK hw 0 rfl kw1205 dX9_behindTest_115 (fun H locs hw => ?_)
          obtain ⟨o11, eo11, h⟩ := z_lt h
          have hw : Wd dC dI A s.heap [wX9 h_me q_me k_me o11] H locs := by rw [eo11]; exact hw
          refine lv_aload_n hx hb dX9_behindTest_118 rfl (lv_at hl 1 rfl) ?_
          refine lv_dup hx hb dX9_behindTest_119 rfl ?_
          refine fgX9_30 hx hb hts hown hK hw 0 rfl kw1206 dX9_behindTest_120 ?_
          refine lv_iconst (v := 1) hx hb dX9_behindTest_123 (by decide) ?_
          refine lv_isub hx hb dX9_behindTest_124 ?_
          refine fpX9_30 hx hb hts hown hK hw 0 rfl kw1206 dX9_behindTest_125 (fun H locs hw => ?_)
          obtain ⟨o12, eo12, h⟩ := z_lt h
          have hw : Wd dC dI A s.heap [wX9 h_me q_me k_me o12] H locs := by rw [eo12]; exact hw
          refine lv_iconst (v := 2) hx hb dX9_behindTest_128 (by decide) ?_
          have hy := Option.some.inj h
          rw [← hQz, ← hy]
          exact xr_i (v := (2 : Int32)) hx hb hr rfl hlk hK hw dX9_behindTest_129
      · have h := z_t h c
        refine lv_iconst (v := 4) hx hb dX9_behindTest_84 (by decide) ?_
        have hy := Option.some.inj h
        rw [← hQz, ← hy]
        exact xr_i (v := (4 : Int32)) hx hb hr rfl hlk hK hw dX9_behindTest_85
    · have h := z_f h c
      exact bk_22_0  z1 o_me _ _ _ h hw (lv_sub hl [1, 0] rfl)

def f_X9_blots (o_me : Ob) : Option (Int32 × Ob) :=
  zlt (sI o_me 0 (0 : Int32)) fun o1 =>
  some (gI o1 11, o1)
set_option maxHeartbeats 4000000 in
set_option maxRecDepth 100000 in
theorem m_X9_blots (l : Launch) (dC : Nat → ClassId) (dI : Nat → Nat → Nat) (sz : Nat) (h_me : Nat) (q_me : Nat → Nat) (k_me : Nat → ClassId) (o_me : Ob) (y : Int32 × Ob) (h : f_X9_blots o_me = some y) : CI l yX9_blots cX9_blots 1 (some .int) ({ frames := 0, cells := 0, slots := 0, locals := 0 } : Room) dC dI sz [.ref h_me] [wX9 h_me q_me k_me o_me] [tX9 k_me] y.1 [wX9 h_me q_me k_me y.2] := by
  refine CC_of (by decide) (Nat.le_of_ble_eq_true rfl) ?_
  intro p e s m below meth c A ls hx hb hml hr hlk hnm hown hts hX hK hP hD hA hl
  have hl : lv_has ls 1 [(0, .ref h_me)] := hl
  have hown : s.vm.findClass RX9 = some m.cls := hown
  have hw : Wd dC dI A s.heap [wX9 h_me q_me k_me o_me] s.heap [] := ⟨hP, hD, va_S.rf⟩
  generalize hQz : (MQ below (QI dC dI (fun r (_ : Unit) => r = y.1) (fun _ => Jn [wX9 h_me q_me k_me y.2]) (fun _ => Jt [tX9 k_me]) A) ([.ref h_me] : List Value).toArray s 0 0 A) = Qz
  clear hP hD hnm
  unfold f_X9_blots at h
  refine lv_aload_n hx hb dX9_blots_0 rfl (lv_at hl 0 rfl) ?_
  refine lv_iconst (v := 0) hx hb dX9_blots_1 (by decide) ?_
  refine fpX9_0 hx hb hts hown hK hw 0 rfl kw1176 dX9_blots_2 (fun H locs hw => ?_)
  obtain ⟨o1, eo1, h⟩ := z_lt h
  have hw : Wd dC dI A s.heap [wX9 h_me q_me k_me o1] H locs := by rw [eo1]; exact hw
  refine lv_aload_n hx hb dX9_blots_5 rfl (lv_at hl 0 rfl) ?_
  refine fgX9_11 hx hb hts hown hK hw 0 rfl kw1187 dX9_blots_6 ?_
  have hy := Option.some.inj h
  rw [← hQz, ← hy]
  exact xr_i (v := gI o1 11) hx hb hr rfl hlk hK hw dX9_blots_9

def bk_X9_thatCanBe_92  (rec_4_0 : Int32 × Int32 × Ob → Option (Int32 × Ob)) (v2 : Int32) (s0 : Int32) (s1 : Int32) (o_me : Ob) : Option (Int32 × Ob) :=
  zlt (s1 ||| s0) fun x1 =>
  zlt (v2 + (1 : Int32)) fun x2 =>
  rec_4_0 (x1, x2, o_me)
def bk_X9_thatCanBe_80  (rec_4_0 : Int32 × Int32 × Ob → Option (Int32 × Ob)) (v1 : Int32) (v2 : Int32) (v3 : Int32) (o_me : Ob) : Option (Int32 × Ob) :=
  if v3 = (0 : Int32) then
  (bk_X9_thatCanBe_92  rec_4_0 v2 (0 : Int32) v1 o_me)
  else
  (bk_X9_thatCanBe_92  rec_4_0 v2 ((1 : Int32) <<< (v2 &&& 31)) v1 o_me)
def bk_X9_thatCanBe_73  (rec_4_0 : Int32 × Int32 × Ob → Option (Int32 × Ob)) (rec_19_1 : Int32 × Int32 × Int32 × Int32 × Ob → Option (Int32 × Ob)) (v1 : Int32) (v2 : Int32) (v4 : Int32) (s0 : Int32) (o_me : Ob) : Option (Int32 × Ob) :=
  zlt (v4 + (1 : Int32)) fun x6 =>
  rec_19_1 (v1, v2, s0, x6, o_me)
def lb_X9_thatCanBe_19  (rec_4_0 : Int32 × Int32 × Ob → Option (Int32 × Ob)) (rec_19_1 : Int32 × Int32 × Int32 × Int32 × Ob → Option (Int32 × Ob)) (v1 : Int32) (v2 : Int32) (v3 : Int32) (v4 : Int32) (o_me : Ob) : Option (Int32 × Ob) :=
  if (gA o_me 3 (1 : Int32).toNatClampNeg) ≤ v4 then
  (bk_X9_thatCanBe_80  rec_4_0 v1 v2 v3 o_me)
  else
  (if v3 = (0 : Int32) then
  (bk_X9_thatCanBe_80  rec_4_0 v1 v2 v3 o_me)
  else
  (zgd (zin ((71 : Int32) + ((2 : Int32) * v4)) 5484) <|
  (f_X9_turnsOf o_me v2 (gA o_me 3 ((71 : Int32) + ((2 : Int32) * v4)).toNatClampNeg)).bind fun z4 =>
  zgd (zin (((71 : Int32) + ((2 : Int32) * v4)) + (1 : Int32)) 5484) <|
  if z4.1 = (gA z4.2 3 (((71 : Int32) + ((2 : Int32) * v4)) + (1 : Int32)).toNatClampNeg) then
  (bk_X9_thatCanBe_73  rec_4_0 rec_19_1 v1 v2 v4 (1 : Int32) z4.2)
  else
  (bk_X9_thatCanBe_73  rec_4_0 rec_19_1 v1 v2 v4 (0 : Int32) z4.2)))
def lp_X9_thatCanBe_19  (rec_4_0 : Int32 × Int32 × Ob → Option (Int32 × Ob)) : Nat → (Int32 × Int32 × Int32 × Int32 × Ob) → Option (Int32 × Ob) := zit (fun rec a => lb_X9_thatCanBe_19  rec_4_0 rec a.1 a.2.1 a.2.2.1 a.2.2.2.1 a.2.2.2.2)
def lb_X9_thatCanBe_4   (rec_4_0 : Int32 × Int32 × Ob → Option (Int32 × Ob)) (v1 : Int32) (v2 : Int32) (o_me : Ob) : Option (Int32 × Ob) :=
  if (gA o_me 3 (0 : Int32).toNatClampNeg) ≤ v2 then
  (some (v1, o_me))
  else
  (lp_X9_thatCanBe_19  rec_4_0 zfu (v1, v2, (1 : Int32), (0 : Int32), o_me))
def lp_X9_thatCanBe_4   : Nat → (Int32 × Int32 × Ob) → Option (Int32 × Ob) := zit (fun rec a => lb_X9_thatCanBe_4   rec a.1 a.2.1 a.2.2)
def f_X9_thatCanBe (o_me : Ob) : Option (Int32 × Ob) :=
  lp_X9_thatCanBe_4   zfu ((0 : Int32), (0 : Int32), o_me)
set_option maxHeartbeats 4000000 in
set_option maxRecDepth 100000 in
theorem m_X9_thatCanBe (l : Launch) (dC : Nat → ClassId) (dI : Nat → Nat → Nat) (sz : Nat) (h_me : Nat) (q_me : Nat → Nat) (k_me : Nat → ClassId) (o_me : Ob) (y : Int32 × Ob) (h : f_X9_thatCanBe o_me = some y) : CI l yX9_thatCanBe cX9_thatCanBe 5 (some .int) ({ frames := 6, cells := 0, slots := 0, locals := 145 } : Room) dC dI sz [.ref h_me] [wX9 h_me q_me k_me o_me] [tX9 k_me] y.1 [wX9 h_me q_me k_me y.2] := by
  refine CC_of (by decide) (Nat.le_of_ble_eq_true rfl) ?_
  intro p e s m below meth c A ls hx hb hml hr hlk hnm hown hts hX hK hP hD hA hl
  have hl : lv_has ls 5 [(0, .ref h_me)] := hl
  have hown : s.vm.findClass RX9 = some m.cls := hown
  have hw : Wd dC dI A s.heap [wX9 h_me q_me k_me o_me] s.heap [] := ⟨hP, hD, va_S.rf⟩
  generalize hQz : (MQ below (QI dC dI (fun r (_ : Unit) => r = y.1) (fun _ => Jn [wX9 h_me q_me k_me y.2]) (fun _ => Jt [tX9 k_me]) A) ([.ref h_me] : List Value).toArray s 0 0 A) = Qz
  clear hP hD hnm
  have bk_92_3 : ∀ (rec_4_0 : Int32 × Int32 × Ob → Option (Int32 × Ob)) (hrec_4_0 : ∀ (v1 : Int32) (v2 : Int32) (o_me : Ob) (H : Heap) (locs : List Loc) (ls : Array Slot), rec_4_0 (v1, v2, o_me) = some y → Wd dC dI A s.heap [wX9 h_me q_me k_me o_me] H locs → lv_has ls 5 [(0, .ref h_me), (1, .int v1), (2, .int v2)] → W p l e ({ frames := 6, cells := 0, slots := 0, locals := 145 } : Room) s m ([.ref h_me] : List Value).toArray below meth c H locs 0 0 Qz (F0 m 4 ls [])), ∀ (v2 : Int32) (s0 : Int32) (s1 : Int32) (o_me : Ob) (H : Heap) (locs : List Loc) (ls : Array Slot), bk_X9_thatCanBe_92  rec_4_0 v2 s0 s1 o_me = some y → Wd dC dI A s.heap [wX9 h_me q_me k_me o_me] H locs → lv_has ls 5 [(0, .ref h_me), (2, .int v2)] → W p l e ({ frames := 6, cells := 0, slots := 0, locals := 145 } : Room) s m ([.ref h_me] : List Value).toArray below meth c H locs 0 0 Qz (F0 m 92 ls [.int s0, .int s1]) := by
    intro rec_4_0 hrec_4_0
    intro v2 s0 s1 o_me H locs ls h hw hl
    unfold bk_X9_thatCanBe_92 at h
    refine lv_ior hx hb dX9_thatCanBe_92 ?_
    obtain ⟨x1, ex1, h⟩ := z_lt h
    refine lv_fi (v := x1) ex1.symm ?_
    refine lv_istore_n (lv' := [(1, .int x1), (0, .ref h_me), (2, .int v2)]) hx hb dX9_thatCanBe_93 rfl hl (by decide) rfl (fun ls hl => ?_)
    obtain ⟨x2, ex2, h⟩ := z_lt h
    refine lv_iinc (v := x2) (lv' := [(2, .int x2), (1, .int x1), (0, .ref h_me)]) hx hb dX9_thatCanBe_94 hl (k := 2) rfl ((congrArg (v2 + ·) (show Int32.ofInt 1 = (1 : Int32) from by decide)).trans ex2.symm) (by decide) rfl (fun ls hl => ?_)
    refine lv_goto (tgt := 4) hx hb dX9_thatCanBe_97 (by decide) ?_
    exact hrec_4_0 x1 x2 o_me _ _ _ h hw (lv_sub hl [2, 1, 0] rfl)
  have bk_80_2 : ∀ (rec_4_0 : Int32 × Int32 × Ob → Option (Int32 × Ob)) (hrec_4_0 : ∀ (v1 : Int32) (v2 : Int32) (o_me : Ob) (H : Heap) (locs : List Loc) (ls : Array Slot), rec_4_0 (v1, v2, o_me) = some y → Wd dC dI A s.heap [wX9 h_me q_me k_me o_me] H locs → lv_has ls 5 [(0, .ref h_me), (1, .int v1), (2, .int v2)] → W p l e ({ frames := 6, cells := 0, slots := 0, locals := 145 } : Room) s m ([.ref h_me] : List Value).toArray below meth c H locs 0 0 Qz (F0 m 4 ls [])), ∀ (v1 : Int32) (v2 : Int32) (v3 : Int32) (o_me : Ob) (H : Heap) (locs : List Loc) (ls : Array Slot), bk_X9_thatCanBe_80  rec_4_0 v1 v2 v3 o_me = some y → Wd dC dI A s.heap [wX9 h_me q_me k_me o_me] H locs → lv_has ls 5 [(0, .ref h_me), (1, .int v1), (2, .int v2), (3, .int v3)] → W p l e ({ frames := 6, cells := 0, slots := 0, locals := 145 } : Room) s m ([.ref h_me] : List Value).toArray below meth c H locs 0 0 Qz (F0 m 80 ls []) := by
    intro rec_4_0 hrec_4_0
    intro v1 v2 v3 o_me H locs ls h hw hl
    unfold bk_X9_thatCanBe_80 at h
    refine lv_iload_n hx hb dX9_thatCanBe_80 rfl (lv_at hl 1 rfl) ?_
    refine lv_iload_n hx hb dX9_thatCanBe_81 rfl (lv_at hl 3 rfl) ?_
    refine lv_if_eq (tgt := 91) hx hb dX9_thatCanBe_82 (by decide) (fun c => ?_) (fun c => ?_)
    · have h := z_t h c
      refine lv_iconst (v := 0) hx hb dX9_thatCanBe_91 (by decide) ?_
      exact bk_92_3 rec_4_0 hrec_4_0 v2 (0 : Int32) v1 o_me _ _ _ h hw (lv_sub hl [0, 2] rfl)
    · have h := z_f h c
      refine lv_iconst (v := 1) hx hb dX9_thatCanBe_85 (by decide) ?_
      refine lv_iload_n hx hb dX9_thatCanBe_86 rfl (lv_at hl 2 rfl) ?_
      refine lv_ishl hx hb dX9_thatCanBe_87 ?_
      refine lv_goto (tgt := 92) hx hb dX9_thatCanBe_88 (by decide) ?_
      exact bk_92_3 rec_4_0 hrec_4_0 v2 ((1 : Int32) <<< (v2 &&& 31)) v1 o_me _ _ _ h hw (lv_sub hl [0, 2] rfl)
  have bk_73_4 : ∀ (rec_4_0 : Int32 × Int32 × Ob → Option (Int32 × Ob)) (hrec_4_0 : ∀ (v1 : Int32) (v2 : Int32) (o_me : Ob) (H : Heap) (locs : List Loc) (ls : Array Slot), rec_4_0 (v1, v2, o_me) = some y → Wd dC dI A s.heap [wX9 h_me q_me k_me o_me] H locs → lv_has ls 5 [(0, .ref h_me), (1, .int v1), (2, .int v2)] → W p l e ({ frames := 6, cells := 0, slots := 0, locals := 145 } : Room) s m ([.ref h_me] : List Value).toArray below meth c H locs 0 0 Qz (F0 m 4 ls [])) (rec_19_1 : Int32 × Int32 × Int32 × Int32 × Ob → Option (Int32 × Ob)) (hrec_19_1 : ∀ (v1 : Int32) (v2 : Int32) (v3 : Int32) (v4 : Int32) (o_me : Ob) (H : Heap) (locs : List Loc) (ls : Array Slot), rec_19_1 (v1, v2, v3, v4, o_me) = some y → Wd dC dI A s.heap [wX9 h_me q_me k_me o_me] H locs → lv_has ls 5 [(0, .ref h_me), (1, .int v1), (2, .int v2), (3, .int v3), (4, .int v4)] → W p l e ({ frames := 6, cells := 0, slots := 0, locals := 145 } : Room) s m ([.ref h_me] : List Value).toArray below meth c H locs 0 0 Qz (F0 m 19 ls [])), ∀ (v1 : Int32) (v2 : Int32) (v4 : Int32) (s0 : Int32) (o_me : Ob) (H : Heap) (locs : List Loc) (ls : Array Slot), bk_X9_thatCanBe_73  rec_4_0 rec_19_1 v1 v2 v4 s0 o_me = some y → Wd dC dI A s.heap [wX9 h_me q_me k_me o_me] H locs → lv_has ls 5 [(0, .ref h_me), (1, .int v1), (2, .int v2), (4, .int v4)] → W p l e ({ frames := 6, cells := 0, slots := 0, locals := 145 } : Room) s m ([.ref h_me] : List Value).toArray below meth c H locs 0 0 Qz (F0 m 73 ls [.int s0]) := by
    intro rec_4_0 hrec_4_0 rec_19_1 hrec_19_1
    intro v1 v2 v4 s0 o_me H locs ls h hw hl
    unfold bk_X9_thatCanBe_73 at h
    refine lv_istore_n (lv' := [(3, .int s0), (0, .ref h_me), (1, .int v1), (2, .int v2), (4, .int v4)]) hx hb dX9_thatCanBe_73 rfl hl (by decide) rfl (fun ls hl => ?_)
    obtain ⟨x6, ex6, h⟩ := z_lt h
    refine lv_iinc (v := x6) (lv' := [(4, .int x6), (3, .int s0), (0, .ref h_me), (1, .int v1), (2, .int v2)]) hx hb dX9_thatCanBe_74 hl (k := 4) rfl ((congrArg (v4 + ·) (show Int32.ofInt 1 = (1 : Int32) from by decide)).trans ex6.symm) (by decide) rfl (fun ls hl => ?_)
    refine lv_goto (tgt := 19) hx hb dX9_thatCanBe_77 (by decide) ?_
    exact hrec_19_1 v1 v2 s0 x6 o_me _ _ _ h hw (lv_sub hl [2, 3, 4, 1, 0] rfl)
  have lp_19_1 : ∀ (rec_4_0 : Int32 × Int32 × Ob → Option (Int32 × Ob)) (hrec_4_0 : ∀ (v1 : Int32) (v2 : Int32) (o_me : Ob) (H : Heap) (locs : List Loc) (ls : Array Slot), rec_4_0 (v1, v2, o_me) = some y → Wd dC dI A s.heap [wX9 h_me q_me k_me o_me] H locs → lv_has ls 5 [(0, .ref h_me), (1, .int v1), (2, .int v2)] → W p l e ({ frames := 6, cells := 0, slots := 0, locals := 145 } : Room) s m ([.ref h_me] : List Value).toArray below meth c H locs 0 0 Qz (F0 m 4 ls [])) (N : Nat), ∀ (v1 : Int32) (v2 : Int32) (v3 : Int32) (v4 : Int32) (o_me : Ob) (H : Heap) (locs : List Loc) (ls : Array Slot), lp_X9_thatCanBe_19  rec_4_0 N (v1, v2, v3, v4, o_me) = some y → Wd dC dI A s.heap [wX9 h_me q_me k_me o_me] H locs → lv_has ls 5 [(0, .ref h_me), (1, .int v1), (2, .int v2), (3, .int v3), (4, .int v4)] → W p l e ({ frames := 6, cells := 0, slots := 0, locals := 145 } : Room) s m ([.ref h_me] : List Value).toArray below meth c H locs 0 0 Qz (F0 m 19 ls []) := by
    intro rec_4_0 hrec_4_0
    intro N
    induction N with
    | zero =>
      intro v1 v2 v3 v4 o_me H locs ls h hw hl
      exact absurd (show (none : Option (Int32 × Ob)) = some y from h) (by simp)
    | succ N ih =>
      intro v1 v2 v3 v4 o_me H locs ls h hw hl
      have h : lb_X9_thatCanBe_19  rec_4_0 (lp_X9_thatCanBe_19  rec_4_0 N) v1 v2 v3 v4 o_me = some y := h
      unfold lb_X9_thatCanBe_19 at h
      refine lv_iload hx hb dX9_thatCanBe_19 (lv_at hl 4 rfl) ?_
      refine lv_aload_n hx hb dX9_thatCanBe_21 rfl (lv_at hl 0 rfl) ?_
      refine fgX9_3 hx hb hts hown hK hw 0 rfl kw1179 dX9_thatCanBe_22 ?_
      refine lv_iconst (v := 1) hx hb dX9_thatCanBe_25 (by decide) ?_
      refine faX9_3 hx hb hK hw 0 rfl rfl (by decide) dX9_thatCanBe_26 ?_
      refine lv_icmp_ge (tgt := 80) hx hb dX9_thatCanBe_27 (by decide) (fun c => ?_) (fun c => ?_)
      · have h := z_t h c
        exact bk_80_2 rec_4_0 hrec_4_0 v1 v2 v3 o_me _ _ _ h hw (lv_sub hl [0, 1, 2, 3] rfl)
      · have h := z_f h c
        refine lv_iload_n hx hb dX9_thatCanBe_30 rfl (lv_at hl 3 rfl) ?_
        refine lv_if_eq (tgt := 80) hx hb dX9_thatCanBe_31 (by decide) (fun c => ?_) (fun c => ?_)
        · have h := z_t h c
          exact bk_80_2 rec_4_0 hrec_4_0 v1 v2 v3 o_me _ _ _ h hw (lv_sub hl [0, 1, 2, 3] rfl)
        · have h := z_f h c
          refine lv_aload_n hx hb dX9_thatCanBe_34 rfl (lv_at hl 0 rfl) ?_
          refine lv_iload_n hx hb dX9_thatCanBe_35 rfl (lv_at hl 2 rfl) ?_
          refine lv_aload_n hx hb dX9_thatCanBe_36 rfl (lv_at hl 0 rfl) ?_
          refine fgX9_3 hx hb hts hown hK hw 0 rfl kw1179 dX9_thatCanBe_37 ?_
          refine lv_bipush (v := 71) hx hb dX9_thatCanBe_40 (by decide) ?_
          refine lv_iconst (v := 2) hx hb dX9_thatCanBe_42 (by decide) ?_
          refine lv_iload hx hb dX9_thatCanBe_43 (lv_at hl 4 rfl) ?_
          refine lv_imul hx hb dX9_thatCanBe_45 ?_
          refine lv_iadd hx hb dX9_thatCanBe_46 ?_
          obtain ⟨g3, h⟩ := z_gd h
          refine faX9_3 hx hb hK hw 0 rfl rfl g3 dX9_thatCanBe_47 ?_
          obtain ⟨z4, ez4, h⟩ := z_bd h
          refine xj_i (xrV (As := [.int v2, .int (gA o_me 3 ((71 : Int32) + ((2 : Int32) * v4)).toNatClampNeg)]) (rest := []) ⟨hx, hb, hml, hown, hts⟩ (m_X9_turnsOf l dC dI _ h_me q_me k_me o_me v2 (gA o_me 3 ((71 : Int32) + ((2 : Int32) * v4)).toNatClampNeg) z4 ez4) kw1652 kw1649 kw1651 kw82 kw120 hd_X9_turnsOf ⟨rfl, rfl⟩ rfl rfl ⟨rfl, rfl⟩ hX hK hw [0] (by decide) rfl rfl rfl rfl rfl hl.1 rfl rfl dX9_thatCanBe_48) hw hA [0] (by decide) rfl rfl (fun H locs hw => ?_)
          have hw : Wd dC dI A s.heap [wX9 h_me q_me k_me z4.2] H locs := hw
          refine lv_aload_n hx hb dX9_thatCanBe_51 rfl (lv_at hl 0 rfl) ?_
          refine fgX9_3 hx hb hts hown hK hw 0 rfl kw1179 dX9_thatCanBe_52 ?_
          refine lv_bipush (v := 71) hx hb dX9_thatCanBe_55 (by decide) ?_
          refine lv_iconst (v := 2) hx hb dX9_thatCanBe_57 (by decide) ?_
          refine lv_iload hx hb dX9_thatCanBe_58 (lv_at hl 4 rfl) ?_
          refine lv_imul hx hb dX9_thatCanBe_60 ?_
          refine lv_iadd hx hb dX9_thatCanBe_61 ?_
          refine lv_iconst (v := 1) hx hb dX9_thatCanBe_62 (by decide) ?_
          refine lv_iadd hx hb dX9_thatCanBe_63 ?_
          obtain ⟨g5, h⟩ := z_gd h
          refine faX9_3 hx hb hK hw 0 rfl rfl g5 dX9_thatCanBe_64 ?_
          refine lv_icmp_ne (tgt := 72) hx hb dX9_thatCanBe_65 (by decide) (fun c => ?_) (fun c => ?_)
          · have h := z_f h c
            refine lv_iconst (v := 0) hx hb dX9_thatCanBe_72 (by decide) ?_
            exact bk_73_4 rec_4_0 hrec_4_0 (lp_X9_thatCanBe_19  rec_4_0 N) ih v1 v2 v4 (0 : Int32) z4.2 _ _ _ h hw (lv_sub hl [0, 1, 2, 4] rfl)
          · have h := z_t h c
            refine lv_iconst (v := 1) hx hb dX9_thatCanBe_68 (by decide) ?_
            refine lv_goto (tgt := 73) hx hb dX9_thatCanBe_69 (by decide) ?_
            exact bk_73_4 rec_4_0 hrec_4_0 (lp_X9_thatCanBe_19  rec_4_0 N) ih v1 v2 v4 (1 : Int32) z4.2 _ _ _ h hw (lv_sub hl [0, 1, 2, 4] rfl)
  have lp_4_0 : ∀ (N : Nat), ∀ (v1 : Int32) (v2 : Int32) (o_me : Ob) (H : Heap) (locs : List Loc) (ls : Array Slot), lp_X9_thatCanBe_4   N (v1, v2, o_me) = some y → Wd dC dI A s.heap [wX9 h_me q_me k_me o_me] H locs → lv_has ls 5 [(0, .ref h_me), (1, .int v1), (2, .int v2)] → W p l e ({ frames := 6, cells := 0, slots := 0, locals := 145 } : Room) s m ([.ref h_me] : List Value).toArray below meth c H locs 0 0 Qz (F0 m 4 ls []) := by
    intro N
    induction N with
    | zero =>
      intro v1 v2 o_me H locs ls h hw hl
      exact absurd (show (none : Option (Int32 × Ob)) = some y from h) (by simp)
    | succ N ih =>
      intro v1 v2 o_me H locs ls h hw hl
      have h : lb_X9_thatCanBe_4   (lp_X9_thatCanBe_4   N) v1 v2 o_me = some y := h
      unfold lb_X9_thatCanBe_4 at h
      refine lv_iload_n hx hb dX9_thatCanBe_4 rfl (lv_at hl 2 rfl) ?_
      refine lv_aload_n hx hb dX9_thatCanBe_5 rfl (lv_at hl 0 rfl) ?_
      refine fgX9_3 hx hb hts hown hK hw 0 rfl kw1179 dX9_thatCanBe_6 ?_
      refine lv_iconst (v := 0) hx hb dX9_thatCanBe_9 (by decide) ?_
      refine faX9_3 hx hb hK hw 0 rfl rfl (by decide) dX9_thatCanBe_10 ?_
      refine lv_icmp_ge (tgt := 100) hx hb dX9_thatCanBe_11 (by decide) (fun c => ?_) (fun c => ?_)
      · have h := z_t h c
        refine lv_iload_n hx hb dX9_thatCanBe_100 rfl (lv_at hl 1 rfl) ?_
        have hy := Option.some.inj h
        rw [← hQz, ← hy]
        exact xr_i (v := v1) hx hb hr rfl hlk hK hw dX9_thatCanBe_101
      · have h := z_f h c
        refine lv_iconst (v := 1) hx hb dX9_thatCanBe_14 (by decide) ?_
        refine lv_istore_n (lv' := [(3, .int (1 : Int32)), (0, .ref h_me), (1, .int v1), (2, .int v2)]) hx hb dX9_thatCanBe_15 rfl hl (by decide) rfl (fun ls hl => ?_)
        refine lv_iconst (v := 0) hx hb dX9_thatCanBe_16 (by decide) ?_
        refine lv_istore (lv' := [(4, .int (0 : Int32)), (3, .int (1 : Int32)), (0, .ref h_me), (1, .int v1), (2, .int v2)]) hx hb dX9_thatCanBe_17 hl (by decide) rfl (fun ls hl => ?_)
        exact lp_19_1 (lp_X9_thatCanBe_4   N) ih zfu v1 v2 (1 : Int32) (0 : Int32) o_me _ _ _ h hw (lv_sub hl [2, 3, 4, 1, 0] rfl)
  unfold f_X9_thatCanBe at h
  refine lv_iconst (v := 0) hx hb dX9_thatCanBe_0 (by decide) ?_
  refine lv_istore_n (lv' := [(1, .int (0 : Int32)), (0, .ref h_me)]) hx hb dX9_thatCanBe_1 rfl hl (by decide) rfl (fun ls hl => ?_)
  refine lv_iconst (v := 0) hx hb dX9_thatCanBe_2 (by decide) ?_
  refine lv_istore_n (lv' := [(2, .int (0 : Int32)), (1, .int (0 : Int32)), (0, .ref h_me)]) hx hb dX9_thatCanBe_3 rfl hl (by decide) rfl (fun ls hl => ?_)
  exact lp_4_0  zfu (0 : Int32) (0 : Int32) o_me _ _ _ h hw (lv_sub hl [2, 1, 0] rfl)

def f_X9_canBe (o_me : Ob) : Option (Int32 × Ob) :=
  zlt (sI o_me 0 (0 : Int32)) fun o1 =>
  (f_X9_thatCanBe o1).bind fun z2 =>
  some (z2.1, z2.2)
set_option maxHeartbeats 4000000 in
set_option maxRecDepth 100000 in
theorem m_X9_canBe (l : Launch) (dC : Nat → ClassId) (dI : Nat → Nat → Nat) (sz : Nat) (h_me : Nat) (q_me : Nat → Nat) (k_me : Nat → ClassId) (o_me : Ob) (y : Int32 × Ob) (h : f_X9_canBe o_me = some y) : CI l yX9_canBe cX9_canBe 1 (some .int) ({ frames := 7, cells := 0, slots := 0, locals := 169 } : Room) dC dI sz [.ref h_me] [wX9 h_me q_me k_me o_me] [tX9 k_me] y.1 [wX9 h_me q_me k_me y.2] := by
  refine CC_of (by decide) (Nat.le_of_ble_eq_true rfl) ?_
  intro p e s m below meth c A ls hx hb hml hr hlk hnm hown hts hX hK hP hD hA hl
  have hl : lv_has ls 1 [(0, .ref h_me)] := hl
  have hown : s.vm.findClass RX9 = some m.cls := hown
  have hw : Wd dC dI A s.heap [wX9 h_me q_me k_me o_me] s.heap [] := ⟨hP, hD, va_S.rf⟩
  generalize hQz : (MQ below (QI dC dI (fun r (_ : Unit) => r = y.1) (fun _ => Jn [wX9 h_me q_me k_me y.2]) (fun _ => Jt [tX9 k_me]) A) ([.ref h_me] : List Value).toArray s 0 0 A) = Qz
  clear hP hD hnm
  unfold f_X9_canBe at h
  refine lv_aload_n hx hb dX9_canBe_0 rfl (lv_at hl 0 rfl) ?_
  refine lv_iconst (v := 0) hx hb dX9_canBe_1 (by decide) ?_
  refine fpX9_0 hx hb hts hown hK hw 0 rfl kw1176 dX9_canBe_2 (fun H locs hw => ?_)
  obtain ⟨o1, eo1, h⟩ := z_lt h
  have hw : Wd dC dI A s.heap [wX9 h_me q_me k_me o1] H locs := by rw [eo1]; exact hw
  refine lv_aload_n hx hb dX9_canBe_5 rfl (lv_at hl 0 rfl) ?_
  obtain ⟨z2, ez2, h⟩ := z_bd h
  refine xj_i (xrV (As := []) (rest := []) ⟨hx, hb, hml, hown, hts⟩ (m_X9_thatCanBe l dC dI _ h_me q_me k_me o1 z2 ez2) kw1727 kw1724 kw1726 kw92 kw120 hd_X9_thatCanBe ⟨rfl, rfl⟩ rfl rfl ⟨rfl, rfl⟩ hX hK hw [0] (by decide) rfl rfl rfl rfl rfl hl.1 rfl rfl dX9_canBe_6) hw hA [0] (by decide) rfl rfl (fun H locs hw => ?_)
  have hw : Wd dC dI A s.heap [wX9 h_me q_me k_me z2.2] H locs := hw
  have hy := Option.some.inj h
  rw [← hQz, ← hy]
  exact xr_i (v := z2.1) hx hb hr rfl hlk hK hw dX9_canBe_9

def lb_X9_putBack_2   (rec_2_0 : Int32 × Int32 × Ob → Option (Ob)) (v1 : Int32) (v2 : Int32) (o_me : Ob) : Option (Ob) :=
  if (25 : Int32) ≤ v2 then
  (some o_me)
  else
  (zgd (zin (((25 : Int32) * v1) + v2) 450) <|
  zgd (zin ((4 : Int32) + v2) 5484) <|
  zlt (tA o_me 3 ((4 : Int32) + v2).toNatClampNeg (gA o_me 6 (((25 : Int32) * v1) + v2).toNatClampNeg)) fun o3 =>
  zlt (v2 + (1 : Int32)) fun x4 =>
  rec_2_0 (v1, x4, o3))
def lp_X9_putBack_2   : Nat → (Int32 × Int32 × Ob) → Option (Ob) := zit (fun rec a => lb_X9_putBack_2   rec a.1 a.2.1 a.2.2)
def f_X9_putBack (o_me : Ob) (p0 : Int32) : Option (Ob) :=
  lp_X9_putBack_2   zfu (p0, (0 : Int32), o_me)
set_option maxHeartbeats 4000000 in
set_option maxRecDepth 100000 in
theorem m_X9_putBack (l : Launch) (dC : Nat → ClassId) (dI : Nat → Nat → Nat) (sz : Nat) (h_me : Nat) (q_me : Nat → Nat) (k_me : Nat → ClassId) (o_me : Ob) (p0 : Int32) (y : Ob) (h : f_X9_putBack o_me p0 = some y) : CV l yX9_putBack cX9_putBack 3 none ({ frames := 0, cells := 0, slots := 0, locals := 0 } : Room) dC dI sz [.ref h_me, .int p0] [wX9 h_me q_me k_me o_me] [tX9 k_me] [wX9 h_me q_me k_me y] := by
  refine CC_of (by decide) (Nat.le_of_ble_eq_true rfl) ?_
  intro p e s m below meth c A ls hx hb hml hr hlk hnm hown hts hX hK hP hD hA hl
  have hl : lv_has ls 3 [(0, .ref h_me), (1, .int p0)] := hl
  have hown : s.vm.findClass RX9 = some m.cls := hown
  have hw : Wd dC dI A s.heap [wX9 h_me q_me k_me o_me] s.heap [] := ⟨hP, hD, va_S.rf⟩
  generalize hQz : (MQ below (QV dC dI (fun (_ : Unit) => True) (fun _ => Jn [wX9 h_me q_me k_me y]) (fun _ => Jt [tX9 k_me]) A) ([.ref h_me, .int p0] : List Value).toArray s 0 0 A) = Qz
  clear hP hD hnm
  have lp_2_0 : ∀ (N : Nat), ∀ (v1 : Int32) (v2 : Int32) (o_me : Ob) (H : Heap) (locs : List Loc) (ls : Array Slot), lp_X9_putBack_2   N (v1, v2, o_me) = some y → Wd dC dI A s.heap [wX9 h_me q_me k_me o_me] H locs → lv_has ls 3 [(0, .ref h_me), (1, .int v1), (2, .int v2)] → W p l e ({ frames := 0, cells := 0, slots := 0, locals := 0 } : Room) s m ([.ref h_me, .int p0] : List Value).toArray below meth c H locs 0 0 Qz (F0 m 2 ls []) := by
    intro N
    induction N with
    | zero =>
      intro v1 v2 o_me H locs ls h hw hl
      exact absurd (show (none : Option (Ob)) = some y from h) (by simp)
    | succ N ih =>
      intro v1 v2 o_me H locs ls h hw hl
      have h : lb_X9_putBack_2   (lp_X9_putBack_2   N) v1 v2 o_me = some y := h
      unfold lb_X9_putBack_2 at h
      refine lv_iload_n hx hb dX9_putBack_2 rfl (lv_at hl 2 rfl) ?_
      refine lv_bipush (v := 25) hx hb dX9_putBack_3 (by decide) ?_
      refine lv_icmp_ge (tgt := 33) hx hb dX9_putBack_5 (by decide) (fun c => ?_) (fun c => ?_)
      · have h := z_t h c
        have hy := Option.some.inj h
        rw [← hQz, ← hy]
        exact xr_v hx hb hr hlk hK hw dX9_putBack_33
      · have h := z_f h c
        refine lv_aload_n hx hb dX9_putBack_8 rfl (lv_at hl 0 rfl) ?_
        refine fgX9_3 hx hb hts hown hK hw 0 rfl kw1179 dX9_putBack_9 ?_
        refine lv_iconst (v := 4) hx hb dX9_putBack_12 (by decide) ?_
        refine lv_iload_n hx hb dX9_putBack_13 rfl (lv_at hl 2 rfl) ?_
        refine lv_iadd hx hb dX9_putBack_14 ?_
        refine lv_aload_n hx hb dX9_putBack_15 rfl (lv_at hl 0 rfl) ?_
        refine fgX9_6 hx hb hts hown hK hw 0 rfl kw1182 dX9_putBack_16 ?_
        refine lv_bipush (v := 25) hx hb dX9_putBack_19 (by decide) ?_
        refine lv_iload_n hx hb dX9_putBack_21 rfl (lv_at hl 1 rfl) ?_
        refine lv_imul hx hb dX9_putBack_22 ?_
        refine lv_iload_n hx hb dX9_putBack_23 rfl (lv_at hl 2 rfl) ?_
        refine lv_iadd hx hb dX9_putBack_24 ?_
        obtain ⟨g1, h⟩ := z_gd h
        refine faX9_6 hx hb hK hw 0 rfl rfl g1 dX9_putBack_25 ?_
        obtain ⟨g2, h⟩ := z_gd h
        refine fbX9_3 hx hb hK hw 0 rfl rfl g2 dX9_putBack_26 (fun H locs hw => ?_)
        obtain ⟨o3, eo3, h⟩ := z_lt h
        have hw : Wd dC dI A s.heap [wX9 h_me q_me k_me o3] H locs := by rw [eo3]; exact hw
        obtain ⟨x4, ex4, h⟩ := z_lt h
        refine lv_iinc (v := x4) (lv' := [(2, .int x4), (0, .ref h_me), (1, .int v1)]) hx hb dX9_putBack_27 hl (k := 2) rfl ((congrArg (v2 + ·) (show Int32.ofInt 1 = (1 : Int32) from by decide)).trans ex4.symm) (by decide) rfl (fun ls hl => ?_)
        refine lv_goto (tgt := 2) hx hb dX9_putBack_30 (by decide) ?_
        exact ih v1 x4 o3 _ _ _ h hw (lv_sub hl [1, 2, 0] rfl)
  unfold f_X9_putBack at h
  refine lv_iconst (v := 0) hx hb dX9_putBack_0 (by decide) ?_
  refine lv_istore_n (lv' := [(2, .int (0 : Int32)), (0, .ref h_me), (1, .int p0)]) hx hb dX9_putBack_1 rfl hl (by decide) rfl (fun ls hl => ?_)
  exact lp_2_0  zfu p0 (0 : Int32) o_me _ _ _ h hw (lv_sub hl [1, 2, 0] rfl)

def f_X9_draw (o_me : Ob) (p0 : Int32) : Option (Int32 × Ob) :=
  zlt (sL o_me 60 ((((gL o_me 60) * (1103 : Int64)) + (12345 : Int64)) - (((gL o_me 60) * (1103 : Int64)) + (12345 : Int64)) / (1000003 : Int64) * (1000003 : Int64))) fun o1 =>
  zgd (decide (¬ p0.toInt64 = 0)) <|
  some (((gL o1 60) - (gL o1 60) / p0.toInt64 * p0.toInt64).toInt32, o1)
set_option maxHeartbeats 4000000 in
set_option maxRecDepth 100000 in
theorem m_X9_draw (l : Launch) (dC : Nat → ClassId) (dI : Nat → Nat → Nat) (sz : Nat) (h_me : Nat) (q_me : Nat → Nat) (k_me : Nat → ClassId) (o_me : Ob) (p0 : Int32) (y : Int32 × Ob) (h : f_X9_draw o_me p0 = some y) : CI l yX9_draw cX9_draw 2 (some .int) ({ frames := 0, cells := 0, slots := 0, locals := 0 } : Room) dC dI sz [.ref h_me, .int p0] [wX9 h_me q_me k_me o_me] [tX9 k_me] y.1 [wX9 h_me q_me k_me y.2] := by
  refine CC_of (by decide) (Nat.le_of_ble_eq_true rfl) ?_
  intro p e s m below meth c A ls hx hb hml hr hlk hnm hown hts hX hK hP hD hA hl
  have hl : lv_has ls 2 [(0, .ref h_me), (1, .int p0)] := hl
  have hown : s.vm.findClass RX9 = some m.cls := hown
  have hw : Wd dC dI A s.heap [wX9 h_me q_me k_me o_me] s.heap [] := ⟨hP, hD, va_S.rf⟩
  generalize hQz : (MQ below (QI dC dI (fun r (_ : Unit) => r = y.1) (fun _ => Jn [wX9 h_me q_me k_me y.2]) (fun _ => Jt [tX9 k_me]) A) ([.ref h_me, .int p0] : List Value).toArray s 0 0 A) = Qz
  clear hP hD hnm
  unfold f_X9_draw at h
  refine lv_aload_n hx hb dX9_draw_0 rfl (lv_at hl 0 rfl) ?_
  refine lv_aload_n hx hb dX9_draw_1 rfl (lv_at hl 0 rfl) ?_
  refine fgX9_60 hx hb hts hown hK hw 0 rfl kw1236 dX9_draw_2 ?_
  refine lv_ldc2 (v := 1103) hx hb hown (hts _ kw1845) dX9_draw_5 ?_
  refine lv_lmul hx hb dX9_draw_8 ?_
  refine lv_ldc2 (v := 12345) hx hb hown (hts _ kw1846) dX9_draw_9 ?_
  refine lv_ladd hx hb dX9_draw_12 ?_
  refine lv_ldc2 (v := 1000003) hx hb hown (hts _ kw1847) dX9_draw_13 ?_
  refine lv_lrem hx hb dX9_draw_16 (by decide) ?_
  refine fpX9_60 hx hb hts hown hK hw 0 rfl kw1236 dX9_draw_17 (fun H locs hw => ?_)
  obtain ⟨o1, eo1, h⟩ := z_lt h
  have hw : Wd dC dI A s.heap [wX9 h_me q_me k_me o1] H locs := by rw [eo1]; exact hw
  refine lv_aload_n hx hb dX9_draw_20 rfl (lv_at hl 0 rfl) ?_
  refine fgX9_60 hx hb hts hown hK hw 0 rfl kw1236 dX9_draw_21 ?_
  refine lv_iload_n hx hb dX9_draw_24 rfl (lv_at hl 1 rfl) ?_
  refine lv_i2l hx hb dX9_draw_25 rfl ?_
  obtain ⟨g2, h⟩ := z_gd h
  refine lv_lrem hx hb dX9_draw_26 (of_decide_eq_true g2) ?_
  refine lv_l2i hx hb dX9_draw_27 rfl ?_
  have hy := Option.some.inj h
  rw [← hQz, ← hy]
  exact xr_i (v := ((gL o1 60) - (gL o1 60) / p0.toInt64 * p0.toInt64).toInt32) hx hb hr rfl hlk hK hw dX9_draw_28

def bk_X9_centuries_29   (o_me : Ob) : Option (Int32 × Ob) :=
  (f_X9_tell o_me (-1 : Int32)).bind fun z3 =>
  some (z3.1, z3.2)
def lb_X9_centuries_195   (rec_195_3 : Int32 × Int32 × Ob → Option (Int32 × Ob)) (v3 : Int32) (v4 : Int32) (o_me : Ob) : Option (Int32 × Ob) :=
  if (25 : Int32) ≤ v4 then
  (zlt (sI o_me 62 (gA o_me 3 (0 : Int32).toNatClampNeg)) fun o7 =>
  (f_X9_putBack o7 (16 : Int32)).bind fun z8 =>
  (f_X9_tell z8 v3).bind fun z9 =>
  some (z9.1, z9.2))
  else
  (zgd (zin ((4 : Int32) + v4) 5484) <|
  zgd (zin v4 25) <|
  zlt (tA o_me 61 v4.toNatClampNeg (gA o_me 3 ((4 : Int32) + v4).toNatClampNeg)) fun o12 =>
  zlt (v4 + (1 : Int32)) fun x13 =>
  rec_195_3 (v3, x13, o12))
def lp_X9_centuries_195   : Nat → (Int32 × Int32 × Ob) → Option (Int32 × Ob) := zit (fun rec a => lb_X9_centuries_195   rec a.1 a.2.1 a.2.2)
def bk_X9_centuries_192   (v3 : Int32) (o_me : Ob) : Option (Int32 × Ob) :=
  lp_X9_centuries_195   zfu (v3, (0 : Int32), o_me)
def bk_X9_centuries_181  (rec_68_1 : Int32 × Int32 × Int32 × Ob → Option (Int32 × Ob)) (v2 : Int32) (v3 : Int32) (v4 : Int32) (o_me : Ob) : Option (Int32 × Ob) :=
  (f_X9_passIt o_me).bind fun z17 =>
  zlt (v4 + (1 : Int32)) fun x18 =>
  rec_68_1 (v2, v3, x18, z17.2)
def bk_X9_centuries_169  (rec_68_1 : Int32 × Int32 × Int32 × Ob → Option (Int32 × Ob)) (v2 : Int32) (v3 : Int32) (v4 : Int32) (v5 : Int32) (v7 : Int32) (o_me : Ob) : Option (Int32 × Ob) :=
  if v7 = (3 : Int32) then
  ((f_X9_takeIt o_me v5).bind fun z19 =>
  bk_X9_centuries_181  rec_68_1 v2 v3 v4 z19)
  else
  (bk_X9_centuries_181  rec_68_1 v2 v3 v4 o_me)
def bk_X9_centuries_140  (rec_68_1 : Int32 × Int32 × Int32 × Ob → Option (Int32 × Ob)) (v2 : Int32) (v3 : Int32) (v4 : Int32) (v5 : Int32) (v6 : Int32) (v7 : Int32) (o_me : Ob) : Option (Int32 × Ob) :=
  if v7 = (2 : Int32) then
  ((f_X9_layPlaces o_me v6).bind fun z20 =>
  if (gI z20 43) ≤ (0 : Int32) then
  (bk_X9_centuries_169  rec_68_1 v2 v3 v4 v5 v7 z20)
  else
  ((f_X9_raceIt z20 v6).bind fun z21 =>
  zlt (v3 + (1 : Int32)) fun x22 =>
  bk_X9_centuries_169  rec_68_1 v2 x22 v4 v5 v7 z21.2))
  else
  (bk_X9_centuries_169  rec_68_1 v2 v3 v4 v5 v7 o_me)
def lb_X9_centuries_68   (rec_68_1 : Int32 × Int32 × Int32 × Ob → Option (Int32 × Ob)) (v2 : Int32) (v3 : Int32) (v4 : Int32) (o_me : Ob) : Option (Int32 × Ob) :=
  if v2 ≤ v4 then
  (bk_X9_centuries_192   v3 o_me)
  else
  (if (999 : Int32) ≤ (gA o_me 3 (4 : Int32).toNatClampNeg) then
  (bk_X9_centuries_192   v3 o_me)
  else
  ((f_X9_draw o_me (gA o_me 3 (0 : Int32).toNatClampNeg)).bind fun z14 =>
  (f_X9_draw z14.2 (4 : Int32)).bind fun z15 =>
  (f_X9_draw z15.2 (4 : Int32)).bind fun z16 =>
  if (2 : Int32) ≤ z16.1 then
  (bk_X9_centuries_140  rec_68_1 v2 v3 v4 z14.1 z15.1 z16.1 z16.2)
  else
  (zgd (zin ((22 : Int32) + z14.1) 5484) <|
  zgd (zin ((22 : Int32) + z14.1) 5484) <|
  zlt (tA z16.2 3 ((22 : Int32) + z14.1).toNatClampNeg ((1 : Int32) - (gA z16.2 3 ((22 : Int32) + z14.1).toNatClampNeg))) fun o25 =>
  bk_X9_centuries_140  rec_68_1 v2 v3 v4 z14.1 z15.1 z16.1 o25)))
def lp_X9_centuries_68   : Nat → (Int32 × Int32 × Int32 × Ob) → Option (Int32 × Ob) := zit (fun rec a => lb_X9_centuries_68   rec a.1 a.2.1 a.2.2.1 a.2.2.2)
def f_X9_centuries (o_me : Ob) (p0 : Int32) (p1 : Int32) : Option (Int32 × Ob) :=
  zlt (sI o_me 0 (0 : Int32)) fun o1 =>
  (f_X9_in p0.toInt64 (0 : Int64) (1000000 : Int64)).bind fun z2 =>
  if z2 = (0 : Int32) then
  (bk_X9_centuries_29   o1)
  else
  ((f_X9_in p1.toInt64 (1 : Int64) (60 : Int64)).bind fun z4 =>
  if z4 = (0 : Int32) then
  (bk_X9_centuries_29   o1)
  else
  (if (gA o1 3 (0 : Int32).toNatClampNeg) = (0 : Int32) then
  ((f_X9_tell o1 (-3 : Int32)).bind fun z26 =>
  some (z26.1, z26.2))
  else
  ((f_X9_keepAll o1 (16 : Int32)).bind fun z5 =>
  zlt (sL z5 60 p0.toInt64) fun o6 =>
  lp_X9_centuries_68   zfu (p1, (0 : Int32), (0 : Int32), o6))))
set_option maxHeartbeats 4000000 in
set_option maxRecDepth 100000 in
theorem m_X9_centuries (l : Launch) (dC : Nat → ClassId) (dI : Nat → Nat → Nat) (sz : Nat) (h_me : Nat) (q_me : Nat → Nat) (k_me : Nat → ClassId) (o_me : Ob) (p0 : Int32) (p1 : Int32) (y : Int32 × Ob) (h : f_X9_centuries o_me p0 p1 = some y) : CI l yX9_centuries cX9_centuries 8 (some .int) ({ frames := 7, cells := 0, slots := 0, locals := 173 } : Room) dC dI sz [.ref h_me, .int p0, .int p1] [wX9 h_me q_me k_me o_me] [tX9 k_me] y.1 [wX9 h_me q_me k_me y.2] := by
  refine CC_of (by decide) (Nat.le_of_ble_eq_true rfl) ?_
  intro p e s m below meth c A ls hx hb hml hr hlk hnm hown hts hX hK hP hD hA hl
  have hl : lv_has ls 8 [(0, .ref h_me), (1, .int p0), (2, .int p1)] := hl
  have hown : s.vm.findClass RX9 = some m.cls := hown
  have hw : Wd dC dI A s.heap [wX9 h_me q_me k_me o_me] s.heap [] := ⟨hP, hD, va_S.rf⟩
  generalize hQz : (MQ below (QI dC dI (fun r (_ : Unit) => r = y.1) (fun _ => Jn [wX9 h_me q_me k_me y.2]) (fun _ => Jt [tX9 k_me]) A) ([.ref h_me, .int p0, .int p1] : List Value).toArray s 0 0 A) = Qz
  clear hP hD hnm
  have bk_29_0 : ∀ (o_me : Ob) (H : Heap) (locs : List Loc) (ls : Array Slot), bk_X9_centuries_29   o_me = some y → Wd dC dI A s.heap [wX9 h_me q_me k_me o_me] H locs → lv_has ls 8 [(0, .ref h_me)] → W p l e ({ frames := 7, cells := 0, slots := 0, locals := 173 } : Room) s m ([.ref h_me, .int p0, .int p1] : List Value).toArray below meth c H locs 0 0 Qz (F0 m 29 ls []) := by
    intro o_me H locs ls h hw hl
    unfold bk_X9_centuries_29 at h
    refine lv_aload_n hx hb dX9_centuries_29 rfl (lv_at hl 0 rfl) ?_
    refine lv_iconst (v := (-1)) hx hb dX9_centuries_30 (by decide) ?_
    obtain ⟨z3, ez3, h⟩ := z_bd h
    refine xj_i (xrV (As := [.int (-1 : Int32)]) (rest := []) ⟨hx, hb, hml, hown, hts⟩ (m_X9_tell l dC dI _ h_me q_me k_me o_me (-1 : Int32) z3 ez3) kw1374 kw1371 kw1373 kw39 kw120 hd_X9_tell ⟨rfl, rfl⟩ rfl rfl ⟨rfl, rfl⟩ hX hK hw [0] (by decide) rfl rfl rfl rfl rfl hl.1 rfl rfl dX9_centuries_31) hw hA [0] (by decide) rfl rfl (fun H locs hw => ?_)
    have hw : Wd dC dI A s.heap [wX9 h_me q_me k_me z3.2] H locs := hw
    have hy := Option.some.inj h
    rw [← hQz, ← hy]
    exact xr_i (v := z3.1) hx hb hr rfl hlk hK hw dX9_centuries_34
  have lp_195_3 : ∀ (N : Nat), ∀ (v3 : Int32) (v4 : Int32) (o_me : Ob) (H : Heap) (locs : List Loc) (ls : Array Slot), lp_X9_centuries_195   N (v3, v4, o_me) = some y → Wd dC dI A s.heap [wX9 h_me q_me k_me o_me] H locs → lv_has ls 8 [(0, .ref h_me), (3, .int v3), (4, .int v4)] → W p l e ({ frames := 7, cells := 0, slots := 0, locals := 173 } : Room) s m ([.ref h_me, .int p0, .int p1] : List Value).toArray below meth c H locs 0 0 Qz (F0 m 195 ls []) := by
    intro N
    induction N with
    | zero =>
      intro v3 v4 o_me H locs ls h hw hl
      exact absurd (show (none : Option (Int32 × Ob)) = some y from h) (by simp)
    | succ N ih =>
      intro v3 v4 o_me H locs ls h hw hl
      have h : lb_X9_centuries_195   (lp_X9_centuries_195   N) v3 v4 o_me = some y := h
      unfold lb_X9_centuries_195 at h
      refine lv_iload hx hb dX9_centuries_195 (lv_at hl 2 rfl) ?_
      refine lv_bipush (v := 25) hx hb dX9_centuries_197 (by decide) ?_
      refine lv_icmp_ge (tgt := 224) hx hb dX9_centuries_199 (by decide) (fun c => ?_) (fun c => ?_)
      · have h := z_t h c
        refine lv_aload_n hx hb dX9_centuries_224 rfl (lv_at hl 0 rfl) ?_
        refine lv_aload_n hx hb dX9_centuries_225 rfl (lv_at hl 0 rfl) ?_
        refine fgX9_3 hx hb hts hown hK hw 0 rfl kw1179 dX9_centuries_226 ?_
        refine lv_iconst (v := 0) hx hb dX9_centuries_229 (by decide) ?_
        refine faX9_3 hx hb hK hw 0 rfl rfl (by decide) dX9_centuries_230 ?_
        refine fpX9_62 hx hb hts hown hK hw 0 rfl kw1238 dX9_centuries_231 (fun H locs hw => ?_)
        obtain ⟨o7, eo7, h⟩ := z_lt h
        have hw : Wd dC dI A s.heap [wX9 h_me q_me k_me o7] H locs := by rw [eo7]; exact hw
        refine lv_aload_n hx hb dX9_centuries_234 rfl (lv_at hl 0 rfl) ?_
        refine lv_bipush (v := 16) hx hb dX9_centuries_235 (by decide) ?_
        obtain ⟨z8, ez8, h⟩ := z_bd h
        refine xj_v (xrV (As := [.int (16 : Int32)]) (rest := []) ⟨hx, hb, hml, hown, hts⟩ (m_X9_putBack l dC dI _ h_me q_me k_me o7 (16 : Int32) z8 ez8) kw1378 kw1375 kw1377 kw40 kw120 hd_X9_putBack ⟨rfl, rfl⟩ rfl rfl ⟨rfl, rfl⟩ hX hK hw [0] (by decide) rfl rfl rfl rfl rfl hl.1 rfl rfl dX9_centuries_237) hw hA [0] (by decide) rfl rfl (fun H locs hw => ?_)
        have hw : Wd dC dI A s.heap [wX9 h_me q_me k_me z8] H locs := hw
        refine lv_aload_n hx hb dX9_centuries_240 rfl (lv_at hl 0 rfl) ?_
        refine lv_iload_n hx hb dX9_centuries_241 rfl (lv_at hl 1 rfl) ?_
        obtain ⟨z9, ez9, h⟩ := z_bd h
        refine xj_i (xrV (As := [.int v3]) (rest := []) ⟨hx, hb, hml, hown, hts⟩ (m_X9_tell l dC dI _ h_me q_me k_me z8 v3 z9 ez9) kw1374 kw1371 kw1373 kw39 kw120 hd_X9_tell ⟨rfl, rfl⟩ rfl rfl ⟨rfl, rfl⟩ hX hK hw [0] (by decide) rfl rfl rfl rfl rfl hl.1 rfl rfl dX9_centuries_242) hw hA [0] (by decide) rfl rfl (fun H locs hw => ?_)
        have hw : Wd dC dI A s.heap [wX9 h_me q_me k_me z9.2] H locs := hw
        have hy := Option.some.inj h
        rw [← hQz, ← hy]
        exact xr_i (v := z9.1) hx hb hr rfl hlk hK hw dX9_centuries_245
      · have h := z_f h c
        refine lv_aload_n hx hb dX9_centuries_202 rfl (lv_at hl 0 rfl) ?_
        refine fgX9_61 hx hb hts hown hK hw 0 rfl kw1237 dX9_centuries_203 ?_
        refine lv_iload hx hb dX9_centuries_206 (lv_at hl 2 rfl) ?_
        refine lv_aload_n hx hb dX9_centuries_208 rfl (lv_at hl 0 rfl) ?_
        refine fgX9_3 hx hb hts hown hK hw 0 rfl kw1179 dX9_centuries_209 ?_
        refine lv_iconst (v := 4) hx hb dX9_centuries_212 (by decide) ?_
        refine lv_iload hx hb dX9_centuries_213 (lv_at hl 2 rfl) ?_
        refine lv_iadd hx hb dX9_centuries_215 ?_
        obtain ⟨g10, h⟩ := z_gd h
        refine faX9_3 hx hb hK hw 0 rfl rfl g10 dX9_centuries_216 ?_
        obtain ⟨g11, h⟩ := z_gd h
        refine fbX9_61 hx hb hK hw 0 rfl rfl g11 dX9_centuries_217 (fun H locs hw => ?_)
        obtain ⟨o12, eo12, h⟩ := z_lt h
        have hw : Wd dC dI A s.heap [wX9 h_me q_me k_me o12] H locs := by rw [eo12]; exact hw
        obtain ⟨x13, ex13, h⟩ := z_lt h
        refine lv_iinc (v := x13) (lv' := [(4, .int x13), (0, .ref h_me), (3, .int v3)]) hx hb dX9_centuries_218 hl (k := 2) rfl ((congrArg (v4 + ·) (show Int32.ofInt 1 = (1 : Int32) from by decide)).trans ex13.symm) (by decide) rfl (fun ls hl => ?_)
        refine lv_goto (tgt := 195) hx hb dX9_centuries_221 (by decide) ?_
        exact ih v3 x13 o12 _ _ _ h hw (lv_sub hl [1, 2, 0] rfl)
  have bk_192_2 : ∀ (v3 : Int32) (o_me : Ob) (H : Heap) (locs : List Loc) (ls : Array Slot), bk_X9_centuries_192   v3 o_me = some y → Wd dC dI A s.heap [wX9 h_me q_me k_me o_me] H locs → lv_has ls 8 [(0, .ref h_me), (3, .int v3)] → W p l e ({ frames := 7, cells := 0, slots := 0, locals := 173 } : Room) s m ([.ref h_me, .int p0, .int p1] : List Value).toArray below meth c H locs 0 0 Qz (F0 m 192 ls []) := by
    intro v3 o_me H locs ls h hw hl
    unfold bk_X9_centuries_192 at h
    refine lv_iconst (v := 0) hx hb dX9_centuries_192 (by decide) ?_
    refine lv_istore (lv' := [(4, .int (0 : Int32)), (0, .ref h_me), (3, .int v3)]) hx hb dX9_centuries_193 hl (by decide) rfl (fun ls hl => ?_)
    exact lp_195_3  zfu v3 (0 : Int32) o_me _ _ _ h hw (lv_sub hl [1, 2, 0] rfl)
  have bk_181_6 : ∀ (rec_68_1 : Int32 × Int32 × Int32 × Ob → Option (Int32 × Ob)) (hrec_68_1 : ∀ (v2 : Int32) (v3 : Int32) (v4 : Int32) (o_me : Ob) (H : Heap) (locs : List Loc) (ls : Array Slot), rec_68_1 (v2, v3, v4, o_me) = some y → Wd dC dI A s.heap [wX9 h_me q_me k_me o_me] H locs → lv_has ls 8 [(0, .ref h_me), (2, .int v2), (3, .int v3), (4, .int v4)] → W p l e ({ frames := 7, cells := 0, slots := 0, locals := 173 } : Room) s m ([.ref h_me, .int p0, .int p1] : List Value).toArray below meth c H locs 0 0 Qz (F0 m 68 ls [])), ∀ (v2 : Int32) (v3 : Int32) (v4 : Int32) (o_me : Ob) (H : Heap) (locs : List Loc) (ls : Array Slot), bk_X9_centuries_181  rec_68_1 v2 v3 v4 o_me = some y → Wd dC dI A s.heap [wX9 h_me q_me k_me o_me] H locs → lv_has ls 8 [(0, .ref h_me), (2, .int v2), (3, .int v3), (4, .int v4)] → W p l e ({ frames := 7, cells := 0, slots := 0, locals := 173 } : Room) s m ([.ref h_me, .int p0, .int p1] : List Value).toArray below meth c H locs 0 0 Qz (F0 m 181 ls []) := by
    intro rec_68_1 hrec_68_1
    intro v2 v3 v4 o_me H locs ls h hw hl
    unfold bk_X9_centuries_181 at h
    refine lv_aload_n hx hb dX9_centuries_181 rfl (lv_at hl 0 rfl) ?_
    obtain ⟨z17, ez17, h⟩ := z_bd h
    refine xj_i (xrV (As := []) (rest := []) ⟨hx, hb, hml, hown, hts⟩ (m_X9_passIt l dC dI _ h_me q_me k_me o_me z17 ez17) kw1684 kw1681 kw1683 kw87 kw120 hd_X9_passIt ⟨rfl, rfl⟩ rfl rfl ⟨rfl, rfl⟩ hX hK hw [0] (by decide) rfl rfl rfl rfl rfl hl.1 rfl rfl dX9_centuries_182) hw hA [0] (by decide) rfl rfl (fun H locs hw => ?_)
    have hw : Wd dC dI A s.heap [wX9 h_me q_me k_me z17.2] H locs := hw
    refine lv_pop hx hb dX9_centuries_185 rfl ?_
    obtain ⟨x18, ex18, h⟩ := z_lt h
    refine lv_iinc (v := x18) (lv' := [(4, .int x18), (0, .ref h_me), (2, .int v2), (3, .int v3)]) hx hb dX9_centuries_186 hl (k := 3) rfl ((congrArg (v4 + ·) (show Int32.ofInt 1 = (1 : Int32) from by decide)).trans ex18.symm) (by decide) rfl (fun ls hl => ?_)
    refine lv_goto (tgt := 68) hx hb dX9_centuries_189 (by decide) ?_
    exact hrec_68_1 v2 v3 x18 z17.2 _ _ _ h hw (lv_sub hl [1, 2, 3, 0] rfl)
  have bk_169_5 : ∀ (rec_68_1 : Int32 × Int32 × Int32 × Ob → Option (Int32 × Ob)) (hrec_68_1 : ∀ (v2 : Int32) (v3 : Int32) (v4 : Int32) (o_me : Ob) (H : Heap) (locs : List Loc) (ls : Array Slot), rec_68_1 (v2, v3, v4, o_me) = some y → Wd dC dI A s.heap [wX9 h_me q_me k_me o_me] H locs → lv_has ls 8 [(0, .ref h_me), (2, .int v2), (3, .int v3), (4, .int v4)] → W p l e ({ frames := 7, cells := 0, slots := 0, locals := 173 } : Room) s m ([.ref h_me, .int p0, .int p1] : List Value).toArray below meth c H locs 0 0 Qz (F0 m 68 ls [])), ∀ (v2 : Int32) (v3 : Int32) (v4 : Int32) (v5 : Int32) (v7 : Int32) (o_me : Ob) (H : Heap) (locs : List Loc) (ls : Array Slot), bk_X9_centuries_169  rec_68_1 v2 v3 v4 v5 v7 o_me = some y → Wd dC dI A s.heap [wX9 h_me q_me k_me o_me] H locs → lv_has ls 8 [(0, .ref h_me), (2, .int v2), (3, .int v3), (4, .int v4), (5, .int v5), (7, .int v7)] → W p l e ({ frames := 7, cells := 0, slots := 0, locals := 173 } : Room) s m ([.ref h_me, .int p0, .int p1] : List Value).toArray below meth c H locs 0 0 Qz (F0 m 169 ls []) := by
    intro rec_68_1 hrec_68_1
    intro v2 v3 v4 v5 v7 o_me H locs ls h hw hl
    unfold bk_X9_centuries_169 at h
    refine lv_iload hx hb dX9_centuries_169 (lv_at hl 5 rfl) ?_
    refine lv_iconst (v := 3) hx hb dX9_centuries_171 (by decide) ?_
    refine lv_icmp_ne (tgt := 181) hx hb dX9_centuries_172 (by decide) (fun c => ?_) (fun c => ?_)
    · have h := z_f h c
      exact bk_181_6 rec_68_1 hrec_68_1 v2 v3 v4 o_me _ _ _ h hw (lv_sub hl [0, 1, 2, 3] rfl)
    · have h := z_t h c
      refine lv_aload_n hx hb dX9_centuries_175 rfl (lv_at hl 0 rfl) ?_
      refine lv_iload hx hb dX9_centuries_176 (lv_at hl 4 rfl) ?_
      obtain ⟨z19, ez19, h⟩ := z_bd h
      refine xj_v (xrV (As := [.int v5]) (rest := []) ⟨hx, hb, hml, hown, hts⟩ (m_X9_takeIt l dC dI _ h_me q_me k_me o_me v5 z19 ez19) kw1672 kw1669 kw1671 kw85 kw120 hd_X9_takeIt ⟨rfl, rfl⟩ rfl rfl ⟨rfl, rfl⟩ hX hK hw [0] (by decide) rfl rfl rfl rfl rfl hl.1 rfl rfl dX9_centuries_178) hw hA [0] (by decide) rfl rfl (fun H locs hw => ?_)
      have hw : Wd dC dI A s.heap [wX9 h_me q_me k_me z19] H locs := hw
      exact bk_181_6 rec_68_1 hrec_68_1 v2 v3 v4 z19 _ _ _ h hw (lv_sub hl [0, 1, 2, 3] rfl)
  have bk_140_4 : ∀ (rec_68_1 : Int32 × Int32 × Int32 × Ob → Option (Int32 × Ob)) (hrec_68_1 : ∀ (v2 : Int32) (v3 : Int32) (v4 : Int32) (o_me : Ob) (H : Heap) (locs : List Loc) (ls : Array Slot), rec_68_1 (v2, v3, v4, o_me) = some y → Wd dC dI A s.heap [wX9 h_me q_me k_me o_me] H locs → lv_has ls 8 [(0, .ref h_me), (2, .int v2), (3, .int v3), (4, .int v4)] → W p l e ({ frames := 7, cells := 0, slots := 0, locals := 173 } : Room) s m ([.ref h_me, .int p0, .int p1] : List Value).toArray below meth c H locs 0 0 Qz (F0 m 68 ls [])), ∀ (v2 : Int32) (v3 : Int32) (v4 : Int32) (v5 : Int32) (v6 : Int32) (v7 : Int32) (o_me : Ob) (H : Heap) (locs : List Loc) (ls : Array Slot), bk_X9_centuries_140  rec_68_1 v2 v3 v4 v5 v6 v7 o_me = some y → Wd dC dI A s.heap [wX9 h_me q_me k_me o_me] H locs → lv_has ls 8 [(0, .ref h_me), (2, .int v2), (3, .int v3), (4, .int v4), (5, .int v5), (6, .int v6), (7, .int v7)] → W p l e ({ frames := 7, cells := 0, slots := 0, locals := 173 } : Room) s m ([.ref h_me, .int p0, .int p1] : List Value).toArray below meth c H locs 0 0 Qz (F0 m 140 ls []) := by
    intro rec_68_1 hrec_68_1
    intro v2 v3 v4 v5 v6 v7 o_me H locs ls h hw hl
    unfold bk_X9_centuries_140 at h
    refine lv_iload hx hb dX9_centuries_140 (lv_at hl 6 rfl) ?_
    refine lv_iconst (v := 2) hx hb dX9_centuries_142 (by decide) ?_
    refine lv_icmp_ne (tgt := 169) hx hb dX9_centuries_143 (by decide) (fun c => ?_) (fun c => ?_)
    · have h := z_f h c
      exact bk_169_5 rec_68_1 hrec_68_1 v2 v3 v4 v5 v7 o_me _ _ _ h hw (lv_sub hl [0, 1, 2, 3, 4, 6] rfl)
    · have h := z_t h c
      refine lv_aload_n hx hb dX9_centuries_146 rfl (lv_at hl 0 rfl) ?_
      refine lv_iload hx hb dX9_centuries_147 (lv_at hl 5 rfl) ?_
      obtain ⟨z20, ez20, h⟩ := z_bd h
      refine xj_v (xrV (As := [.int v6]) (rest := []) ⟨hx, hb, hml, hown, hts⟩ (m_X9_layPlaces l dC dI _ h_me q_me k_me o_me v6 z20 ez20) kw1462 kw1459 kw1461 kw50 kw120 hd_X9_layPlaces ⟨rfl, rfl⟩ rfl rfl ⟨rfl, rfl⟩ hX hK hw [0] (by decide) rfl rfl rfl rfl rfl hl.1 rfl rfl dX9_centuries_149) hw hA [0] (by decide) rfl rfl (fun H locs hw => ?_)
      have hw : Wd dC dI A s.heap [wX9 h_me q_me k_me z20] H locs := hw
      refine lv_aload_n hx hb dX9_centuries_152 rfl (lv_at hl 0 rfl) ?_
      refine fgX9_43 hx hb hts hown hK hw 0 rfl kw1219 dX9_centuries_153 ?_
      refine lv_if_le (tgt := 169) hx hb dX9_centuries_156 (by decide) (fun c => ?_) (fun c => ?_)
      · have h := z_t h c
        exact bk_169_5 rec_68_1 hrec_68_1 v2 v3 v4 v5 v7 z20 _ _ _ h hw (lv_sub hl [0, 1, 2, 3, 4, 6] rfl)
      · have h := z_f h c
        refine lv_aload_n hx hb dX9_centuries_159 rfl (lv_at hl 0 rfl) ?_
        refine lv_iload hx hb dX9_centuries_160 (lv_at hl 5 rfl) ?_
        obtain ⟨z21, ez21, h⟩ := z_bd h
        refine xj_i (xrV (As := [.int v6]) (rest := []) ⟨hx, hb, hml, hown, hts⟩ (m_X9_raceIt l dC dI _ h_me q_me k_me z20 v6 z21 ez21) kw1643 kw1640 kw1642 kw80 kw120 hd_X9_raceIt ⟨rfl, rfl⟩ rfl rfl ⟨rfl, rfl⟩ hX hK hw [0] (by decide) rfl rfl rfl rfl rfl hl.1 rfl rfl dX9_centuries_162) hw hA [0] (by decide) rfl rfl (fun H locs hw => ?_)
        have hw : Wd dC dI A s.heap [wX9 h_me q_me k_me z21.2] H locs := hw
        refine lv_pop hx hb dX9_centuries_165 rfl ?_
        obtain ⟨x22, ex22, h⟩ := z_lt h
        refine lv_iinc (v := x22) (lv' := [(3, .int x22), (0, .ref h_me), (2, .int v2), (4, .int v4), (5, .int v5), (6, .int v6), (7, .int v7)]) hx hb dX9_centuries_166 hl (k := 2) rfl ((congrArg (v3 + ·) (show Int32.ofInt 1 = (1 : Int32) from by decide)).trans ex22.symm) (by decide) rfl (fun ls hl => ?_)
        exact bk_169_5 rec_68_1 hrec_68_1 v2 x22 v4 v5 v7 z21.2 _ _ _ h hw (lv_sub hl [1, 2, 0, 3, 4, 6] rfl)
  have lp_68_1 : ∀ (N : Nat), ∀ (v2 : Int32) (v3 : Int32) (v4 : Int32) (o_me : Ob) (H : Heap) (locs : List Loc) (ls : Array Slot), lp_X9_centuries_68   N (v2, v3, v4, o_me) = some y → Wd dC dI A s.heap [wX9 h_me q_me k_me o_me] H locs → lv_has ls 8 [(0, .ref h_me), (2, .int v2), (3, .int v3), (4, .int v4)] → W p l e ({ frames := 7, cells := 0, slots := 0, locals := 173 } : Room) s m ([.ref h_me, .int p0, .int p1] : List Value).toArray below meth c H locs 0 0 Qz (F0 m 68 ls []) := by
    intro N
    induction N with
    | zero =>
      intro v2 v3 v4 o_me H locs ls h hw hl
      exact absurd (show (none : Option (Int32 × Ob)) = some y from h) (by simp)
    | succ N ih =>
      intro v2 v3 v4 o_me H locs ls h hw hl
      have h : lb_X9_centuries_68   (lp_X9_centuries_68   N) v2 v3 v4 o_me = some y := h
      unfold lb_X9_centuries_68 at h
      refine lv_iload hx hb dX9_centuries_68 (lv_at hl 3 rfl) ?_
      refine lv_iload_n hx hb dX9_centuries_70 rfl (lv_at hl 1 rfl) ?_
      refine lv_icmp_ge (tgt := 192) hx hb dX9_centuries_71 (by decide) (fun c => ?_) (fun c => ?_)
      · have h := z_t h c
        exact bk_192_2  v3 o_me _ _ _ h hw (lv_sub hl [0, 2] rfl)
      · have h := z_f h c
        refine lv_aload_n hx hb dX9_centuries_74 rfl (lv_at hl 0 rfl) ?_
        refine fgX9_3 hx hb hts hown hK hw 0 rfl kw1179 dX9_centuries_75 ?_
        refine lv_iconst (v := 4) hx hb dX9_centuries_78 (by decide) ?_
        refine faX9_3 hx hb hK hw 0 rfl rfl (by decide) dX9_centuries_79 ?_
        refine lv_sipush (v := 999) hx hb dX9_centuries_80 (by decide) ?_
        refine lv_icmp_ge (tgt := 192) hx hb dX9_centuries_83 (by decide) (fun c => ?_) (fun c => ?_)
        · have h := z_t h c
          exact bk_192_2  v3 o_me _ _ _ h hw (lv_sub hl [0, 2] rfl)
        · have h := z_f h c
          refine lv_aload_n hx hb dX9_centuries_86 rfl (lv_at hl 0 rfl) ?_
          refine lv_aload_n hx hb dX9_centuries_87 rfl (lv_at hl 0 rfl) ?_
          refine fgX9_3 hx hb hts hown hK hw 0 rfl kw1179 dX9_centuries_88 ?_
          refine lv_iconst (v := 0) hx hb dX9_centuries_91 (by decide) ?_
          refine faX9_3 hx hb hK hw 0 rfl rfl (by decide) dX9_centuries_92 ?_
          obtain ⟨z14, ez14, h⟩ := z_bd h
          refine xj_i (xrV (As := [.int (gA o_me 3 (0 : Int32).toNatClampNeg)]) (rest := []) ⟨hx, hb, hml, hown, hts⟩ (m_X9_draw l dC dI _ h_me q_me k_me o_me (gA o_me 3 (0 : Int32).toNatClampNeg) z14 ez14) kw1844 kw1841 kw1843 kw108 kw120 hd_X9_draw ⟨rfl, rfl⟩ rfl rfl ⟨rfl, rfl⟩ hX hK hw [0] (by decide) rfl rfl rfl rfl rfl hl.1 rfl rfl dX9_centuries_93) hw hA [0] (by decide) rfl rfl (fun H locs hw => ?_)
          have hw : Wd dC dI A s.heap [wX9 h_me q_me k_me z14.2] H locs := hw
          refine lv_istore (lv' := [(5, .int z14.1), (0, .ref h_me), (2, .int v2), (3, .int v3), (4, .int v4)]) hx hb dX9_centuries_96 hl (by decide) rfl (fun ls hl => ?_)
          refine lv_aload_n hx hb dX9_centuries_98 rfl (lv_at hl 1 rfl) ?_
          refine lv_iconst (v := 4) hx hb dX9_centuries_99 (by decide) ?_
          obtain ⟨z15, ez15, h⟩ := z_bd h
          refine xj_i (xrV (As := [.int (4 : Int32)]) (rest := []) ⟨hx, hb, hml, hown, hts⟩ (m_X9_draw l dC dI _ h_me q_me k_me z14.2 (4 : Int32) z15 ez15) kw1844 kw1841 kw1843 kw108 kw120 hd_X9_draw ⟨rfl, rfl⟩ rfl rfl ⟨rfl, rfl⟩ hX hK hw [0] (by decide) rfl rfl rfl rfl rfl hl.1 rfl rfl dX9_centuries_100) hw hA [0] (by decide) rfl rfl (fun H locs hw => ?_)
          have hw : Wd dC dI A s.heap [wX9 h_me q_me k_me z15.2] H locs := hw
          refine lv_istore (lv' := [(6, .int z15.1), (5, .int z14.1), (0, .ref h_me), (2, .int v2), (3, .int v3), (4, .int v4)]) hx hb dX9_centuries_103 hl (by decide) rfl (fun ls hl => ?_)
          refine lv_aload_n hx hb dX9_centuries_105 rfl (lv_at hl 2 rfl) ?_
          refine lv_iconst (v := 4) hx hb dX9_centuries_106 (by decide) ?_
          obtain ⟨z16, ez16, h⟩ := z_bd h
          refine xj_i (xrV (As := [.int (4 : Int32)]) (rest := []) ⟨hx, hb, hml, hown, hts⟩ (m_X9_draw l dC dI _ h_me q_me k_me z15.2 (4 : Int32) z16 ez16) kw1844 kw1841 kw1843 kw108 kw120 hd_X9_draw ⟨rfl, rfl⟩ rfl rfl ⟨rfl, rfl⟩ hX hK hw [0] (by decide) rfl rfl rfl rfl rfl hl.1 rfl rfl dX9_centuries_107) hw hA [0] (by decide) rfl rfl (fun H locs hw => ?_)
          have hw : Wd dC dI A s.heap [wX9 h_me q_me k_me z16.2] H locs := hw
          refine lv_istore (lv' := [(7, .int z16.1), (6, .int z15.1), (5, .int z14.1), (0, .ref h_me), (2, .int v2), (3, .int v3), (4, .int v4)]) hx hb dX9_centuries_110 hl (by decide) rfl (fun ls hl => ?_)
          refine lv_iload hx hb dX9_centuries_112 (lv_at hl 0 rfl) ?_
          refine lv_iconst (v := 2) hx hb dX9_centuries_114 (by decide) ?_
          refine lv_icmp_ge (tgt := 140) hx hb dX9_centuries_115 (by decide) (fun c => ?_) (fun c => ?_)
          · have h := z_t h c
            exact bk_140_4 (lp_X9_centuries_68   N) ih v2 v3 v4 z14.1 z15.1 z16.1 z16.2 _ _ _ h hw (lv_sub hl [3, 4, 5, 6, 2, 1, 0] rfl)
          · have h := z_f h c
            refine lv_aload_n hx hb dX9_centuries_118 rfl (lv_at hl 3 rfl) ?_
            refine fgX9_3 hx hb hts hown hK hw 0 rfl kw1179 dX9_centuries_119 ?_
            refine lv_bipush (v := 22) hx hb dX9_centuries_122 (by decide) ?_
            refine lv_iload hx hb dX9_centuries_124 (lv_at hl 2 rfl) ?_
            refine lv_iadd hx hb dX9_centuries_126 ?_
            refine lv_iconst (v := 1) hx hb dX9_centuries_127 (by decide) ?_
            refine lv_aload_n hx hb dX9_centuries_128 rfl (lv_at hl 3 rfl) ?_
            refine fgX9_3 hx hb hts hown hK hw 0 rfl kw1179 dX9_centuries_129 ?_
            refine lv_bipush (v := 22) hx hb dX9_centuries_132 (by decide) ?_
            refine lv_iload hx hb dX9_centuries_134 (lv_at hl 2 rfl) ?_
            refine lv_iadd hx hb dX9_centuries_136 ?_
            obtain ⟨g23, h⟩ := z_gd h
            refine faX9_3 hx hb hK hw 0 rfl rfl g23 dX9_centuries_137 ?_
            refine lv_isub hx hb dX9_centuries_138 ?_
            obtain ⟨g24, h⟩ := z_gd h
            refine fbX9_3 hx hb hK hw 0 rfl rfl g24 dX9_centuries_139 (fun H locs hw => ?_)
            obtain ⟨o25, eo25, h⟩ := z_lt h
            have hw : Wd dC dI A s.heap [wX9 h_me q_me k_me o25] H locs := by rw [eo25]; exact hw
            exact bk_140_4 (lp_X9_centuries_68   N) ih v2 v3 v4 z14.1 z15.1 z16.1 o25 _ _ _ h hw (lv_sub hl [3, 4, 5, 6, 2, 1, 0] rfl)
  unfold f_X9_centuries at h
  refine lv_aload_n hx hb dX9_centuries_0 rfl (lv_at hl 0 rfl) ?_
  refine lv_iconst (v := 0) hx hb dX9_centuries_1 (by decide) ?_
  refine fpX9_0 hx hb hts hown hK hw 0 rfl kw1176 dX9_centuries_2 (fun H locs hw => ?_)
  obtain ⟨o1, eo1, h⟩ := z_lt h
  have hw : Wd dC dI A s.heap [wX9 h_me q_me k_me o1] H locs := by rw [eo1]; exact hw
  refine lv_iload_n hx hb dX9_centuries_5 rfl (lv_at hl 1 rfl) ?_
  refine lv_i2l hx hb dX9_centuries_6 rfl ?_
  refine lv_lconst (v := 0) hx hb dX9_centuries_7 (by decide) ?_
  refine lv_ldc2 (v := 1000000) hx hb hown (hts _ kw1521) dX9_centuries_8 ?_
  obtain ⟨z2, ez2, h⟩ := z_bd h
  refine xj_i (xrS (As := [.long p0.toInt64, .long (0 : Int64), .long (1000000 : Int64)]) (rest := []) ⟨hx, hb, hml, hown, hts⟩ (m_X9_in l dC dI _  p0.toInt64 (0 : Int64) (1000000 : Int64) z2 ez2) kw1385 kw1383 kw1384 kw120 hd_X9_in ⟨rfl, rfl⟩ rfl rfl ⟨rfl, rfl⟩ hX hK hw [] (by decide) rfl rfl hl.1 rfl rfl dX9_centuries_11) hw hA [] (by decide) rfl rfl (fun H locs hw => ?_)
  refine lv_if_eq (tgt := 29) hx hb dX9_centuries_14 (by decide) (fun c => ?_) (fun c => ?_)
  · have h := z_t h c
    exact bk_29_0  o1 _ _ _ h hw (lv_sub hl [0] rfl)
  · have h := z_f h c
    refine lv_iload_n hx hb dX9_centuries_17 rfl (lv_at hl 2 rfl) ?_
    refine lv_i2l hx hb dX9_centuries_18 rfl ?_
    refine lv_lconst (v := 1) hx hb dX9_centuries_19 (by decide) ?_
    refine lv_ldc2 (v := 60) hx hb hown (hts _ kw1780) dX9_centuries_20 ?_
    obtain ⟨z4, ez4, h⟩ := z_bd h
    refine xj_i (xrS (As := [.long p1.toInt64, .long (1 : Int64), .long (60 : Int64)]) (rest := []) ⟨hx, hb, hml, hown, hts⟩ (m_X9_in l dC dI _  p1.toInt64 (1 : Int64) (60 : Int64) z4 ez4) kw1385 kw1383 kw1384 kw120 hd_X9_in ⟨rfl, rfl⟩ rfl rfl ⟨rfl, rfl⟩ hX hK hw [] (by decide) rfl rfl hl.1 rfl rfl dX9_centuries_23) hw hA [] (by decide) rfl rfl (fun H locs hw => ?_)
    refine lv_if_ne (tgt := 35) hx hb dX9_centuries_26 (by decide) (fun c => ?_) (fun c => ?_)
    · have h := z_f h c
      refine lv_aload_n hx hb dX9_centuries_35 rfl (lv_at hl 0 rfl) ?_
      refine fgX9_3 hx hb hts hown hK hw 0 rfl kw1179 dX9_centuries_36 ?_
      refine lv_iconst (v := 0) hx hb dX9_centuries_39 (by decide) ?_
      refine faX9_3 hx hb hK hw 0 rfl rfl (by decide) dX9_centuries_40 ?_
      refine lv_if_ne (tgt := 51) hx hb dX9_centuries_41 (by decide) (fun c => ?_) (fun c => ?_)
      · have h := z_f h c
        refine lv_aload_n hx hb dX9_centuries_51 rfl (lv_at hl 0 rfl) ?_
        refine lv_bipush (v := 16) hx hb dX9_centuries_52 (by decide) ?_
        obtain ⟨z5, ez5, h⟩ := z_bd h
        refine xj_v (xrV (As := [.int (16 : Int32)]) (rest := []) ⟨hx, hb, hml, hown, hts⟩ (m_X9_keepAll l dC dI _ h_me q_me k_me o1 (16 : Int32) z5 ez5) kw1639 kw1636 kw1638 kw79 kw120 hd_X9_keepAll ⟨rfl, rfl⟩ rfl rfl ⟨rfl, rfl⟩ hX hK hw [0] (by decide) rfl rfl rfl rfl rfl hl.1 rfl rfl dX9_centuries_54) hw hA [0] (by decide) rfl rfl (fun H locs hw => ?_)
        have hw : Wd dC dI A s.heap [wX9 h_me q_me k_me z5] H locs := hw
        refine lv_aload_n hx hb dX9_centuries_57 rfl (lv_at hl 0 rfl) ?_
        refine lv_iload_n hx hb dX9_centuries_58 rfl (lv_at hl 1 rfl) ?_
        refine lv_i2l hx hb dX9_centuries_59 rfl ?_
        refine fpX9_60 hx hb hts hown hK hw 0 rfl kw1236 dX9_centuries_60 (fun H locs hw => ?_)
        obtain ⟨o6, eo6, h⟩ := z_lt h
        have hw : Wd dC dI A s.heap [wX9 h_me q_me k_me o6] H locs := by rw [eo6]; exact hw
        refine lv_iconst (v := 0) hx hb dX9_centuries_63 (by decide) ?_
        refine lv_istore_n (lv' := [(3, .int (0 : Int32)), (0, .ref h_me), (1, .int p0), (2, .int p1)]) hx hb dX9_centuries_64 rfl hl (by decide) rfl (fun ls hl => ?_)
        refine lv_iconst (v := 0) hx hb dX9_centuries_65 (by decide) ?_
        refine lv_istore (lv' := [(4, .int (0 : Int32)), (3, .int (0 : Int32)), (0, .ref h_me), (1, .int p0), (2, .int p1)]) hx hb dX9_centuries_66 hl (by decide) rfl (fun ls hl => ?_)
        exact lp_68_1  zfu p1 (0 : Int32) (0 : Int32) o6 _ _ _ h hw (lv_sub hl [2, 4, 1, 0] rfl)
      · have h := z_t h c
        refine lv_aload_n hx hb dX9_centuries_44 rfl (lv_at hl 0 rfl) ?_
        refine lv_bipush (v := (-3)) hx hb dX9_centuries_45 (by decide) ?_
        obtain ⟨z26, ez26, h⟩ := z_bd h
        refine xj_i (xrV (As := [.int (-3 : Int32)]) (rest := []) ⟨hx, hb, hml, hown, hts⟩ (m_X9_tell l dC dI _ h_me q_me k_me o1 (-3 : Int32) z26 ez26) kw1374 kw1371 kw1373 kw39 kw120 hd_X9_tell ⟨rfl, rfl⟩ rfl rfl ⟨rfl, rfl⟩ hX hK hw [0] (by decide) rfl rfl rfl rfl rfl hl.1 rfl rfl dX9_centuries_47) hw hA [0] (by decide) rfl rfl (fun H locs hw => ?_)
        have hw : Wd dC dI A s.heap [wX9 h_me q_me k_me z26.2] H locs := hw
        have hy := Option.some.inj h
        rw [← hQz, ← hy]
        exact xr_i (v := z26.1) hx hb hr rfl hlk hK hw dX9_centuries_50
    · have h := z_t h c
      exact bk_29_0  o1 _ _ _ h hw (lv_sub hl [0] rfl)

def f_X9_change (o_me : Ob) (p0 : Int32) (p1 : Int32) : Option (Int32 × Ob) :=
  zgd (zin p0 5484) <|
  zlt (gA o_me 3 p0.toNatClampNeg) fun x2 =>
  zgd (zin p0 5484) <|
  zlt (tA o_me 3 p0.toNatClampNeg p1) fun o4 =>
  zlt (sI o4 1 (0 : Int32)) fun o5 =>
  some (x2, o5)
set_option maxHeartbeats 4000000 in
set_option maxRecDepth 100000 in
theorem m_X9_change (l : Launch) (dC : Nat → ClassId) (dI : Nat → Nat → Nat) (sz : Nat) (h_me : Nat) (q_me : Nat → Nat) (k_me : Nat → ClassId) (o_me : Ob) (p0 : Int32) (p1 : Int32) (y : Int32 × Ob) (h : f_X9_change o_me p0 p1 = some y) : CI l yX9_change cX9_change 4 (some .int) ({ frames := 0, cells := 0, slots := 0, locals := 0 } : Room) dC dI sz [.ref h_me, .int p0, .int p1] [wX9 h_me q_me k_me o_me] [tX9 k_me] y.1 [wX9 h_me q_me k_me y.2] := by
  refine CC_of (by decide) (Nat.le_of_ble_eq_true rfl) ?_
  intro p e s m below meth c A ls hx hb hml hr hlk hnm hown hts hX hK hP hD hA hl
  have hl : lv_has ls 4 [(0, .ref h_me), (1, .int p0), (2, .int p1)] := hl
  have hown : s.vm.findClass RX9 = some m.cls := hown
  have hw : Wd dC dI A s.heap [wX9 h_me q_me k_me o_me] s.heap [] := ⟨hP, hD, va_S.rf⟩
  generalize hQz : (MQ below (QI dC dI (fun r (_ : Unit) => r = y.1) (fun _ => Jn [wX9 h_me q_me k_me y.2]) (fun _ => Jt [tX9 k_me]) A) ([.ref h_me, .int p0, .int p1] : List Value).toArray s 0 0 A) = Qz
  clear hP hD hnm
  unfold f_X9_change at h
  refine lv_aload_n hx hb dX9_change_0 rfl (lv_at hl 0 rfl) ?_
  refine fgX9_3 hx hb hts hown hK hw 0 rfl kw1179 dX9_change_1 ?_
  refine lv_iload_n hx hb dX9_change_4 rfl (lv_at hl 1 rfl) ?_
  obtain ⟨g1, h⟩ := z_gd h
  refine faX9_3 hx hb hK hw 0 rfl rfl g1 dX9_change_5 ?_
  obtain ⟨x2, ex2, h⟩ := z_lt h
  refine lv_fi (v := x2) ex2.symm ?_
  refine lv_istore_n (lv' := [(3, .int x2), (0, .ref h_me), (1, .int p0), (2, .int p1)]) hx hb dX9_change_6 rfl hl (by decide) rfl (fun ls hl => ?_)
  refine lv_aload_n hx hb dX9_change_7 rfl (lv_at hl 1 rfl) ?_
  refine fgX9_3 hx hb hts hown hK hw 0 rfl kw1179 dX9_change_8 ?_
  refine lv_iload_n hx hb dX9_change_11 rfl (lv_at hl 2 rfl) ?_
  refine lv_iload_n hx hb dX9_change_12 rfl (lv_at hl 3 rfl) ?_
  obtain ⟨g3, h⟩ := z_gd h
  refine fbX9_3 hx hb hK hw 0 rfl rfl g3 dX9_change_13 (fun H locs hw => ?_)
  obtain ⟨o4, eo4, h⟩ := z_lt h
  have hw : Wd dC dI A s.heap [wX9 h_me q_me k_me o4] H locs := by rw [eo4]; exact hw
  refine lv_aload_n hx hb dX9_change_14 rfl (lv_at hl 1 rfl) ?_
  refine lv_iconst (v := 0) hx hb dX9_change_15 (by decide) ?_
  refine fpX9_1 hx hb hts hown hK hw 0 rfl kw1177 dX9_change_16 (fun H locs hw => ?_)
  obtain ⟨o5, eo5, h⟩ := z_lt h
  have hw : Wd dC dI A s.heap [wX9 h_me q_me k_me o5] H locs := by rw [eo5]; exact hw
  refine lv_iload_n hx hb dX9_change_19 rfl (lv_at hl 0 rfl) ?_
  have hy := Option.some.inj h
  rw [← hQz, ← hy]
  exact xr_i (v := x2) hx hb hr rfl hlk hK hw dX9_change_20

def bk_X9_circles_111  (rec_9_0 : Int32 × Int32 × Ob → Option (Int32 × Ob)) (rec_23_1 : Int32 × Int32 × Int32 × Ob → Option (Int32 × Ob)) (rec_38_2 : Int32 × Int32 × Int32 × Int32 × Ob → Option (Int32 × Ob)) (v2 : Int32) (v3 : Int32) (v4 : Int32) (s0 : Int32) (s1 : Int32) (o_me : Ob) : Option (Int32 × Ob) :=
  zlt (s1 + s0) fun x6 =>
  zlt (v4 + (1 : Int32)) fun x7 =>
  rec_38_2 (x6, v2, v3, x7, o_me)
def bk_X9_circles_110  (rec_9_0 : Int32 × Int32 × Ob → Option (Int32 × Ob)) (rec_23_1 : Int32 × Int32 × Int32 × Ob → Option (Int32 × Ob)) (rec_38_2 : Int32 × Int32 × Int32 × Int32 × Ob → Option (Int32 × Ob)) (v2 : Int32) (v3 : Int32) (v4 : Int32) (s0 : Int32) (o_me : Ob) : Option (Int32 × Ob) :=
  bk_X9_circles_111  rec_9_0 rec_23_1 rec_38_2 v2 v3 v4 (0 : Int32) s0 o_me
def lb_X9_circles_38  (rec_9_0 : Int32 × Int32 × Ob → Option (Int32 × Ob)) (rec_23_1 : Int32 × Int32 × Int32 × Ob → Option (Int32 × Ob)) (rec_38_2 : Int32 × Int32 × Int32 × Int32 × Ob → Option (Int32 × Ob)) (v1 : Int32) (v2 : Int32) (v3 : Int32) (v4 : Int32) (o_me : Ob) : Option (Int32 × Ob) :=
  if (gA o_me 3 (0 : Int32).toNatClampNeg) ≤ v4 then
  (zlt (v3 + (1 : Int32)) fun x5 =>
  rec_23_1 (v1, v2, x5, o_me))
  else
  (if v3 = v4 then
  (bk_X9_circles_110  rec_9_0 rec_23_1 rec_38_2 v2 v3 v4 v1 o_me)
  else
  (zgd (zin ((64 : Int32) + v2) 5484) <|
  (f_X9_is (gA o_me 3 ((64 : Int32) + v2).toNatClampNeg) v3).bind fun z9 =>
  if z9 = (0 : Int32) then
  (bk_X9_circles_110  rec_9_0 rec_23_1 rec_38_2 v2 v3 v4 v1 o_me)
  else
  (zgd (zin ((64 : Int32) + v3) 5484) <|
  (f_X9_is (gA o_me 3 ((64 : Int32) + v3).toNatClampNeg) v4).bind fun z11 =>
  if z11 = (0 : Int32) then
  (bk_X9_circles_110  rec_9_0 rec_23_1 rec_38_2 v2 v3 v4 v1 o_me)
  else
  (zgd (zin ((64 : Int32) + v4) 5484) <|
  (f_X9_is (gA o_me 3 ((64 : Int32) + v4).toNatClampNeg) v2).bind fun z13 =>
  if z13 = (0 : Int32) then
  (bk_X9_circles_110  rec_9_0 rec_23_1 rec_38_2 v2 v3 v4 v1 o_me)
  else
  (bk_X9_circles_111  rec_9_0 rec_23_1 rec_38_2 v2 v3 v4 (1 : Int32) v1 o_me)))))
def lp_X9_circles_38  (rec_9_0 : Int32 × Int32 × Ob → Option (Int32 × Ob)) (rec_23_1 : Int32 × Int32 × Int32 × Ob → Option (Int32 × Ob)) : Nat → (Int32 × Int32 × Int32 × Int32 × Ob) → Option (Int32 × Ob) := zit (fun rec a => lb_X9_circles_38  rec_9_0 rec_23_1 rec a.1 a.2.1 a.2.2.1 a.2.2.2.1 a.2.2.2.2)
def lb_X9_circles_23  (rec_9_0 : Int32 × Int32 × Ob → Option (Int32 × Ob)) (rec_23_1 : Int32 × Int32 × Int32 × Ob → Option (Int32 × Ob)) (v1 : Int32) (v2 : Int32) (v3 : Int32) (o_me : Ob) : Option (Int32 × Ob) :=
  if (gA o_me 3 (0 : Int32).toNatClampNeg) ≤ v3 then
  (zlt (v2 + (1 : Int32)) fun x3 =>
  rec_9_0 (v1, x3, o_me))
  else
  (zlt (v2 + (1 : Int32)) fun x4 =>
  lp_X9_circles_38  rec_9_0 rec_23_1 zfu (v1, v2, v3, x4, o_me))
def lp_X9_circles_23  (rec_9_0 : Int32 × Int32 × Ob → Option (Int32 × Ob)) : Nat → (Int32 × Int32 × Int32 × Ob) → Option (Int32 × Ob) := zit (fun rec a => lb_X9_circles_23  rec_9_0 rec a.1 a.2.1 a.2.2.1 a.2.2.2)
def lb_X9_circles_9   (rec_9_0 : Int32 × Int32 × Ob → Option (Int32 × Ob)) (v1 : Int32) (v2 : Int32) (o_me : Ob) : Option (Int32 × Ob) :=
  if (gA o_me 3 (0 : Int32).toNatClampNeg) ≤ v2 then
  (some (v1, o_me))
  else
  (zlt (v2 + (1 : Int32)) fun x2 =>
  lp_X9_circles_23  rec_9_0 zfu (v1, v2, x2, o_me))
def lp_X9_circles_9   : Nat → (Int32 × Int32 × Ob) → Option (Int32 × Ob) := zit (fun rec a => lb_X9_circles_9   rec a.1 a.2.1 a.2.2)
def f_X9_circles (o_me : Ob) : Option (Int32 × Ob) :=
  zlt (sI o_me 0 (0 : Int32)) fun o1 =>
  lp_X9_circles_9   zfu ((0 : Int32), (0 : Int32), o1)
set_option maxHeartbeats 4000000 in
set_option maxRecDepth 100000 in
theorem m_X9_circles (l : Launch) (dC : Nat → ClassId) (dI : Nat → Nat → Nat) (sz : Nat) (h_me : Nat) (q_me : Nat → Nat) (k_me : Nat → ClassId) (o_me : Ob) (y : Int32 × Ob) (h : f_X9_circles o_me = some y) : CI l yX9_circles cX9_circles 5 (some .int) ({ frames := 1, cells := 0, slots := 0, locals := 21 } : Room) dC dI sz [.ref h_me] [wX9 h_me q_me k_me o_me] [tX9 k_me] y.1 [wX9 h_me q_me k_me y.2] := by
  refine CC_of (by decide) (Nat.le_of_ble_eq_true rfl) ?_
  intro p e s m below meth c A ls hx hb hml hr hlk hnm hown hts hX hK hP hD hA hl
  have hl : lv_has ls 5 [(0, .ref h_me)] := hl
  have hown : s.vm.findClass RX9 = some m.cls := hown
  have hw : Wd dC dI A s.heap [wX9 h_me q_me k_me o_me] s.heap [] := ⟨hP, hD, va_S.rf⟩
  generalize hQz : (MQ below (QI dC dI (fun r (_ : Unit) => r = y.1) (fun _ => Jn [wX9 h_me q_me k_me y.2]) (fun _ => Jt [tX9 k_me]) A) ([.ref h_me] : List Value).toArray s 0 0 A) = Qz
  clear hP hD hnm
  have bk_111_4 : ∀ (rec_9_0 : Int32 × Int32 × Ob → Option (Int32 × Ob)) (hrec_9_0 : ∀ (v1 : Int32) (v2 : Int32) (o_me : Ob) (H : Heap) (locs : List Loc) (ls : Array Slot), rec_9_0 (v1, v2, o_me) = some y → Wd dC dI A s.heap [wX9 h_me q_me k_me o_me] H locs → lv_has ls 5 [(0, .ref h_me), (1, .int v1), (2, .int v2)] → W p l e ({ frames := 1, cells := 0, slots := 0, locals := 21 } : Room) s m ([.ref h_me] : List Value).toArray below meth c H locs 0 0 Qz (F0 m 9 ls [])) (rec_23_1 : Int32 × Int32 × Int32 × Ob → Option (Int32 × Ob)) (hrec_23_1 : ∀ (v1 : Int32) (v2 : Int32) (v3 : Int32) (o_me : Ob) (H : Heap) (locs : List Loc) (ls : Array Slot), rec_23_1 (v1, v2, v3, o_me) = some y → Wd dC dI A s.heap [wX9 h_me q_me k_me o_me] H locs → lv_has ls 5 [(0, .ref h_me), (1, .int v1), (2, .int v2), (3, .int v3)] → W p l e ({ frames := 1, cells := 0, slots := 0, locals := 21 } : Room) s m ([.ref h_me] : List Value).toArray below meth c H locs 0 0 Qz (F0 m 23 ls [])) (rec_38_2 : Int32 × Int32 × Int32 × Int32 × Ob → Option (Int32 × Ob)) (hrec_38_2 : ∀ (v1 : Int32) (v2 : Int32) (v3 : Int32) (v4 : Int32) (o_me : Ob) (H : Heap) (locs : List Loc) (ls : Array Slot), rec_38_2 (v1, v2, v3, v4, o_me) = some y → Wd dC dI A s.heap [wX9 h_me q_me k_me o_me] H locs → lv_has ls 5 [(0, .ref h_me), (1, .int v1), (2, .int v2), (3, .int v3), (4, .int v4)] → W p l e ({ frames := 1, cells := 0, slots := 0, locals := 21 } : Room) s m ([.ref h_me] : List Value).toArray below meth c H locs 0 0 Qz (F0 m 38 ls [])), ∀ (v2 : Int32) (v3 : Int32) (v4 : Int32) (s0 : Int32) (s1 : Int32) (o_me : Ob) (H : Heap) (locs : List Loc) (ls : Array Slot), bk_X9_circles_111  rec_9_0 rec_23_1 rec_38_2 v2 v3 v4 s0 s1 o_me = some y → Wd dC dI A s.heap [wX9 h_me q_me k_me o_me] H locs → lv_has ls 5 [(0, .ref h_me), (2, .int v2), (3, .int v3), (4, .int v4)] → W p l e ({ frames := 1, cells := 0, slots := 0, locals := 21 } : Room) s m ([.ref h_me] : List Value).toArray below meth c H locs 0 0 Qz (F0 m 111 ls [.int s0, .int s1]) := by
    intro rec_9_0 hrec_9_0 rec_23_1 hrec_23_1 rec_38_2 hrec_38_2
    intro v2 v3 v4 s0 s1 o_me H locs ls h hw hl
    unfold bk_X9_circles_111 at h
    refine lv_iadd hx hb dX9_circles_111 ?_
    obtain ⟨x6, ex6, h⟩ := z_lt h
    refine lv_fi (v := x6) ex6.symm ?_
    refine lv_istore_n (lv' := [(1, .int x6), (0, .ref h_me), (2, .int v2), (3, .int v3), (4, .int v4)]) hx hb dX9_circles_112 rfl hl (by decide) rfl (fun ls hl => ?_)
    obtain ⟨x7, ex7, h⟩ := z_lt h
    refine lv_iinc (v := x7) (lv' := [(4, .int x7), (1, .int x6), (0, .ref h_me), (2, .int v2), (3, .int v3)]) hx hb dX9_circles_113 hl (k := 4) rfl ((congrArg (v4 + ·) (show Int32.ofInt 1 = (1 : Int32) from by decide)).trans ex7.symm) (by decide) rfl (fun ls hl => ?_)
    refine lv_goto (tgt := 38) hx hb dX9_circles_116 (by decide) ?_
    exact hrec_38_2 x6 v2 v3 x7 o_me _ _ _ h hw (lv_sub hl [2, 1, 3, 4, 0] rfl)
  have bk_110_3 : ∀ (rec_9_0 : Int32 × Int32 × Ob → Option (Int32 × Ob)) (hrec_9_0 : ∀ (v1 : Int32) (v2 : Int32) (o_me : Ob) (H : Heap) (locs : List Loc) (ls : Array Slot), rec_9_0 (v1, v2, o_me) = some y → Wd dC dI A s.heap [wX9 h_me q_me k_me o_me] H locs → lv_has ls 5 [(0, .ref h_me), (1, .int v1), (2, .int v2)] → W p l e ({ frames := 1, cells := 0, slots := 0, locals := 21 } : Room) s m ([.ref h_me] : List Value).toArray below meth c H locs 0 0 Qz (F0 m 9 ls [])) (rec_23_1 : Int32 × Int32 × Int32 × Ob → Option (Int32 × Ob)) (hrec_23_1 : ∀ (v1 : Int32) (v2 : Int32) (v3 : Int32) (o_me : Ob) (H : Heap) (locs : List Loc) (ls : Array Slot), rec_23_1 (v1, v2, v3, o_me) = some y → Wd dC dI A s.heap [wX9 h_me q_me k_me o_me] H locs → lv_has ls 5 [(0, .ref h_me), (1, .int v1), (2, .int v2), (3, .int v3)] → W p l e ({ frames := 1, cells := 0, slots := 0, locals := 21 } : Room) s m ([.ref h_me] : List Value).toArray below meth c H locs 0 0 Qz (F0 m 23 ls [])) (rec_38_2 : Int32 × Int32 × Int32 × Int32 × Ob → Option (Int32 × Ob)) (hrec_38_2 : ∀ (v1 : Int32) (v2 : Int32) (v3 : Int32) (v4 : Int32) (o_me : Ob) (H : Heap) (locs : List Loc) (ls : Array Slot), rec_38_2 (v1, v2, v3, v4, o_me) = some y → Wd dC dI A s.heap [wX9 h_me q_me k_me o_me] H locs → lv_has ls 5 [(0, .ref h_me), (1, .int v1), (2, .int v2), (3, .int v3), (4, .int v4)] → W p l e ({ frames := 1, cells := 0, slots := 0, locals := 21 } : Room) s m ([.ref h_me] : List Value).toArray below meth c H locs 0 0 Qz (F0 m 38 ls [])), ∀ (v2 : Int32) (v3 : Int32) (v4 : Int32) (s0 : Int32) (o_me : Ob) (H : Heap) (locs : List Loc) (ls : Array Slot), bk_X9_circles_110  rec_9_0 rec_23_1 rec_38_2 v2 v3 v4 s0 o_me = some y → Wd dC dI A s.heap [wX9 h_me q_me k_me o_me] H locs → lv_has ls 5 [(0, .ref h_me), (2, .int v2), (3, .int v3), (4, .int v4)] → W p l e ({ frames := 1, cells := 0, slots := 0, locals := 21 } : Room) s m ([.ref h_me] : List Value).toArray below meth c H locs 0 0 Qz (F0 m 110 ls [.int s0]) := by
    intro rec_9_0 hrec_9_0 rec_23_1 hrec_23_1 rec_38_2 hrec_38_2
    intro v2 v3 v4 s0 o_me H locs ls h hw hl
    unfold bk_X9_circles_110 at h
    refine lv_iconst (v := 0) hx hb dX9_circles_110 (by decide) ?_
    exact bk_111_4 rec_9_0 hrec_9_0 rec_23_1 hrec_23_1 rec_38_2 hrec_38_2 v2 v3 v4 (0 : Int32) s0 o_me _ _ _ h hw (lv_sub hl [0, 1, 2, 3] rfl)
  have lp_38_2 : ∀ (rec_9_0 : Int32 × Int32 × Ob → Option (Int32 × Ob)) (hrec_9_0 : ∀ (v1 : Int32) (v2 : Int32) (o_me : Ob) (H : Heap) (locs : List Loc) (ls : Array Slot), rec_9_0 (v1, v2, o_me) = some y → Wd dC dI A s.heap [wX9 h_me q_me k_me o_me] H locs → lv_has ls 5 [(0, .ref h_me), (1, .int v1), (2, .int v2)] → W p l e ({ frames := 1, cells := 0, slots := 0, locals := 21 } : Room) s m ([.ref h_me] : List Value).toArray below meth c H locs 0 0 Qz (F0 m 9 ls [])) (rec_23_1 : Int32 × Int32 × Int32 × Ob → Option (Int32 × Ob)) (hrec_23_1 : ∀ (v1 : Int32) (v2 : Int32) (v3 : Int32) (o_me : Ob) (H : Heap) (locs : List Loc) (ls : Array Slot), rec_23_1 (v1, v2, v3, o_me) = some y → Wd dC dI A s.heap [wX9 h_me q_me k_me o_me] H locs → lv_has ls 5 [(0, .ref h_me), (1, .int v1), (2, .int v2), (3, .int v3)] → W p l e ({ frames := 1, cells := 0, slots := 0, locals := 21 } : Room) s m ([.ref h_me] : List Value).toArray below meth c H locs 0 0 Qz (F0 m 23 ls [])) (N : Nat), ∀ (v1 : Int32) (v2 : Int32) (v3 : Int32) (v4 : Int32) (o_me : Ob) (H : Heap) (locs : List Loc) (ls : Array Slot), lp_X9_circles_38  rec_9_0 rec_23_1 N (v1, v2, v3, v4, o_me) = some y → Wd dC dI A s.heap [wX9 h_me q_me k_me o_me] H locs → lv_has ls 5 [(0, .ref h_me), (1, .int v1), (2, .int v2), (3, .int v3), (4, .int v4)] → W p l e ({ frames := 1, cells := 0, slots := 0, locals := 21 } : Room) s m ([.ref h_me] : List Value).toArray below meth c H locs 0 0 Qz (F0 m 38 ls []) := by
    intro rec_9_0 hrec_9_0 rec_23_1 hrec_23_1
    intro N
    induction N with
    | zero =>
      intro v1 v2 v3 v4 o_me H locs ls h hw hl
      exact absurd (show (none : Option (Int32 × Ob)) = some y from h) (by simp)
    | succ N ih =>
      intro v1 v2 v3 v4 o_me H locs ls h hw hl
      have h : lb_X9_circles_38  rec_9_0 rec_23_1 (lp_X9_circles_38  rec_9_0 rec_23_1 N) v1 v2 v3 v4 o_me = some y := h
      unfold lb_X9_circles_38 at h
      refine lv_iload hx hb dX9_circles_38 (lv_at hl 4 rfl) ?_
      refine lv_aload_n hx hb dX9_circles_40 rfl (lv_at hl 0 rfl) ?_
      refine fgX9_3 hx hb hts hown hK hw 0 rfl kw1179 dX9_circles_41 ?_
      refine lv_iconst (v := 0) hx hb dX9_circles_44 (by decide) ?_
      refine faX9_3 hx hb hK hw 0 rfl rfl (by decide) dX9_circles_45 ?_
      refine lv_icmp_ge (tgt := 119) hx hb dX9_circles_46 (by decide) (fun c => ?_) (fun c => ?_)
      · have h := z_t h c
        obtain ⟨x5, ex5, h⟩ := z_lt h
        refine lv_iinc (v := x5) (lv' := [(3, .int x5), (0, .ref h_me), (1, .int v1), (2, .int v2), (4, .int v4)]) hx hb dX9_circles_119 hl (k := 3) rfl ((congrArg (v3 + ·) (show Int32.ofInt 1 = (1 : Int32) from by decide)).trans ex5.symm) (by decide) rfl (fun ls hl => ?_)
        refine lv_goto (tgt := 23) hx hb dX9_circles_122 (by decide) ?_
        exact hrec_23_1 v1 v2 x5 o_me _ _ _ h hw (lv_sub hl [1, 2, 3, 0] rfl)
      · have h := z_f h c
        refine lv_iload_n hx hb dX9_circles_49 rfl (lv_at hl 1 rfl) ?_
        refine lv_iload_n hx hb dX9_circles_50 rfl (lv_at hl 3 rfl) ?_
        refine lv_iload hx hb dX9_circles_51 (lv_at hl 4 rfl) ?_
        refine lv_icmp_eq (tgt := 110) hx hb dX9_circles_53 (by decide) (fun c => ?_) (fun c => ?_)
        · have h := z_t h c
          exact bk_110_3 rec_9_0 hrec_9_0 rec_23_1 hrec_23_1 (lp_X9_circles_38  rec_9_0 rec_23_1 N) ih v2 v3 v4 v1 o_me _ _ _ h hw (lv_sub hl [0, 2, 3, 4] rfl)
        · have h := z_f h c
          refine lv_aload_n hx hb dX9_circles_56 rfl (lv_at hl 0 rfl) ?_
          refine fgX9_3 hx hb hts hown hK hw 0 rfl kw1179 dX9_circles_57 ?_
          refine lv_bipush (v := 64) hx hb dX9_circles_60 (by decide) ?_
          refine lv_iload_n hx hb dX9_circles_62 rfl (lv_at hl 2 rfl) ?_
          refine lv_iadd hx hb dX9_circles_63 ?_
          obtain ⟨g8, h⟩ := z_gd h
          refine faX9_3 hx hb hK hw 0 rfl rfl g8 dX9_circles_64 ?_
          refine lv_iload_n hx hb dX9_circles_65 rfl (lv_at hl 3 rfl) ?_
          obtain ⟨z9, ez9, h⟩ := z_bd h
          refine xj_i (xrS (As := [.int (gA o_me 3 ((64 : Int32) + v2).toNatClampNeg), .int v3]) (rest := [.int v1]) ⟨hx, hb, hml, hown, hts⟩ (m_X9_is l dC dI _  (gA o_me 3 ((64 : Int32) + v2).toNatClampNeg) v3 z9 ez9) kw1704 kw1702 kw1703 kw120 hd_X9_is ⟨rfl, rfl⟩ rfl rfl ⟨rfl, rfl⟩ hX hK hw [] (by decide) rfl rfl hl.1 rfl rfl dX9_circles_66) hw hA [] (by decide) rfl rfl (fun H locs hw => ?_)
          refine lv_if_eq (tgt := 110) hx hb dX9_circles_69 (by decide) (fun c => ?_) (fun c => ?_)
          · have h := z_t h c
            exact bk_110_3 rec_9_0 hrec_9_0 rec_23_1 hrec_23_1 (lp_X9_circles_38  rec_9_0 rec_23_1 N) ih v2 v3 v4 v1 o_me _ _ _ h hw (lv_sub hl [0, 2, 3, 4] rfl)
          · have h := z_f h c
            refine lv_aload_n hx hb dX9_circles_72 rfl (lv_at hl 0 rfl) ?_
            refine fgX9_3 hx hb hts hown hK hw 0 rfl kw1179 dX9_circles_73 ?_
            refine lv_bipush (v := 64) hx hb dX9_circles_76 (by decide) ?_
            refine lv_iload_n hx hb dX9_circles_78 rfl (lv_at hl 3 rfl) ?_
            refine lv_iadd hx hb dX9_circles_79 ?_
            obtain ⟨g10, h⟩ := z_gd h
            refine faX9_3 hx hb hK hw 0 rfl rfl g10 dX9_circles_80 ?_
            refine lv_iload hx hb dX9_circles_81 (lv_at hl 4 rfl) ?_
            obtain ⟨z11, ez11, h⟩ := z_bd h
            refine xj_i (xrS (As := [.int (gA o_me 3 ((64 : Int32) + v3).toNatClampNeg), .int v4]) (rest := [.int v1]) ⟨hx, hb, hml, hown, hts⟩ (m_X9_is l dC dI _  (gA o_me 3 ((64 : Int32) + v3).toNatClampNeg) v4 z11 ez11) kw1704 kw1702 kw1703 kw120 hd_X9_is ⟨rfl, rfl⟩ rfl rfl ⟨rfl, rfl⟩ hX hK hw [] (by decide) rfl rfl hl.1 rfl rfl dX9_circles_83) hw hA [] (by decide) rfl rfl (fun H locs hw => ?_)
            refine lv_if_eq (tgt := 110) hx hb dX9_circles_86 (by decide) (fun c => ?_) (fun c => ?_)
            · have h := z_t h c
              exact bk_110_3 rec_9_0 hrec_9_0 rec_23_1 hrec_23_1 (lp_X9_circles_38  rec_9_0 rec_23_1 N) ih v2 v3 v4 v1 o_me _ _ _ h hw (lv_sub hl [0, 2, 3, 4] rfl)
            · have h := z_f h c
              refine lv_aload_n hx hb dX9_circles_89 rfl (lv_at hl 0 rfl) ?_
              refine fgX9_3 hx hb hts hown hK hw 0 rfl kw1179 dX9_circles_90 ?_
              refine lv_bipush (v := 64) hx hb dX9_circles_93 (by decide) ?_
              refine lv_iload hx hb dX9_circles_95 (lv_at hl 4 rfl) ?_
              refine lv_iadd hx hb dX9_circles_97 ?_
              obtain ⟨g12, h⟩ := z_gd h
              refine faX9_3 hx hb hK hw 0 rfl rfl g12 dX9_circles_98 ?_
              refine lv_iload_n hx hb dX9_circles_99 rfl (lv_at hl 2 rfl) ?_
              obtain ⟨z13, ez13, h⟩ := z_bd h
              refine xj_i (xrS (As := [.int (gA o_me 3 ((64 : Int32) + v4).toNatClampNeg), .int v2]) (rest := [.int v1]) ⟨hx, hb, hml, hown, hts⟩ (m_X9_is l dC dI _  (gA o_me 3 ((64 : Int32) + v4).toNatClampNeg) v2 z13 ez13) kw1704 kw1702 kw1703 kw120 hd_X9_is ⟨rfl, rfl⟩ rfl rfl ⟨rfl, rfl⟩ hX hK hw [] (by decide) rfl rfl hl.1 rfl rfl dX9_circles_100) hw hA [] (by decide) rfl rfl (fun H locs hw => ?_)
              refine lv_if_eq (tgt := 110) hx hb dX9_circles_103 (by decide) (fun c => ?_) (fun c => ?_)
              · have h := z_t h c
                exact bk_110_3 rec_9_0 hrec_9_0 rec_23_1 hrec_23_1 (lp_X9_circles_38  rec_9_0 rec_23_1 N) ih v2 v3 v4 v1 o_me _ _ _ h hw (lv_sub hl [0, 2, 3, 4] rfl)
              · have h := z_f h c
                refine lv_iconst (v := 1) hx hb dX9_circles_106 (by decide) ?_
                refine lv_goto (tgt := 111) hx hb dX9_circles_107 (by decide) ?_
                exact bk_111_4 rec_9_0 hrec_9_0 rec_23_1 hrec_23_1 (lp_X9_circles_38  rec_9_0 rec_23_1 N) ih v2 v3 v4 (1 : Int32) v1 o_me _ _ _ h hw (lv_sub hl [0, 2, 3, 4] rfl)
  have lp_23_1 : ∀ (rec_9_0 : Int32 × Int32 × Ob → Option (Int32 × Ob)) (hrec_9_0 : ∀ (v1 : Int32) (v2 : Int32) (o_me : Ob) (H : Heap) (locs : List Loc) (ls : Array Slot), rec_9_0 (v1, v2, o_me) = some y → Wd dC dI A s.heap [wX9 h_me q_me k_me o_me] H locs → lv_has ls 5 [(0, .ref h_me), (1, .int v1), (2, .int v2)] → W p l e ({ frames := 1, cells := 0, slots := 0, locals := 21 } : Room) s m ([.ref h_me] : List Value).toArray below meth c H locs 0 0 Qz (F0 m 9 ls [])) (N : Nat), ∀ (v1 : Int32) (v2 : Int32) (v3 : Int32) (o_me : Ob) (H : Heap) (locs : List Loc) (ls : Array Slot), lp_X9_circles_23  rec_9_0 N (v1, v2, v3, o_me) = some y → Wd dC dI A s.heap [wX9 h_me q_me k_me o_me] H locs → lv_has ls 5 [(0, .ref h_me), (1, .int v1), (2, .int v2), (3, .int v3)] → W p l e ({ frames := 1, cells := 0, slots := 0, locals := 21 } : Room) s m ([.ref h_me] : List Value).toArray below meth c H locs 0 0 Qz (F0 m 23 ls []) := by
    intro rec_9_0 hrec_9_0
    intro N
    induction N with
    | zero =>
      intro v1 v2 v3 o_me H locs ls h hw hl
      exact absurd (show (none : Option (Int32 × Ob)) = some y from h) (by simp)
    | succ N ih =>
      intro v1 v2 v3 o_me H locs ls h hw hl
      have h : lb_X9_circles_23  rec_9_0 (lp_X9_circles_23  rec_9_0 N) v1 v2 v3 o_me = some y := h
      unfold lb_X9_circles_23 at h
      refine lv_iload_n hx hb dX9_circles_23 rfl (lv_at hl 3 rfl) ?_
      refine lv_aload_n hx hb dX9_circles_24 rfl (lv_at hl 0 rfl) ?_
      refine fgX9_3 hx hb hts hown hK hw 0 rfl kw1179 dX9_circles_25 ?_
      refine lv_iconst (v := 0) hx hb dX9_circles_28 (by decide) ?_
      refine faX9_3 hx hb hK hw 0 rfl rfl (by decide) dX9_circles_29 ?_
      refine lv_icmp_ge (tgt := 125) hx hb dX9_circles_30 (by decide) (fun c => ?_) (fun c => ?_)
      · have h := z_t h c
        obtain ⟨x3, ex3, h⟩ := z_lt h
        refine lv_iinc (v := x3) (lv' := [(2, .int x3), (0, .ref h_me), (1, .int v1), (3, .int v3)]) hx hb dX9_circles_125 hl (k := 2) rfl ((congrArg (v2 + ·) (show Int32.ofInt 1 = (1 : Int32) from by decide)).trans ex3.symm) (by decide) rfl (fun ls hl => ?_)
        refine lv_goto (tgt := 9) hx hb dX9_circles_128 (by decide) ?_
        exact hrec_9_0 v1 x3 o_me _ _ _ h hw (lv_sub hl [1, 2, 0] rfl)
      · have h := z_f h c
        refine lv_iload_n hx hb dX9_circles_33 rfl (lv_at hl 2 rfl) ?_
        refine lv_iconst (v := 1) hx hb dX9_circles_34 (by decide) ?_
        refine lv_iadd hx hb dX9_circles_35 ?_
        obtain ⟨x4, ex4, h⟩ := z_lt h
        refine lv_fi (v := x4) ex4.symm ?_
        refine lv_istore (lv' := [(4, .int x4), (0, .ref h_me), (1, .int v1), (2, .int v2), (3, .int v3)]) hx hb dX9_circles_36 hl (by decide) rfl (fun ls hl => ?_)
        exact lp_38_2 rec_9_0 hrec_9_0 (lp_X9_circles_23  rec_9_0 N) ih zfu v1 v2 v3 x4 o_me _ _ _ h hw (lv_sub hl [1, 2, 3, 4, 0] rfl)
  have lp_9_0 : ∀ (N : Nat), ∀ (v1 : Int32) (v2 : Int32) (o_me : Ob) (H : Heap) (locs : List Loc) (ls : Array Slot), lp_X9_circles_9   N (v1, v2, o_me) = some y → Wd dC dI A s.heap [wX9 h_me q_me k_me o_me] H locs → lv_has ls 5 [(0, .ref h_me), (1, .int v1), (2, .int v2)] → W p l e ({ frames := 1, cells := 0, slots := 0, locals := 21 } : Room) s m ([.ref h_me] : List Value).toArray below meth c H locs 0 0 Qz (F0 m 9 ls []) := by
    intro N
    induction N with
    | zero =>
      intro v1 v2 o_me H locs ls h hw hl
      exact absurd (show (none : Option (Int32 × Ob)) = some y from h) (by simp)
    | succ N ih =>
      intro v1 v2 o_me H locs ls h hw hl
      have h : lb_X9_circles_9   (lp_X9_circles_9   N) v1 v2 o_me = some y := h
      unfold lb_X9_circles_9 at h
      refine lv_iload_n hx hb dX9_circles_9 rfl (lv_at hl 2 rfl) ?_
      refine lv_aload_n hx hb dX9_circles_10 rfl (lv_at hl 0 rfl) ?_
      refine fgX9_3 hx hb hts hown hK hw 0 rfl kw1179 dX9_circles_11 ?_
      refine lv_iconst (v := 0) hx hb dX9_circles_14 (by decide) ?_
      refine faX9_3 hx hb hK hw 0 rfl rfl (by decide) dX9_circles_15 ?_
      refine lv_icmp_ge (tgt := 131) hx hb dX9_circles_16 (by decide) (fun c => ?_) (fun c => ?_)
      · have h := z_t h c
        refine lv_iload_n hx hb dX9_circles_131 rfl (lv_at hl 1 rfl) ?_
        have hy := Option.some.inj h
        rw [← hQz, ← hy]
        exact xr_i (v := v1) hx hb hr rfl hlk hK hw dX9_circles_132
      · have h := z_f h c
        refine lv_iload_n hx hb dX9_circles_19 rfl (lv_at hl 2 rfl) ?_
        refine lv_iconst (v := 1) hx hb dX9_circles_20 (by decide) ?_
        refine lv_iadd hx hb dX9_circles_21 ?_
        obtain ⟨x2, ex2, h⟩ := z_lt h
        refine lv_fi (v := x2) ex2.symm ?_
        refine lv_istore_n (lv' := [(3, .int x2), (0, .ref h_me), (1, .int v1), (2, .int v2)]) hx hb dX9_circles_22 rfl hl (by decide) rfl (fun ls hl => ?_)
        exact lp_23_1 (lp_X9_circles_9   N) ih zfu v1 v2 x2 o_me _ _ _ h hw (lv_sub hl [1, 2, 3, 0] rfl)
  unfold f_X9_circles at h
  refine lv_aload_n hx hb dX9_circles_0 rfl (lv_at hl 0 rfl) ?_
  refine lv_iconst (v := 0) hx hb dX9_circles_1 (by decide) ?_
  refine fpX9_0 hx hb hts hown hK hw 0 rfl kw1176 dX9_circles_2 (fun H locs hw => ?_)
  obtain ⟨o1, eo1, h⟩ := z_lt h
  have hw : Wd dC dI A s.heap [wX9 h_me q_me k_me o1] H locs := by rw [eo1]; exact hw
  refine lv_iconst (v := 0) hx hb dX9_circles_5 (by decide) ?_
  refine lv_istore_n (lv' := [(1, .int (0 : Int32)), (0, .ref h_me)]) hx hb dX9_circles_6 rfl hl (by decide) rfl (fun ls hl => ?_)
  refine lv_iconst (v := 0) hx hb dX9_circles_7 (by decide) ?_
  refine lv_istore_n (lv' := [(2, .int (0 : Int32)), (1, .int (0 : Int32)), (0, .ref h_me)]) hx hb dX9_circles_8 rfl hl (by decide) rfl (fun ls hl => ?_)
  exact lp_9_0  zfu (0 : Int32) (0 : Int32) o1 _ _ _ h hw (lv_sub hl [2, 1, 0] rfl)

def bk_X9_isLaw_23 (o_me : Ob)   : Option (Int32) :=
  some (1 : Int32)
def f_X9_isLaw (o_me : Ob) (p0 : Int32) : Option (Int32) :=
  if p0 = (-1 : Int32) then
  (bk_X9_isLaw_23 o_me  )
  else
  ((f_X9_in p0.toInt64 (0 : Int64) (((gA o_me 3 (2 : Int32).toNatClampNeg).toInt64) - (1 : Int64))).bind fun z1 =>
  if z1 = (0 : Int32) then
  (some (0 : Int32))
  else
  (bk_X9_isLaw_23 o_me  ))
set_option maxHeartbeats 4000000 in
set_option maxRecDepth 100000 in
theorem m_X9_isLaw (l : Launch) (dC : Nat → ClassId) (dI : Nat → Nat → Nat) (sz : Nat) (h_me : Nat) (q_me : Nat → Nat) (k_me : Nat → ClassId) (o_me : Ob) (p0 : Int32) (y : Int32) (h : f_X9_isLaw o_me p0 = some y) : CI l yX9_isLaw cX9_isLaw 2 (some .boolean) ({ frames := 1, cells := 0, slots := 0, locals := 25 } : Room) dC dI sz [.ref h_me, .int p0] [wX9 h_me q_me k_me o_me] [tX9 k_me] y [wX9 h_me q_me k_me o_me] := by
  refine CC_of (by decide) (Nat.le_of_ble_eq_true rfl) ?_
  intro p e s m below meth c A ls hx hb hml hr hlk hnm hown hts hX hK hP hD hA hl
  have hl : lv_has ls 2 [(0, .ref h_me), (1, .int p0)] := hl
  have hown : s.vm.findClass RX9 = some m.cls := hown
  have hw : Wd dC dI A s.heap [wX9 h_me q_me k_me o_me] s.heap [] := ⟨hP, hD, va_S.rf⟩
  generalize hQz : (MQ below (QI dC dI (fun r (_ : Unit) => r = y) (fun _ => Jn [wX9 h_me q_me k_me o_me]) (fun _ => Jt [tX9 k_me]) A) ([.ref h_me, .int p0] : List Value).toArray s 0 0 A) = Qz
  clear hP hD hnm
  have bk_23_0 : ∀  (H : Heap) (locs : List Loc) (ls : Array Slot), bk_X9_isLaw_23 o_me   = some y → Wd dC dI A s.heap [wX9 h_me q_me k_me o_me] H locs → lv_has ls 2 [] → W p l e ({ frames := 1, cells := 0, slots := 0, locals := 25 } : Room) s m ([.ref h_me, .int p0] : List Value).toArray below meth c H locs 0 0 Qz (F0 m 23 ls []) := by
    intro  H locs ls h hw hl
    unfold bk_X9_isLaw_23 at h
    refine lv_iconst (v := 1) hx hb dX9_isLaw_23 (by decide) ?_
    refine lv_goto (tgt := 28) hx hb dX9_isLaw_24 (by decide) ?_
    have hy := Option.some.inj h
    rw [← hQz, ← hy]
    exact xr_i (v := (1 : Int32)) hx hb hr rfl hlk hK hw dX9_isLaw_28
  unfold f_X9_isLaw at h
  refine lv_iload_n hx hb dX9_isLaw_0 rfl (lv_at hl 1 rfl) ?_
  refine lv_iconst (v := (-1)) hx hb dX9_isLaw_1 (by decide) ?_
  refine lv_icmp_eq (tgt := 23) hx hb dX9_isLaw_2 (by decide) (fun c => ?_) (fun c => ?_)
  · have h := z_t h c
    exact bk_23_0   _ _ _ h hw (lv_sub hl [] rfl)
  · have h := z_f h c
    refine lv_iload_n hx hb dX9_isLaw_5 rfl (lv_at hl 1 rfl) ?_
    refine lv_i2l hx hb dX9_isLaw_6 rfl ?_
    refine lv_lconst (v := 0) hx hb dX9_isLaw_7 (by decide) ?_
    refine lv_aload_n hx hb dX9_isLaw_8 rfl (lv_at hl 0 rfl) ?_
    refine fgX9_3 hx hb hts hown hK hw 0 rfl kw1179 dX9_isLaw_9 ?_
    refine lv_iconst (v := 2) hx hb dX9_isLaw_12 (by decide) ?_
    refine faX9_3 hx hb hK hw 0 rfl rfl (by decide) dX9_isLaw_13 ?_
    refine lv_i2l hx hb dX9_isLaw_14 rfl ?_
    refine lv_lconst (v := 1) hx hb dX9_isLaw_15 (by decide) ?_
    refine lv_lsub hx hb dX9_isLaw_16 ?_
    obtain ⟨z1, ez1, h⟩ := z_bd h
    refine xj_i (xrS (As := [.long p0.toInt64, .long (0 : Int64), .long (((gA o_me 3 (2 : Int32).toNatClampNeg).toInt64) - (1 : Int64))]) (rest := []) ⟨hx, hb, hml, hown, hts⟩ (m_X9_in l dC dI _  p0.toInt64 (0 : Int64) (((gA o_me 3 (2 : Int32).toNatClampNeg).toInt64) - (1 : Int64)) z1 ez1) kw1385 kw1383 kw1384 kw120 hd_X9_in ⟨rfl, rfl⟩ rfl rfl ⟨rfl, rfl⟩ hX hK hw [] (by decide) rfl rfl hl.1 rfl rfl dX9_isLaw_17) hw hA [] (by decide) rfl rfl (fun H locs hw => ?_)
    refine lv_if_eq (tgt := 27) hx hb dX9_isLaw_20 (by decide) (fun c => ?_) (fun c => ?_)
    · have h := z_t h c
      refine lv_iconst (v := 0) hx hb dX9_isLaw_27 (by decide) ?_
      have hy := Option.some.inj h
      rw [← hQz, ← hy]
      exact xr_i (v := (0 : Int32)) hx hb hr rfl hlk hK hw dX9_isLaw_28
    · have h := z_f h c
      exact bk_23_0   _ _ _ h hw (lv_sub hl [] rfl)

def f_X9_compare (o_me : Ob) (p0 : Int32) (p1 : Int32) : Option (Int32 × Ob) :=
  zlt (sI o_me 0 (0 : Int32)) fun o1 =>
  (f_X9_isLaw o1 p0).bind fun z2 =>
  if z2 = (0 : Int32) then
  (some ((-1 : Int32), o1))
  else
  ((f_X9_isRace p1).bind fun z3 =>
  if z3 = (0 : Int32) then
  (some ((-1 : Int32), o1))
  else
  (zlt (gA o1 3 (3 : Int32).toNatClampNeg) fun x4 =>
  zlt (tA o1 3 (3 : Int32).toNatClampNeg p0) fun o5 =>
  (f_X9_layPlaces o5 p1).bind fun z6 =>
  zlt (tA z6 3 (3 : Int32).toNatClampNeg x4) fun o7 =>
  if (gI o7 43) = (0 : Int32) then
  (some ((-1 : Int32), o7))
  else
  (some (gA o7 42 (0 : Int32).toNatClampNeg, o7))))
set_option maxHeartbeats 4000000 in
set_option maxRecDepth 100000 in
theorem m_X9_compare (l : Launch) (dC : Nat → ClassId) (dI : Nat → Nat → Nat) (sz : Nat) (h_me : Nat) (q_me : Nat → Nat) (k_me : Nat → ClassId) (o_me : Ob) (p0 : Int32) (p1 : Int32) (y : Int32 × Ob) (h : f_X9_compare o_me p0 p1 = some y) : CI l yX9_compare cX9_compare 4 (some .int) ({ frames := 7, cells := 0, slots := 0, locals := 168 } : Room) dC dI sz [.ref h_me, .int p0, .int p1] [wX9 h_me q_me k_me o_me] [tX9 k_me] y.1 [wX9 h_me q_me k_me y.2] := by
  refine CC_of (by decide) (Nat.le_of_ble_eq_true rfl) ?_
  intro p e s m below meth c A ls hx hb hml hr hlk hnm hown hts hX hK hP hD hA hl
  have hl : lv_has ls 4 [(0, .ref h_me), (1, .int p0), (2, .int p1)] := hl
  have hown : s.vm.findClass RX9 = some m.cls := hown
  have hw : Wd dC dI A s.heap [wX9 h_me q_me k_me o_me] s.heap [] := ⟨hP, hD, va_S.rf⟩
  generalize hQz : (MQ below (QI dC dI (fun r (_ : Unit) => r = y.1) (fun _ => Jn [wX9 h_me q_me k_me y.2]) (fun _ => Jt [tX9 k_me]) A) ([.ref h_me, .int p0, .int p1] : List Value).toArray s 0 0 A) = Qz
  clear hP hD hnm
  unfold f_X9_compare at h
  refine lv_aload_n hx hb dX9_compare_0 rfl (lv_at hl 0 rfl) ?_
  refine lv_iconst (v := 0) hx hb dX9_compare_1 (by decide) ?_
  refine fpX9_0 hx hb hts hown hK hw 0 rfl kw1176 dX9_compare_2 (fun H locs hw => ?_)
  obtain ⟨o1, eo1, h⟩ := z_lt h
  have hw : Wd dC dI A s.heap [wX9 h_me q_me k_me o1] H locs := by rw [eo1]; exact hw
  refine lv_aload_n hx hb dX9_compare_5 rfl (lv_at hl 0 rfl) ?_
  refine lv_iload_n hx hb dX9_compare_6 rfl (lv_at hl 1 rfl) ?_
  obtain ⟨z2, ez2, h⟩ := z_bd h
  refine xj_i (xrV (As := [.int p0]) (rest := []) ⟨hx, hb, hml, hown, hts⟩ (m_X9_isLaw l dC dI _ h_me q_me k_me o1 p0 z2 ez2) kw1623 kw1620 kw1622 kw76 kw120 hd_X9_isLaw ⟨rfl, rfl⟩ rfl rfl ⟨rfl, rfl⟩ hX hK hw [0] (by decide) rfl rfl rfl rfl rfl hl.1 rfl rfl dX9_compare_7) hw hA [0] (by decide) rfl rfl (fun H locs hw => ?_)
  have hw : Wd dC dI A s.heap [wX9 h_me q_me k_me o1] H locs := hw
  refine lv_if_eq (tgt := 20) hx hb dX9_compare_10 (by decide) (fun c => ?_) (fun c => ?_)
  · have h := z_t h c
    refine lv_iconst (v := (-1)) hx hb dX9_compare_20 (by decide) ?_
    have hy := Option.some.inj h
    rw [← hQz, ← hy]
    exact xr_i (v := (-1 : Int32)) hx hb hr rfl hlk hK hw dX9_compare_21
  · have h := z_f h c
    refine lv_iload_n hx hb dX9_compare_13 rfl (lv_at hl 2 rfl) ?_
    obtain ⟨z3, ez3, h⟩ := z_bd h
    refine xj_i (xrS (As := [.int p1]) (rest := []) ⟨hx, hb, hml, hown, hts⟩ (m_X9_isRace l dC dI _  p1 z3 ez3) kw1444 kw1442 kw1443 kw120 hd_X9_isRace ⟨rfl, rfl⟩ rfl rfl ⟨rfl, rfl⟩ hX hK hw [] (by decide) rfl rfl hl.1 rfl rfl dX9_compare_14) hw hA [] (by decide) rfl rfl (fun H locs hw => ?_)
    refine lv_if_ne (tgt := 22) hx hb dX9_compare_17 (by decide) (fun c => ?_) (fun c => ?_)
    · have h := z_f h c
      refine lv_aload_n hx hb dX9_compare_22 rfl (lv_at hl 0 rfl) ?_
      refine fgX9_3 hx hb hts hown hK hw 0 rfl kw1179 dX9_compare_23 ?_
      refine lv_iconst (v := 3) hx hb dX9_compare_26 (by decide) ?_
      refine faX9_3 hx hb hK hw 0 rfl rfl (by decide) dX9_compare_27 ?_
      obtain ⟨x4, ex4, h⟩ := z_lt h
      refine lv_fi (v := x4) ex4.symm ?_
      refine lv_istore_n (lv' := [(3, .int x4), (0, .ref h_me), (1, .int p0), (2, .int p1)]) hx hb dX9_compare_28 rfl hl (by decide) rfl (fun ls hl => ?_)
      refine lv_aload_n hx hb dX9_compare_29 rfl (lv_at hl 1 rfl) ?_
      refine fgX9_3 hx hb hts hown hK hw 0 rfl kw1179 dX9_compare_30 ?_
      refine lv_iconst (v := 3) hx hb dX9_compare_33 (by decide) ?_
      refine lv_iload_n hx hb dX9_compare_34 rfl (lv_at hl 2 rfl) ?_
      refine fbX9_3 hx hb hK hw 0 rfl rfl (by decide) dX9_compare_35 (fun H locs hw => ?_)
      obtain ⟨o5, eo5, h⟩ := z_lt h
      have hw : Wd dC dI A s.heap [wX9 h_me q_me k_me o5] H locs := by rw [eo5]; exact hw
      refine lv_aload_n hx hb dX9_compare_36 rfl (lv_at hl 1 rfl) ?_
      refine lv_iload_n hx hb dX9_compare_37 rfl (lv_at hl 3 rfl) ?_
      obtain ⟨z6, ez6, h⟩ := z_bd h
      refine xj_v (xrV (As := [.int p1]) (rest := []) ⟨hx, hb, hml, hown, hts⟩ (m_X9_layPlaces l dC dI _ h_me q_me k_me o5 p1 z6 ez6) kw1462 kw1459 kw1461 kw50 kw120 hd_X9_layPlaces ⟨rfl, rfl⟩ rfl rfl ⟨rfl, rfl⟩ hX hK hw [0] (by decide) rfl rfl rfl rfl rfl hl.1 rfl rfl dX9_compare_38) hw hA [0] (by decide) rfl rfl (fun H locs hw => ?_)
      have hw : Wd dC dI A s.heap [wX9 h_me q_me k_me z6] H locs := hw
      refine lv_aload_n hx hb dX9_compare_41 rfl (lv_at hl 1 rfl) ?_
      refine fgX9_3 hx hb hts hown hK hw 0 rfl kw1179 dX9_compare_42 ?_
      refine lv_iconst (v := 3) hx hb dX9_compare_45 (by decide) ?_
      refine lv_iload_n hx hb dX9_compare_46 rfl (lv_at hl 0 rfl) ?_
      refine fbX9_3 hx hb hK hw 0 rfl rfl (by decide) dX9_compare_47 (fun H locs hw => ?_)
      obtain ⟨o7, eo7, h⟩ := z_lt h
      have hw : Wd dC dI A s.heap [wX9 h_me q_me k_me o7] H locs := by rw [eo7]; exact hw
      refine lv_aload_n hx hb dX9_compare_48 rfl (lv_at hl 1 rfl) ?_
      refine fgX9_43 hx hb hts hown hK hw 0 rfl kw1219 dX9_compare_49 ?_
      refine lv_if_ne (tgt := 59) hx hb dX9_compare_52 (by decide) (fun c => ?_) (fun c => ?_)
      · have h := z_f h c
        refine lv_aload_n hx hb dX9_compare_59 rfl (lv_at hl 1 rfl) ?_
        refine fgX9_42 hx hb hts hown hK hw 0 rfl kw1218 dX9_compare_60 ?_
        refine lv_iconst (v := 0) hx hb dX9_compare_63 (by decide) ?_
        refine faX9_42 hx hb hK hw 0 rfl rfl (by decide) dX9_compare_64 ?_
        have hy := Option.some.inj h
        rw [← hQz, ← hy]
        exact xr_i (v := gA o7 42 (0 : Int32).toNatClampNeg) hx hb hr rfl hlk hK hw dX9_compare_65
      · have h := z_t h c
        refine lv_iconst (v := (-1)) hx hb dX9_compare_55 (by decide) ?_
        refine lv_goto (tgt := 65) hx hb dX9_compare_56 (by decide) ?_
        have hy := Option.some.inj h
        rw [← hQz, ← hy]
        exact xr_i (v := (-1 : Int32)) hx hb hr rfl hlk hK hw dX9_compare_65
    · have h := z_t h c
      refine lv_iconst (v := (-1)) hx hb dX9_compare_20 (by decide) ?_
      have hy := Option.some.inj h
      rw [← hQz, ← hy]
      exact xr_i (v := (-1 : Int32)) hx hb hr rfl hlk hK hw dX9_compare_21

def lb_X9_sumOf_5 (o_me : Ob)  (rec_5_0 : Int32 × Int32 × Int32 × Int32 → Option (Int32)) (v1 : Int32) (v2 : Int32) (v3 : Int32) (v4 : Int32) : Option (Int32) :=
  if v2 ≤ v4 then
  (some v3)
  else
  (zgd (zin (v1 + v4) 5484) <|
  zlt (v3 + (gA o_me 3 (v1 + v4).toNatClampNeg)) fun x2 =>
  zlt (v4 + (1 : Int32)) fun x3 =>
  rec_5_0 (v1, v2, x2, x3))
def lp_X9_sumOf_5 (o_me : Ob)  : Nat → (Int32 × Int32 × Int32 × Int32) → Option (Int32) := zit (fun rec a => lb_X9_sumOf_5 o_me  rec a.1 a.2.1 a.2.2.1 a.2.2.2)
def f_X9_sumOf (o_me : Ob) (p0 : Int32) (p1 : Int32) : Option (Int32) :=
  lp_X9_sumOf_5 o_me  zfu (p0, p1, (0 : Int32), (0 : Int32))
set_option maxHeartbeats 4000000 in
set_option maxRecDepth 100000 in
theorem m_X9_sumOf (l : Launch) (dC : Nat → ClassId) (dI : Nat → Nat → Nat) (sz : Nat) (h_me : Nat) (q_me : Nat → Nat) (k_me : Nat → ClassId) (o_me : Ob) (p0 : Int32) (p1 : Int32) (y : Int32) (h : f_X9_sumOf o_me p0 p1 = some y) : CI l yX9_sumOf cX9_sumOf 5 (some .int) ({ frames := 0, cells := 0, slots := 0, locals := 0 } : Room) dC dI sz [.ref h_me, .int p0, .int p1] [wX9 h_me q_me k_me o_me] [tX9 k_me] y [wX9 h_me q_me k_me o_me] := by
  refine CC_of (by decide) (Nat.le_of_ble_eq_true rfl) ?_
  intro p e s m below meth c A ls hx hb hml hr hlk hnm hown hts hX hK hP hD hA hl
  have hl : lv_has ls 5 [(0, .ref h_me), (1, .int p0), (2, .int p1)] := hl
  have hown : s.vm.findClass RX9 = some m.cls := hown
  have hw : Wd dC dI A s.heap [wX9 h_me q_me k_me o_me] s.heap [] := ⟨hP, hD, va_S.rf⟩
  generalize hQz : (MQ below (QI dC dI (fun r (_ : Unit) => r = y) (fun _ => Jn [wX9 h_me q_me k_me o_me]) (fun _ => Jt [tX9 k_me]) A) ([.ref h_me, .int p0, .int p1] : List Value).toArray s 0 0 A) = Qz
  clear hP hD hnm
  have lp_5_0 : ∀ (N : Nat), ∀ (v1 : Int32) (v2 : Int32) (v3 : Int32) (v4 : Int32) (H : Heap) (locs : List Loc) (ls : Array Slot), lp_X9_sumOf_5 o_me  N (v1, v2, v3, v4) = some y → Wd dC dI A s.heap [wX9 h_me q_me k_me o_me] H locs → lv_has ls 5 [(0, .ref h_me), (1, .int v1), (2, .int v2), (3, .int v3), (4, .int v4)] → W p l e ({ frames := 0, cells := 0, slots := 0, locals := 0 } : Room) s m ([.ref h_me, .int p0, .int p1] : List Value).toArray below meth c H locs 0 0 Qz (F0 m 5 ls []) := by
    intro N
    induction N with
    | zero =>
      intro v1 v2 v3 v4 H locs ls h hw hl
      exact absurd (show (none : Option (Int32)) = some y from h) (by simp)
    | succ N ih =>
      intro v1 v2 v3 v4 H locs ls h hw hl
      have h : lb_X9_sumOf_5 o_me  (lp_X9_sumOf_5 o_me  N) v1 v2 v3 v4 = some y := h
      unfold lb_X9_sumOf_5 at h
      refine lv_iload hx hb dX9_sumOf_5 (lv_at hl 4 rfl) ?_
      refine lv_iload_n hx hb dX9_sumOf_7 rfl (lv_at hl 2 rfl) ?_
      refine lv_icmp_ge (tgt := 29) hx hb dX9_sumOf_8 (by decide) (fun c => ?_) (fun c => ?_)
      · have h := z_t h c
        refine lv_iload_n hx hb dX9_sumOf_29 rfl (lv_at hl 3 rfl) ?_
        have hy := Option.some.inj h
        rw [← hQz, ← hy]
        exact xr_i (v := v3) hx hb hr rfl hlk hK hw dX9_sumOf_30
      · have h := z_f h c
        refine lv_iload_n hx hb dX9_sumOf_11 rfl (lv_at hl 3 rfl) ?_
        refine lv_aload_n hx hb dX9_sumOf_12 rfl (lv_at hl 0 rfl) ?_
        refine fgX9_3 hx hb hts hown hK hw 0 rfl kw1179 dX9_sumOf_13 ?_
        refine lv_iload_n hx hb dX9_sumOf_16 rfl (lv_at hl 1 rfl) ?_
        refine lv_iload hx hb dX9_sumOf_17 (lv_at hl 4 rfl) ?_
        refine lv_iadd hx hb dX9_sumOf_19 ?_
        obtain ⟨g1, h⟩ := z_gd h
        refine faX9_3 hx hb hK hw 0 rfl rfl g1 dX9_sumOf_20 ?_
        refine lv_iadd hx hb dX9_sumOf_21 ?_
        obtain ⟨x2, ex2, h⟩ := z_lt h
        refine lv_fi (v := x2) ex2.symm ?_
        refine lv_istore_n (lv' := [(3, .int x2), (0, .ref h_me), (1, .int v1), (2, .int v2), (4, .int v4)]) hx hb dX9_sumOf_22 rfl hl (by decide) rfl (fun ls hl => ?_)
        obtain ⟨x3, ex3, h⟩ := z_lt h
        refine lv_iinc (v := x3) (lv' := [(4, .int x3), (3, .int x2), (0, .ref h_me), (1, .int v1), (2, .int v2)]) hx hb dX9_sumOf_23 hl (k := 4) rfl ((congrArg (v4 + ·) (show Int32.ofInt 1 = (1 : Int32) from by decide)).trans ex3.symm) (by decide) rfl (fun ls hl => ?_)
        refine lv_goto (tgt := 5) hx hb dX9_sumOf_26 (by decide) ?_
        exact ih v1 v2 x2 x3 _ _ _ h hw (lv_sub hl [2, 3, 4, 1, 0] rfl)
  unfold f_X9_sumOf at h
  refine lv_iconst (v := 0) hx hb dX9_sumOf_0 (by decide) ?_
  refine lv_istore_n (lv' := [(3, .int (0 : Int32)), (0, .ref h_me), (1, .int p0), (2, .int p1)]) hx hb dX9_sumOf_1 rfl hl (by decide) rfl (fun ls hl => ?_)
  refine lv_iconst (v := 0) hx hb dX9_sumOf_2 (by decide) ?_
  refine lv_istore (lv' := [(4, .int (0 : Int32)), (3, .int (0 : Int32)), (0, .ref h_me), (1, .int p0), (2, .int p1)]) hx hb dX9_sumOf_3 hl (by decide) rfl (fun ls hl => ?_)
  exact lp_5_0  zfu p0 p1 (0 : Int32) (0 : Int32) _ _ _ h hw (lv_sub hl [2, 3, 4, 1, 0] rfl)

def f_X9_enteredOnes (o_me : Ob) : Option (Int32) :=
  (f_X9_sumOf o_me (22 : Int32) (gA o_me 3 (0 : Int32).toNatClampNeg)).bind fun z1 =>
  some z1
set_option maxHeartbeats 4000000 in
set_option maxRecDepth 100000 in
theorem m_X9_enteredOnes (l : Launch) (dC : Nat → ClassId) (dI : Nat → Nat → Nat) (sz : Nat) (h_me : Nat) (q_me : Nat → Nat) (k_me : Nat → ClassId) (o_me : Ob) (y : Int32) (h : f_X9_enteredOnes o_me = some y) : CI l yX9_enteredOnes cX9_enteredOnes 1 (some .int) ({ frames := 1, cells := 0, slots := 0, locals := 24 } : Room) dC dI sz [.ref h_me] [wX9 h_me q_me k_me o_me] [tX9 k_me] y [wX9 h_me q_me k_me o_me] := by
  refine CC_of (by decide) (Nat.le_of_ble_eq_true rfl) ?_
  intro p e s m below meth c A ls hx hb hml hr hlk hnm hown hts hX hK hP hD hA hl
  have hl : lv_has ls 1 [(0, .ref h_me)] := hl
  have hown : s.vm.findClass RX9 = some m.cls := hown
  have hw : Wd dC dI A s.heap [wX9 h_me q_me k_me o_me] s.heap [] := ⟨hP, hD, va_S.rf⟩
  generalize hQz : (MQ below (QI dC dI (fun r (_ : Unit) => r = y) (fun _ => Jn [wX9 h_me q_me k_me o_me]) (fun _ => Jt [tX9 k_me]) A) ([.ref h_me] : List Value).toArray s 0 0 A) = Qz
  clear hP hD hnm
  unfold f_X9_enteredOnes at h
  refine lv_aload_n hx hb dX9_enteredOnes_0 rfl (lv_at hl 0 rfl) ?_
  refine lv_bipush (v := 22) hx hb dX9_enteredOnes_1 (by decide) ?_
  refine lv_aload_n hx hb dX9_enteredOnes_3 rfl (lv_at hl 0 rfl) ?_
  refine fgX9_3 hx hb hts hown hK hw 0 rfl kw1179 dX9_enteredOnes_4 ?_
  refine lv_iconst (v := 0) hx hb dX9_enteredOnes_7 (by decide) ?_
  refine faX9_3 hx hb hK hw 0 rfl rfl (by decide) dX9_enteredOnes_8 ?_
  obtain ⟨z1, ez1, h⟩ := z_bd h
  refine xj_i (xrV (As := [.int (22 : Int32), .int (gA o_me 3 (0 : Int32).toNatClampNeg)]) (rest := []) ⟨hx, hb, hml, hown, hts⟩ (m_X9_sumOf l dC dI _ h_me q_me k_me o_me (22 : Int32) (gA o_me 3 (0 : Int32).toNatClampNeg) z1 ez1) kw1820 kw1817 kw1819 kw104 kw120 hd_X9_sumOf ⟨rfl, rfl⟩ rfl rfl ⟨rfl, rfl⟩ hX hK hw [0] (by decide) rfl rfl rfl rfl rfl hl.1 rfl rfl dX9_enteredOnes_9) hw hA [0] (by decide) rfl rfl (fun H locs hw => ?_)
  have hw : Wd dC dI A s.heap [wX9 h_me q_me k_me o_me] H locs := hw
  have hy := Option.some.inj h
  rw [← hQz, ← hy]
  exact xr_i (v := z1) hx hb hr rfl hlk hK hw dX9_enteredOnes_12

def f_X9_count (o_me : Ob) (p0 : Int32) : Option (Int32 × Ob) :=
  zlt (sI o_me 0 (0 : Int32)) fun o1 =>
  if p0 = (0 : Int32) then
  (some (gA o1 3 (0 : Int32).toNatClampNeg, o1))
  else
  (if p0 = (1 : Int32) then
  ((f_X9_enteredOnes o1).bind fun z3 =>
  some (z3, o1))
  else
  (if p0 = (2 : Int32) then
  (some (gA o1 3 (7 : Int32).toNatClampNeg, o1))
  else
  (if p0 = (3 : Int32) then
  ((f_X9_sumOf o1 (15 : Int32) (gA o1 3 (0 : Int32).toNatClampNeg)).bind fun z4 =>
  some (z4, o1))
  else
  (if p0 = (4 : Int32) then
  (some (gA o1 3 (1 : Int32).toNatClampNeg, o1))
  else
  (if p0 = (5 : Int32) then
  (some (gA o1 3 (2 : Int32).toNatClampNeg, o1))
  else
  (if p0 = (6 : Int32) then
  (some (gI o1 8, o1))
  else
  (if p0 = (7 : Int32) then
  (some (gI o1 13, o1))
  else
  (if p0 = (8 : Int32) then
  (some (gA o1 2 (1 : Int32).toNatClampNeg, o1))
  else
  (if p0 = (9 : Int32) then
  (some (gA o1 2 (2 : Int32).toNatClampNeg, o1))
  else
  (if p0 = (10 : Int32) then
  (some (gA o1 2 (3 : Int32).toNatClampNeg, o1))
  else
  (if p0 = (11 : Int32) then
  (some (gA o1 2 (5 : Int32).toNatClampNeg, o1))
  else
  (if p0 = (12 : Int32) then
  (some (gA o1 2 (6 : Int32).toNatClampNeg, o1))
  else
  (if p0 = (13 : Int32) then
  (some (gA o1 3 (3 : Int32).toNatClampNeg, o1))
  else
  ((f_X9_in p0.toInt64 (14 : Int64) (16 : Int64)).bind fun z5 =>
  if z5 = (0 : Int32) then
  (some ((-1 : Int32), o1))
  else
  (zgd (zin (((4 : Int32) + p0) - (14 : Int32)) 5484) <|
  some (gA o1 3 (((4 : Int32) + p0) - (14 : Int32)).toNatClampNeg, o1))))))))))))))))
set_option maxHeartbeats 4000000 in
set_option maxRecDepth 100000 in
theorem m_X9_count (l : Launch) (dC : Nat → ClassId) (dI : Nat → Nat → Nat) (sz : Nat) (h_me : Nat) (q_me : Nat → Nat) (k_me : Nat → ClassId) (o_me : Ob) (p0 : Int32) (y : Int32 × Ob) (h : f_X9_count o_me p0 = some y) : CI l yX9_count cX9_count 2 (some .int) ({ frames := 2, cells := 0, slots := 0, locals := 44 } : Room) dC dI sz [.ref h_me, .int p0] [wX9 h_me q_me k_me o_me] [tX9 k_me] y.1 [wX9 h_me q_me k_me y.2] := by
  refine CC_of (by decide) (Nat.le_of_ble_eq_true rfl) ?_
  intro p e s m below meth c A ls hx hb hml hr hlk hnm hown hts hX hK hP hD hA hl
  have hl : lv_has ls 2 [(0, .ref h_me), (1, .int p0)] := hl
  have hown : s.vm.findClass RX9 = some m.cls := hown
  have hw : Wd dC dI A s.heap [wX9 h_me q_me k_me o_me] s.heap [] := ⟨hP, hD, va_S.rf⟩
  generalize hQz : (MQ below (QI dC dI (fun r (_ : Unit) => r = y.1) (fun _ => Jn [wX9 h_me q_me k_me y.2]) (fun _ => Jt [tX9 k_me]) A) ([.ref h_me, .int p0] : List Value).toArray s 0 0 A) = Qz
  clear hP hD hnm
  unfold f_X9_count at h
  refine lv_aload_n hx hb dX9_count_0 rfl (lv_at hl 0 rfl) ?_
  refine lv_iconst (v := 0) hx hb dX9_count_1 (by decide) ?_
  refine fpX9_0 hx hb hts hown hK hw 0 rfl kw1176 dX9_count_2 (fun H locs hw => ?_)
  obtain ⟨o1, eo1, h⟩ := z_lt h
  have hw : Wd dC dI A s.heap [wX9 h_me q_me k_me o1] H locs := by rw [eo1]; exact hw
  refine lv_iload_n hx hb dX9_count_5 rfl (lv_at hl 1 rfl) ?_
  rcases (show p0.toInt = 0 ∨ p0.toInt = 1 ∨ p0.toInt = 2 ∨ p0.toInt = 3 ∨ p0.toInt = 4 ∨ p0.toInt = 5 ∨ p0.toInt = 6 ∨ p0.toInt = 7 ∨ p0.toInt = 8 ∨ p0.toInt = 9 ∨ p0.toInt = 10 ∨ p0.toInt = 11 ∨ p0.toInt = 12 ∨ p0.toInt = 13 ∨ (p0.toInt < 0 ∨ 13 < p0.toInt) by omega) with c2 | c2 | c2 | c2 | c2 | c2 | c2 | c2 | c2 | c2 | c2 | c2 | c2 | c2 | c2
  · skip
    have ec2 : p0 = (0 : Int32) := Int32.toInt_inj.mp (c2.trans (by decide))
    have h := z_t h ec2
    refine lv_fi (v := 0) ec2 ?_
    refine lv_tableIn (tgt := 76) hx hb dX9_count_6 (by decide) (by decide) rfl (by decide) ?_
    refine lv_aload_n hx hb dX9_count_76 rfl (lv_at hl 0 rfl) ?_
    refine fgX9_3 hx hb hts hown hK hw 0 rfl kw1179 dX9_count_77 ?_
    refine lv_iconst (v := 0) hx hb dX9_count_80 (by decide) ?_
    refine faX9_3 hx hb hK hw 0 rfl rfl (by decide) dX9_count_81 ?_
    have hy := Option.some.inj h
    rw [← hQz, ← hy]
    exact xr_i (v := gA o1 3 (0 : Int32).toNatClampNeg) hx hb hr rfl hlk hK hw dX9_count_82
  · skip
    have h := z_f h (fun e9 => by rw [e9] at c2; revert c2; decide)
    have ec2 : p0 = (1 : Int32) := Int32.toInt_inj.mp (c2.trans (by decide))
    have h := z_t h ec2
    refine lv_fi (v := 1) ec2 ?_
    refine lv_tableIn (tgt := 83) hx hb dX9_count_6 (by decide) (by decide) rfl (by decide) ?_
    refine lv_aload_n hx hb dX9_count_83 rfl (lv_at hl 0 rfl) ?_
    obtain ⟨z3, ez3, h⟩ := z_bd h
    refine xj_i (xrV (As := []) (rest := []) ⟨hx, hb, hml, hown, hts⟩ (m_X9_enteredOnes l dC dI _ h_me q_me k_me o1 z3 ez3) kw1816 kw1813 kw1815 kw103 kw120 hd_X9_enteredOnes ⟨rfl, rfl⟩ rfl rfl ⟨rfl, rfl⟩ hX hK hw [0] (by decide) rfl rfl rfl rfl rfl hl.1 rfl rfl dX9_count_84) hw hA [0] (by decide) rfl rfl (fun H locs hw => ?_)
    have hw : Wd dC dI A s.heap [wX9 h_me q_me k_me o1] H locs := hw
    have hy := Option.some.inj h
    rw [← hQz, ← hy]
    exact xr_i (v := z3) hx hb hr rfl hlk hK hw dX9_count_87
  · skip
    have h := z_f h (fun e9 => by rw [e9] at c2; revert c2; decide)
    have h := z_f h (fun e9 => by rw [e9] at c2; revert c2; decide)
    have ec2 : p0 = (2 : Int32) := Int32.toInt_inj.mp (c2.trans (by decide))
    have h := z_t h ec2
    refine lv_fi (v := 2) ec2 ?_
    refine lv_tableIn (tgt := 88) hx hb dX9_count_6 (by decide) (by decide) rfl (by decide) ?_
    refine lv_aload_n hx hb dX9_count_88 rfl (lv_at hl 0 rfl) ?_
    refine fgX9_3 hx hb hts hown hK hw 0 rfl kw1179 dX9_count_89 ?_
    refine lv_bipush (v := 7) hx hb dX9_count_92 (by decide) ?_
    refine faX9_3 hx hb hK hw 0 rfl rfl (by decide) dX9_count_94 ?_
    have hy := Option.some.inj h
    rw [← hQz, ← hy]
    exact xr_i (v := gA o1 3 (7 : Int32).toNatClampNeg) hx hb hr rfl hlk hK hw dX9_count_95
  · skip
    have h := z_f h (fun e9 => by rw [e9] at c2; revert c2; decide)
    have h := z_f h (fun e9 => by rw [e9] at c2; revert c2; decide)
    have h := z_f h (fun e9 => by rw [e9] at c2; revert c2; decide)
    have ec2 : p0 = (3 : Int32) := Int32.toInt_inj.mp (c2.trans (by decide))
    have h := z_t h ec2
    refine lv_fi (v := 3) ec2 ?_
    refine lv_tableIn (tgt := 96) hx hb dX9_count_6 (by decide) (by decide) rfl (by decide) ?_
    refine lv_aload_n hx hb dX9_count_96 rfl (lv_at hl 0 rfl) ?_
    refine lv_bipush (v := 15) hx hb dX9_count_97 (by decide) ?_
    refine lv_aload_n hx hb dX9_count_99 rfl (lv_at hl 0 rfl) ?_
    refine fgX9_3 hx hb hts hown hK hw 0 rfl kw1179 dX9_count_100 ?_
    refine lv_iconst (v := 0) hx hb dX9_count_103 (by decide) ?_
    refine faX9_3 hx hb hK hw 0 rfl rfl (by decide) dX9_count_104 ?_
    obtain ⟨z4, ez4, h⟩ := z_bd h
    refine xj_i (xrV (As := [.int (15 : Int32), .int (gA o1 3 (0 : Int32).toNatClampNeg)]) (rest := []) ⟨hx, hb, hml, hown, hts⟩ (m_X9_sumOf l dC dI _ h_me q_me k_me o1 (15 : Int32) (gA o1 3 (0 : Int32).toNatClampNeg) z4 ez4) kw1820 kw1817 kw1819 kw104 kw120 hd_X9_sumOf ⟨rfl, rfl⟩ rfl rfl ⟨rfl, rfl⟩ hX hK hw [0] (by decide) rfl rfl rfl rfl rfl hl.1 rfl rfl dX9_count_105) hw hA [0] (by decide) rfl rfl (fun H locs hw => ?_)
    have hw : Wd dC dI A s.heap [wX9 h_me q_me k_me o1] H locs := hw
    have hy := Option.some.inj h
    rw [← hQz, ← hy]
    exact xr_i (v := z4) hx hb hr rfl hlk hK hw dX9_count_108
  · skip
    have h := z_f h (fun e9 => by rw [e9] at c2; revert c2; decide)
    have h := z_f h (fun e9 => by rw [e9] at c2; revert c2; decide)
    have h := z_f h (fun e9 => by rw [e9] at c2; revert c2; decide)
    have h := z_f h (fun e9 => by rw [e9] at c2; revert c2; decide)
    have ec2 : p0 = (4 : Int32) := Int32.toInt_inj.mp (c2.trans (by decide))
    have h := z_t h ec2
    refine lv_fi (v := 4) ec2 ?_
    refine lv_tableIn (tgt := 109) hx hb dX9_count_6 (by decide) (by decide) rfl (by decide) ?_
    refine lv_aload_n hx hb dX9_count_109 rfl (lv_at hl 0 rfl) ?_
    refine fgX9_3 hx hb hts hown hK hw 0 rfl kw1179 dX9_count_110 ?_
    refine lv_iconst (v := 1) hx hb dX9_count_113 (by decide) ?_
    refine faX9_3 hx hb hK hw 0 rfl rfl (by decide) dX9_count_114 ?_
    have hy := Option.some.inj h
    rw [← hQz, ← hy]
    exact xr_i (v := gA o1 3 (1 : Int32).toNatClampNeg) hx hb hr rfl hlk hK hw dX9_count_115
  · skip
    have h := z_f h (fun e9 => by rw [e9] at c2; revert c2; decide)
    have h := z_f h (fun e9 => by rw [e9] at c2; revert c2; decide)
    have h := z_f h (fun e9 => by rw [e9] at c2; revert c2; decide)
    have h := z_f h (fun e9 => by rw [e9] at c2; revert c2; decide)
    have h := z_f h (fun e9 => by rw [e9] at c2; revert c2; decide)
    have ec2 : p0 = (5 : Int32) := Int32.toInt_inj.mp (c2.trans (by decide))
    have h := z_t h ec2
    refine lv_fi (v := 5) ec2 ?_
    refine lv_tableIn (tgt := 116) hx hb dX9_count_6 (by decide) (by decide) rfl (by decide) ?_
    refine lv_aload_n hx hb dX9_count_116 rfl (lv_at hl 0 rfl) ?_
    refine fgX9_3 hx hb hts hown hK hw 0 rfl kw1179 dX9_count_117 ?_
    refine lv_iconst (v := 2) hx hb dX9_count_120 (by decide) ?_
    refine faX9_3 hx hb hK hw 0 rfl rfl (by decide) dX9_count_121 ?_
    have hy := Option.some.inj h
    rw [← hQz, ← hy]
    exact xr_i (v := gA o1 3 (2 : Int32).toNatClampNeg) hx hb hr rfl hlk hK hw dX9_count_122
  · skip
    have h := z_f h (fun e9 => by rw [e9] at c2; revert c2; decide)
    have h := z_f h (fun e9 => by rw [e9] at c2; revert c2; decide)
    have h := z_f h (fun e9 => by rw [e9] at c2; revert c2; decide)
    have h := z_f h (fun e9 => by rw [e9] at c2; revert c2; decide)
    have h := z_f h (fun e9 => by rw [e9] at c2; revert c2; decide)
    have h := z_f h (fun e9 => by rw [e9] at c2; revert c2; decide)
    have ec2 : p0 = (6 : Int32) := Int32.toInt_inj.mp (c2.trans (by decide))
    have h := z_t h ec2
    refine lv_fi (v := 6) ec2 ?_
    refine lv_tableIn (tgt := 123) hx hb dX9_count_6 (by decide) (by decide) rfl (by decide) ?_
    refine lv_aload_n hx hb dX9_count_123 rfl (lv_at hl 0 rfl) ?_
    refine fgX9_8 hx hb hts hown hK hw 0 rfl kw1184 dX9_count_124 ?_
    have hy := Option.some.inj h
    rw [← hQz, ← hy]
    exact xr_i (v := gI o1 8) hx hb hr rfl hlk hK hw dX9_count_127
  · skip
    have h := z_f h (fun e9 => by rw [e9] at c2; revert c2; decide)
    have h := z_f h (fun e9 => by rw [e9] at c2; revert c2; decide)
    have h := z_f h (fun e9 => by rw [e9] at c2; revert c2; decide)
    have h := z_f h (fun e9 => by rw [e9] at c2; revert c2; decide)
    have h := z_f h (fun e9 => by rw [e9] at c2; revert c2; decide)
    have h := z_f h (fun e9 => by rw [e9] at c2; revert c2; decide)
    have h := z_f h (fun e9 => by rw [e9] at c2; revert c2; decide)
    have ec2 : p0 = (7 : Int32) := Int32.toInt_inj.mp (c2.trans (by decide))
    have h := z_t h ec2
    refine lv_fi (v := 7) ec2 ?_
    refine lv_tableIn (tgt := 128) hx hb dX9_count_6 (by decide) (by decide) rfl (by decide) ?_
    refine lv_aload_n hx hb dX9_count_128 rfl (lv_at hl 0 rfl) ?_
    refine fgX9_13 hx hb hts hown hK hw 0 rfl kw1189 dX9_count_129 ?_
    have hy := Option.some.inj h
    rw [← hQz, ← hy]
    exact xr_i (v := gI o1 13) hx hb hr rfl hlk hK hw dX9_count_132
  · skip
    have h := z_f h (fun e9 => by rw [e9] at c2; revert c2; decide)
    have h := z_f h (fun e9 => by rw [e9] at c2; revert c2; decide)
    have h := z_f h (fun e9 => by rw [e9] at c2; revert c2; decide)
    have h := z_f h (fun e9 => by rw [e9] at c2; revert c2; decide)
    have h := z_f h (fun e9 => by rw [e9] at c2; revert c2; decide)
    have h := z_f h (fun e9 => by rw [e9] at c2; revert c2; decide)
    have h := z_f h (fun e9 => by rw [e9] at c2; revert c2; decide)
    have h := z_f h (fun e9 => by rw [e9] at c2; revert c2; decide)
    have ec2 : p0 = (8 : Int32) := Int32.toInt_inj.mp (c2.trans (by decide))
    have h := z_t h ec2
    refine lv_fi (v := 8) ec2 ?_
    refine lv_tableIn (tgt := 133) hx hb dX9_count_6 (by decide) (by decide) rfl (by decide) ?_
    refine lv_aload_n hx hb dX9_count_133 rfl (lv_at hl 0 rfl) ?_
    refine fgX9_2 hx hb hts hown hK hw 0 rfl kw1178 dX9_count_134 ?_
    refine lv_iconst (v := 1) hx hb dX9_count_137 (by decide) ?_
    refine faX9_2 hx hb hK hw 0 rfl rfl (by decide) dX9_count_138 ?_
    have hy := Option.some.inj h
    rw [← hQz, ← hy]
    exact xr_i (v := gA o1 2 (1 : Int32).toNatClampNeg) hx hb hr rfl hlk hK hw dX9_count_139
  · skip
    have h := z_f h (fun e9 => by rw [e9] at c2; revert c2; decide)
    have h := z_f h (fun e9 => by rw [e9] at c2; revert c2; decide)
    have h := z_f h (fun e9 => by rw [e9] at c2; revert c2; decide)
    have h := z_f h (fun e9 => by rw [e9] at c2; revert c2; decide)
    have h := z_f h (fun e9 => by rw [e9] at c2; revert c2; decide)
    have h := z_f h (fun e9 => by rw [e9] at c2; revert c2; decide)
    have h := z_f h (fun e9 => by rw [e9] at c2; revert c2; decide)
    have h := z_f h (fun e9 => by rw [e9] at c2; revert c2; decide)
    have h := z_f h (fun e9 => by rw [e9] at c2; revert c2; decide)
    have ec2 : p0 = (9 : Int32) := Int32.toInt_inj.mp (c2.trans (by decide))
    have h := z_t h ec2
    refine lv_fi (v := 9) ec2 ?_
    refine lv_tableIn (tgt := 140) hx hb dX9_count_6 (by decide) (by decide) rfl (by decide) ?_
    refine lv_aload_n hx hb dX9_count_140 rfl (lv_at hl 0 rfl) ?_
    refine fgX9_2 hx hb hts hown hK hw 0 rfl kw1178 dX9_count_141 ?_
    refine lv_iconst (v := 2) hx hb dX9_count_144 (by decide) ?_
    refine faX9_2 hx hb hK hw 0 rfl rfl (by decide) dX9_count_145 ?_
    have hy := Option.some.inj h
    rw [← hQz, ← hy]
    exact xr_i (v := gA o1 2 (2 : Int32).toNatClampNeg) hx hb hr rfl hlk hK hw dX9_count_146
  · skip
    have h := z_f h (fun e9 => by rw [e9] at c2; revert c2; decide)
    have h := z_f h (fun e9 => by rw [e9] at c2; revert c2; decide)
    have h := z_f h (fun e9 => by rw [e9] at c2; revert c2; decide)
    have h := z_f h (fun e9 => by rw [e9] at c2; revert c2; decide)
    have h := z_f h (fun e9 => by rw [e9] at c2; revert c2; decide)
    have h := z_f h (fun e9 => by rw [e9] at c2; revert c2; decide)
    have h := z_f h (fun e9 => by rw [e9] at c2; revert c2; decide)
    have h := z_f h (fun e9 => by rw [e9] at c2; revert c2; decide)
    have h := z_f h (fun e9 => by rw [e9] at c2; revert c2; decide)
    have h := z_f h (fun e9 => by rw [e9] at c2; revert c2; decide)
    have ec2 : p0 = (10 : Int32) := Int32.toInt_inj.mp (c2.trans (by decide))
    have h := z_t h ec2
    refine lv_fi (v := 10) ec2 ?_
    refine lv_tableIn (tgt := 147) hx hb dX9_count_6 (by decide) (by decide) rfl (by decide) ?_
    refine lv_aload_n hx hb dX9_count_147 rfl (lv_at hl 0 rfl) ?_
    refine fgX9_2 hx hb hts hown hK hw 0 rfl kw1178 dX9_count_148 ?_
    refine lv_iconst (v := 3) hx hb dX9_count_151 (by decide) ?_
    refine faX9_2 hx hb hK hw 0 rfl rfl (by decide) dX9_count_152 ?_
    have hy := Option.some.inj h
    rw [← hQz, ← hy]
    exact xr_i (v := gA o1 2 (3 : Int32).toNatClampNeg) hx hb hr rfl hlk hK hw dX9_count_153
  · skip
    have h := z_f h (fun e9 => by rw [e9] at c2; revert c2; decide)
    have h := z_f h (fun e9 => by rw [e9] at c2; revert c2; decide)
    have h := z_f h (fun e9 => by rw [e9] at c2; revert c2; decide)
    have h := z_f h (fun e9 => by rw [e9] at c2; revert c2; decide)
    have h := z_f h (fun e9 => by rw [e9] at c2; revert c2; decide)
    have h := z_f h (fun e9 => by rw [e9] at c2; revert c2; decide)
    have h := z_f h (fun e9 => by rw [e9] at c2; revert c2; decide)
    have h := z_f h (fun e9 => by rw [e9] at c2; revert c2; decide)
    have h := z_f h (fun e9 => by rw [e9] at c2; revert c2; decide)
    have h := z_f h (fun e9 => by rw [e9] at c2; revert c2; decide)
    have h := z_f h (fun e9 => by rw [e9] at c2; revert c2; decide)
    have ec2 : p0 = (11 : Int32) := Int32.toInt_inj.mp (c2.trans (by decide))
    have h := z_t h ec2
    refine lv_fi (v := 11) ec2 ?_
    refine lv_tableIn (tgt := 154) hx hb dX9_count_6 (by decide) (by decide) rfl (by decide) ?_
    refine lv_aload_n hx hb dX9_count_154 rfl (lv_at hl 0 rfl) ?_
    refine fgX9_2 hx hb hts hown hK hw 0 rfl kw1178 dX9_count_155 ?_
    refine lv_iconst (v := 5) hx hb dX9_count_158 (by decide) ?_
    refine faX9_2 hx hb hK hw 0 rfl rfl (by decide) dX9_count_159 ?_
    have hy := Option.some.inj h
    rw [← hQz, ← hy]
    exact xr_i (v := gA o1 2 (5 : Int32).toNatClampNeg) hx hb hr rfl hlk hK hw dX9_count_160
  · skip
    have h := z_f h (fun e9 => by rw [e9] at c2; revert c2; decide)
    have h := z_f h (fun e9 => by rw [e9] at c2; revert c2; decide)
    have h := z_f h (fun e9 => by rw [e9] at c2; revert c2; decide)
    have h := z_f h (fun e9 => by rw [e9] at c2; revert c2; decide)
    have h := z_f h (fun e9 => by rw [e9] at c2; revert c2; decide)
    have h := z_f h (fun e9 => by rw [e9] at c2; revert c2; decide)
    have h := z_f h (fun e9 => by rw [e9] at c2; revert c2; decide)
    have h := z_f h (fun e9 => by rw [e9] at c2; revert c2; decide)
    have h := z_f h (fun e9 => by rw [e9] at c2; revert c2; decide)
    have h := z_f h (fun e9 => by rw [e9] at c2; revert c2; decide)
    have h := z_f h (fun e9 => by rw [e9] at c2; revert c2; decide)
    have h := z_f h (fun e9 => by rw [e9] at c2; revert c2; decide)
    have ec2 : p0 = (12 : Int32) := Int32.toInt_inj.mp (c2.trans (by decide))
    have h := z_t h ec2
    refine lv_fi (v := 12) ec2 ?_
    refine lv_tableIn (tgt := 161) hx hb dX9_count_6 (by decide) (by decide) rfl (by decide) ?_
    refine lv_aload_n hx hb dX9_count_161 rfl (lv_at hl 0 rfl) ?_
    refine fgX9_2 hx hb hts hown hK hw 0 rfl kw1178 dX9_count_162 ?_
    refine lv_bipush (v := 6) hx hb dX9_count_165 (by decide) ?_
    refine faX9_2 hx hb hK hw 0 rfl rfl (by decide) dX9_count_167 ?_
    have hy := Option.some.inj h
    rw [← hQz, ← hy]
    exact xr_i (v := gA o1 2 (6 : Int32).toNatClampNeg) hx hb hr rfl hlk hK hw dX9_count_168
  · skip
    have h := z_f h (fun e9 => by rw [e9] at c2; revert c2; decide)
    have h := z_f h (fun e9 => by rw [e9] at c2; revert c2; decide)
    have h := z_f h (fun e9 => by rw [e9] at c2; revert c2; decide)
    have h := z_f h (fun e9 => by rw [e9] at c2; revert c2; decide)
    have h := z_f h (fun e9 => by rw [e9] at c2; revert c2; decide)
    have h := z_f h (fun e9 => by rw [e9] at c2; revert c2; decide)
    have h := z_f h (fun e9 => by rw [e9] at c2; revert c2; decide)
    have h := z_f h (fun e9 => by rw [e9] at c2; revert c2; decide)
    have h := z_f h (fun e9 => by rw [e9] at c2; revert c2; decide)
    have h := z_f h (fun e9 => by rw [e9] at c2; revert c2; decide)
    have h := z_f h (fun e9 => by rw [e9] at c2; revert c2; decide)
    have h := z_f h (fun e9 => by rw [e9] at c2; revert c2; decide)
    have h := z_f h (fun e9 => by rw [e9] at c2; revert c2; decide)
    have ec2 : p0 = (13 : Int32) := Int32.toInt_inj.mp (c2.trans (by decide))
    have h := z_t h ec2
    refine lv_fi (v := 13) ec2 ?_
    refine lv_tableIn (tgt := 169) hx hb dX9_count_6 (by decide) (by decide) rfl (by decide) ?_
    refine lv_aload_n hx hb dX9_count_169 rfl (lv_at hl 0 rfl) ?_
    refine fgX9_3 hx hb hts hown hK hw 0 rfl kw1179 dX9_count_170 ?_
    refine lv_iconst (v := 3) hx hb dX9_count_173 (by decide) ?_
    refine faX9_3 hx hb hK hw 0 rfl rfl (by decide) dX9_count_174 ?_
    have hy := Option.some.inj h
    rw [← hQz, ← hy]
    exact xr_i (v := gA o1 3 (3 : Int32).toNatClampNeg) hx hb hr rfl hlk hK hw dX9_count_175
  · skip
    have h := z_f h (fun e9 => by rw [e9] at c2; revert c2; decide)
    have h := z_f h (fun e9 => by rw [e9] at c2; revert c2; decide)
    have h := z_f h (fun e9 => by rw [e9] at c2; revert c2; decide)
    have h := z_f h (fun e9 => by rw [e9] at c2; revert c2; decide)
    have h := z_f h (fun e9 => by rw [e9] at c2; revert c2; decide)
    have h := z_f h (fun e9 => by rw [e9] at c2; revert c2; decide)
    have h := z_f h (fun e9 => by rw [e9] at c2; revert c2; decide)
    have h := z_f h (fun e9 => by rw [e9] at c2; revert c2; decide)
    have h := z_f h (fun e9 => by rw [e9] at c2; revert c2; decide)
    have h := z_f h (fun e9 => by rw [e9] at c2; revert c2; decide)
    have h := z_f h (fun e9 => by rw [e9] at c2; revert c2; decide)
    have h := z_f h (fun e9 => by rw [e9] at c2; revert c2; decide)
    have h := z_f h (fun e9 => by rw [e9] at c2; revert c2; decide)
    have h := z_f h (fun e9 => by rw [e9] at c2; revert c2; decide)
    refine lv_tableOut (tgt := 176) hx hb dX9_count_6 c2 (by decide) ?_
    refine lv_iload_n hx hb dX9_count_176 rfl (lv_at hl 1 rfl) ?_
    refine lv_i2l hx hb dX9_count_177 rfl ?_
    refine lv_ldc2 (v := 14) hx hb hown (hts _ kw1857) dX9_count_178 ?_
    refine lv_ldc2 (v := 16) hx hb hown (hts _ kw1858) dX9_count_181 ?_
    obtain ⟨z5, ez5, h⟩ := z_bd h
    refine xj_i (xrS (As := [.long p0.toInt64, .long (14 : Int64), .long (16 : Int64)]) (rest := []) ⟨hx, hb, hml, hown, hts⟩ (m_X9_in l dC dI _  p0.toInt64 (14 : Int64) (16 : Int64) z5 ez5) kw1385 kw1383 kw1384 kw120 hd_X9_in ⟨rfl, rfl⟩ rfl rfl ⟨rfl, rfl⟩ hX hK hw [] (by decide) rfl rfl hl.1 rfl rfl dX9_count_184) hw hA [] (by decide) rfl rfl (fun H locs hw => ?_)
    refine lv_if_eq (tgt := 204) hx hb dX9_count_187 (by decide) (fun c => ?_) (fun c => ?_)
    · have h := z_t h c
      refine lv_iconst (v := (-1)) hx hb dX9_count_204 (by decide) ?_
      have hy := Option.some.inj h
      rw [← hQz, ← hy]
      exact xr_i (v := (-1 : Int32)) hx hb hr rfl hlk hK hw dX9_count_205
    · have h := z_f h c
      refine lv_aload_n hx hb dX9_count_190 rfl (lv_at hl 0 rfl) ?_
      refine fgX9_3 hx hb hts hown hK hw 0 rfl kw1179 dX9_count_191 ?_
      refine lv_iconst (v := 4) hx hb dX9_count_194 (by decide) ?_
      refine lv_iload_n hx hb dX9_count_195 rfl (lv_at hl 1 rfl) ?_
      refine lv_iadd hx hb dX9_count_196 ?_
      refine lv_bipush (v := 14) hx hb dX9_count_197 (by decide) ?_
      refine lv_isub hx hb dX9_count_199 ?_
      obtain ⟨g6, h⟩ := z_gd h
      refine faX9_3 hx hb hK hw 0 rfl rfl g6 dX9_count_200 ?_
      refine lv_goto (tgt := 205) hx hb dX9_count_201 (by decide) ?_
      have hy := Option.some.inj h
      rw [← hQz, ← hy]
      exact xr_i (v := gA o1 3 (((4 : Int32) + p0) - (14 : Int32)).toNatClampNeg) hx hb hr rfl hlk hK hw dX9_count_205

def bk_X9_scoreNow_40 (o_me : Ob) (rec_4_0 : Int32 × Int32 → Option (Int32)) (v2 : Int32) (s0 : Int32) (s1 : Int32) : Option (Int32) :=
  zlt (s1 + s0) fun x4 =>
  zlt (v2 + (1 : Int32)) fun x5 =>
  rec_4_0 (x4, x5)
def lb_X9_scoreNow_4 (o_me : Ob)  (rec_4_0 : Int32 × Int32 → Option (Int32)) (v1 : Int32) (v2 : Int32) : Option (Int32) :=
  if (4 : Int32) ≤ v2 then
  (some v1)
  else
  (zgd (zin v2 5) <|
  if (gA o_me 48 v2.toNatClampNeg) = (7 : Int32) then
  (bk_X9_scoreNow_40 o_me rec_4_0 v2 (0 : Int32) v1)
  else
  (zgd (zin v2 5) <|
  zgd (zin (((4 : Int32) * (gA o_me 48 v2.toNatClampNeg)) + v2) 28) <|
  bk_X9_scoreNow_40 o_me rec_4_0 v2 (gA o_me 47 (((4 : Int32) * (gA o_me 48 v2.toNatClampNeg)) + v2).toNatClampNeg) v1))
def lp_X9_scoreNow_4 (o_me : Ob)  : Nat → (Int32 × Int32) → Option (Int32) := zit (fun rec a => lb_X9_scoreNow_4 o_me  rec a.1 a.2)
def f_X9_scoreNow (o_me : Ob) : Option (Int32) :=
  lp_X9_scoreNow_4 o_me  zfu ((0 : Int32), (0 : Int32))
set_option maxHeartbeats 4000000 in
set_option maxRecDepth 100000 in
theorem m_X9_scoreNow (l : Launch) (dC : Nat → ClassId) (dI : Nat → Nat → Nat) (sz : Nat) (h_me : Nat) (q_me : Nat → Nat) (k_me : Nat → ClassId) (o_me : Ob) (y : Int32) (h : f_X9_scoreNow o_me = some y) : CI l yX9_scoreNow cX9_scoreNow 3 (some .int) ({ frames := 0, cells := 0, slots := 0, locals := 0 } : Room) dC dI sz [.ref h_me] [wX9 h_me q_me k_me o_me] [tX9 k_me] y [wX9 h_me q_me k_me o_me] := by
  refine CC_of (by decide) (Nat.le_of_ble_eq_true rfl) ?_
  intro p e s m below meth c A ls hx hb hml hr hlk hnm hown hts hX hK hP hD hA hl
  have hl : lv_has ls 3 [(0, .ref h_me)] := hl
  have hown : s.vm.findClass RX9 = some m.cls := hown
  have hw : Wd dC dI A s.heap [wX9 h_me q_me k_me o_me] s.heap [] := ⟨hP, hD, va_S.rf⟩
  generalize hQz : (MQ below (QI dC dI (fun r (_ : Unit) => r = y) (fun _ => Jn [wX9 h_me q_me k_me o_me]) (fun _ => Jt [tX9 k_me]) A) ([.ref h_me] : List Value).toArray s 0 0 A) = Qz
  clear hP hD hnm
  have bk_40_1 : ∀ (rec_4_0 : Int32 × Int32 → Option (Int32)) (hrec_4_0 : ∀ (v1 : Int32) (v2 : Int32) (H : Heap) (locs : List Loc) (ls : Array Slot), rec_4_0 (v1, v2) = some y → Wd dC dI A s.heap [wX9 h_me q_me k_me o_me] H locs → lv_has ls 3 [(0, .ref h_me), (1, .int v1), (2, .int v2)] → W p l e ({ frames := 0, cells := 0, slots := 0, locals := 0 } : Room) s m ([.ref h_me] : List Value).toArray below meth c H locs 0 0 Qz (F0 m 4 ls [])), ∀ (v2 : Int32) (s0 : Int32) (s1 : Int32) (H : Heap) (locs : List Loc) (ls : Array Slot), bk_X9_scoreNow_40 o_me rec_4_0 v2 s0 s1 = some y → Wd dC dI A s.heap [wX9 h_me q_me k_me o_me] H locs → lv_has ls 3 [(0, .ref h_me), (2, .int v2)] → W p l e ({ frames := 0, cells := 0, slots := 0, locals := 0 } : Room) s m ([.ref h_me] : List Value).toArray below meth c H locs 0 0 Qz (F0 m 40 ls [.int s0, .int s1]) := by
    intro rec_4_0 hrec_4_0
    intro v2 s0 s1 H locs ls h hw hl
    unfold bk_X9_scoreNow_40 at h
    refine lv_iadd hx hb dX9_scoreNow_40 ?_
    obtain ⟨x4, ex4, h⟩ := z_lt h
    refine lv_fi (v := x4) ex4.symm ?_
    refine lv_istore_n (lv' := [(1, .int x4), (0, .ref h_me), (2, .int v2)]) hx hb dX9_scoreNow_41 rfl hl (by decide) rfl (fun ls hl => ?_)
    obtain ⟨x5, ex5, h⟩ := z_lt h
    refine lv_iinc (v := x5) (lv' := [(2, .int x5), (1, .int x4), (0, .ref h_me)]) hx hb dX9_scoreNow_42 hl (k := 2) rfl ((congrArg (v2 + ·) (show Int32.ofInt 1 = (1 : Int32) from by decide)).trans ex5.symm) (by decide) rfl (fun ls hl => ?_)
    refine lv_goto (tgt := 4) hx hb dX9_scoreNow_45 (by decide) ?_
    exact hrec_4_0 x4 x5 _ _ _ h hw (lv_sub hl [2, 1, 0] rfl)
  have lp_4_0 : ∀ (N : Nat), ∀ (v1 : Int32) (v2 : Int32) (H : Heap) (locs : List Loc) (ls : Array Slot), lp_X9_scoreNow_4 o_me  N (v1, v2) = some y → Wd dC dI A s.heap [wX9 h_me q_me k_me o_me] H locs → lv_has ls 3 [(0, .ref h_me), (1, .int v1), (2, .int v2)] → W p l e ({ frames := 0, cells := 0, slots := 0, locals := 0 } : Room) s m ([.ref h_me] : List Value).toArray below meth c H locs 0 0 Qz (F0 m 4 ls []) := by
    intro N
    induction N with
    | zero =>
      intro v1 v2 H locs ls h hw hl
      exact absurd (show (none : Option (Int32)) = some y from h) (by simp)
    | succ N ih =>
      intro v1 v2 H locs ls h hw hl
      have h : lb_X9_scoreNow_4 o_me  (lp_X9_scoreNow_4 o_me  N) v1 v2 = some y := h
      unfold lb_X9_scoreNow_4 at h
      refine lv_iload_n hx hb dX9_scoreNow_4 rfl (lv_at hl 2 rfl) ?_
      refine lv_iconst (v := 4) hx hb dX9_scoreNow_5 (by decide) ?_
      refine lv_icmp_ge (tgt := 48) hx hb dX9_scoreNow_6 (by decide) (fun c => ?_) (fun c => ?_)
      · have h := z_t h c
        refine lv_iload_n hx hb dX9_scoreNow_48 rfl (lv_at hl 1 rfl) ?_
        have hy := Option.some.inj h
        rw [← hQz, ← hy]
        exact xr_i (v := v1) hx hb hr rfl hlk hK hw dX9_scoreNow_49
      · have h := z_f h c
        refine lv_iload_n hx hb dX9_scoreNow_9 rfl (lv_at hl 1 rfl) ?_
        refine lv_aload_n hx hb dX9_scoreNow_10 rfl (lv_at hl 0 rfl) ?_
        refine fgX9_48 hx hb hts hown hK hw 0 rfl kw1224 dX9_scoreNow_11 ?_
        refine lv_iload_n hx hb dX9_scoreNow_14 rfl (lv_at hl 2 rfl) ?_
        obtain ⟨g1, h⟩ := z_gd h
        refine faX9_48 hx hb hK hw 0 rfl rfl g1 dX9_scoreNow_15 ?_
        refine lv_bipush (v := 7) hx hb dX9_scoreNow_16 (by decide) ?_
        refine lv_icmp_ne (tgt := 25) hx hb dX9_scoreNow_18 (by decide) (fun c => ?_) (fun c => ?_)
        · have h := z_f h c
          refine lv_aload_n hx hb dX9_scoreNow_25 rfl (lv_at hl 0 rfl) ?_
          refine fgX9_47 hx hb hts hown hK hw 0 rfl kw1223 dX9_scoreNow_26 ?_
          refine lv_iconst (v := 4) hx hb dX9_scoreNow_29 (by decide) ?_
          refine lv_aload_n hx hb dX9_scoreNow_30 rfl (lv_at hl 0 rfl) ?_
          refine fgX9_48 hx hb hts hown hK hw 0 rfl kw1224 dX9_scoreNow_31 ?_
          refine lv_iload_n hx hb dX9_scoreNow_34 rfl (lv_at hl 2 rfl) ?_
          obtain ⟨g2, h⟩ := z_gd h
          refine faX9_48 hx hb hK hw 0 rfl rfl g2 dX9_scoreNow_35 ?_
          refine lv_imul hx hb dX9_scoreNow_36 ?_
          refine lv_iload_n hx hb dX9_scoreNow_37 rfl (lv_at hl 2 rfl) ?_
          refine lv_iadd hx hb dX9_scoreNow_38 ?_
          obtain ⟨g3, h⟩ := z_gd h
          refine faX9_47 hx hb hK hw 0 rfl rfl g3 dX9_scoreNow_39 ?_
          exact bk_40_1 (lp_X9_scoreNow_4 o_me  N) ih v2 (gA o_me 47 (((4 : Int32) * (gA o_me 48 v2.toNatClampNeg)) + v2).toNatClampNeg) v1 _ _ _ h hw (lv_sub hl [0, 2] rfl)
        · have h := z_t h c
          refine lv_iconst (v := 0) hx hb dX9_scoreNow_21 (by decide) ?_
          refine lv_goto (tgt := 40) hx hb dX9_scoreNow_22 (by decide) ?_
          exact bk_40_1 (lp_X9_scoreNow_4 o_me  N) ih v2 (0 : Int32) v1 _ _ _ h hw (lv_sub hl [0, 2] rfl)
  unfold f_X9_scoreNow at h
  refine lv_iconst (v := 0) hx hb dX9_scoreNow_0 (by decide) ?_
  refine lv_istore_n (lv' := [(1, .int (0 : Int32)), (0, .ref h_me)]) hx hb dX9_scoreNow_1 rfl hl (by decide) rfl (fun ls hl => ?_)
  refine lv_iconst (v := 0) hx hb dX9_scoreNow_2 (by decide) ?_
  refine lv_istore_n (lv' := [(2, .int (0 : Int32)), (1, .int (0 : Int32)), (0, .ref h_me)]) hx hb dX9_scoreNow_3 rfl hl (by decide) rfl (fun ls hl => ?_)
  exact lp_4_0  zfu (0 : Int32) (0 : Int32) _ _ _ h hw (lv_sub hl [2, 1, 0] rfl)

def bk_X9_isFree_78 (o_me : Ob) (rec_38_2 : Int32 × Int32 × Int32 → Option (Int32)) (v1 : Int32) (v3 : Int32) (s0 : Int32) : Option (Int32) :=
  zlt (v3 + (1 : Int32)) fun x3 =>
  rec_38_2 (v1, s0, x3)
def bk_X9_isFree_77 (o_me : Ob) (rec_38_2 : Int32 × Int32 × Int32 → Option (Int32)) (v1 : Int32) (v3 : Int32) : Option (Int32) :=
  bk_X9_isFree_78 o_me rec_38_2 v1 v3 (0 : Int32)
def bk_X9_isFree_73 (o_me : Ob) (rec_38_2 : Int32 × Int32 × Int32 → Option (Int32)) (v1 : Int32) (v3 : Int32) : Option (Int32) :=
  bk_X9_isFree_78 o_me rec_38_2 v1 v3 (1 : Int32)
def lb_X9_isFree_38 (o_me : Ob)  (rec_38_2 : Int32 × Int32 × Int32 → Option (Int32)) (v1 : Int32) (v2 : Int32) (v3 : Int32) : Option (Int32) :=
  if v1 ≤ v3 then
  (zgd (zbo v2) <|
  some v2)
  else
  (if v2 = (0 : Int32) then
  (bk_X9_isFree_77 o_me rec_38_2 v1 v3)
  else
  (zgd (zin v1 5) <|
  if (gA o_me 48 v1.toNatClampNeg) = (7 : Int32) then
  (bk_X9_isFree_73 o_me rec_38_2 v1 v3)
  else
  (zgd (zin v3 5) <|
  zgd (zin v1 5) <|
  if (gA o_me 48 v3.toNatClampNeg) = (gA o_me 48 v1.toNatClampNeg) then
  (bk_X9_isFree_77 o_me rec_38_2 v1 v3)
  else
  (bk_X9_isFree_73 o_me rec_38_2 v1 v3))))
def lp_X9_isFree_38 (o_me : Ob)  : Nat → (Int32 × Int32 × Int32) → Option (Int32) := zit (fun rec a => lb_X9_isFree_38 o_me  rec a.1 a.2.1 a.2.2)
def bk_X9_isFree_35 (o_me : Ob)  (v1 : Int32) (s0 : Int32) : Option (Int32) :=
  lp_X9_isFree_38 o_me  zfu (v1, s0, (0 : Int32))
def bk_X9_isFree_30 (o_me : Ob)  (v1 : Int32) : Option (Int32) :=
  bk_X9_isFree_35 o_me  v1 (1 : Int32)
def f_X9_isFree (o_me : Ob) (p0 : Int32) : Option (Int32) :=
  zgd (zin p0 5) <|
  if (gA o_me 48 p0.toNatClampNeg) = (7 : Int32) then
  (bk_X9_isFree_30 o_me  p0)
  else
  (zgd (zin p0 5) <|
  zgd (zin (((4 : Int32) * (gA o_me 48 p0.toNatClampNeg)) + p0) 28) <|
  if (gA o_me 47 (((4 : Int32) * (gA o_me 48 p0.toNatClampNeg)) + p0).toNatClampNeg) = (-1 : Int32) then
  (bk_X9_isFree_35 o_me  p0 (0 : Int32))
  else
  (bk_X9_isFree_30 o_me  p0))
set_option maxHeartbeats 4000000 in
set_option maxRecDepth 100000 in
theorem m_X9_isFree (l : Launch) (dC : Nat → ClassId) (dI : Nat → Nat → Nat) (sz : Nat) (h_me : Nat) (q_me : Nat → Nat) (k_me : Nat → ClassId) (o_me : Ob) (p0 : Int32) (y : Int32) (h : f_X9_isFree o_me p0 = some y) : CI l yX9_isFree cX9_isFree 4 (some .boolean) ({ frames := 0, cells := 0, slots := 0, locals := 0 } : Room) dC dI sz [.ref h_me, .int p0] [wX9 h_me q_me k_me o_me] [tX9 k_me] y [wX9 h_me q_me k_me o_me] := by
  refine CC_of (by decide) (Nat.le_of_ble_eq_true rfl) ?_
  intro p e s m below meth c A ls hx hb hml hr hlk hnm hown hts hX hK hP hD hA hl
  have hl : lv_has ls 4 [(0, .ref h_me), (1, .int p0)] := hl
  have hown : s.vm.findClass RX9 = some m.cls := hown
  have hw : Wd dC dI A s.heap [wX9 h_me q_me k_me o_me] s.heap [] := ⟨hP, hD, va_S.rf⟩
  generalize hQz : (MQ below (QI dC dI (fun r (_ : Unit) => r = y) (fun _ => Jn [wX9 h_me q_me k_me o_me]) (fun _ => Jt [tX9 k_me]) A) ([.ref h_me, .int p0] : List Value).toArray s 0 0 A) = Qz
  clear hP hD hnm
  have bk_78_4 : ∀ (rec_38_2 : Int32 × Int32 × Int32 → Option (Int32)) (hrec_38_2 : ∀ (v1 : Int32) (v2 : Int32) (v3 : Int32) (H : Heap) (locs : List Loc) (ls : Array Slot), rec_38_2 (v1, v2, v3) = some y → Wd dC dI A s.heap [wX9 h_me q_me k_me o_me] H locs → lv_has ls 4 [(0, .ref h_me), (1, .int v1), (2, .int v2), (3, .int v3)] → W p l e ({ frames := 0, cells := 0, slots := 0, locals := 0 } : Room) s m ([.ref h_me, .int p0] : List Value).toArray below meth c H locs 0 0 Qz (F0 m 38 ls [])), ∀ (v1 : Int32) (v3 : Int32) (s0 : Int32) (H : Heap) (locs : List Loc) (ls : Array Slot), bk_X9_isFree_78 o_me rec_38_2 v1 v3 s0 = some y → Wd dC dI A s.heap [wX9 h_me q_me k_me o_me] H locs → lv_has ls 4 [(0, .ref h_me), (1, .int v1), (3, .int v3)] → W p l e ({ frames := 0, cells := 0, slots := 0, locals := 0 } : Room) s m ([.ref h_me, .int p0] : List Value).toArray below meth c H locs 0 0 Qz (F0 m 78 ls [.int s0]) := by
    intro rec_38_2 hrec_38_2
    intro v1 v3 s0 H locs ls h hw hl
    unfold bk_X9_isFree_78 at h
    refine lv_istore_n (lv' := [(2, .int s0), (0, .ref h_me), (1, .int v1), (3, .int v3)]) hx hb dX9_isFree_78 rfl hl (by decide) rfl (fun ls hl => ?_)
    obtain ⟨x3, ex3, h⟩ := z_lt h
    refine lv_iinc (v := x3) (lv' := [(3, .int x3), (2, .int s0), (0, .ref h_me), (1, .int v1)]) hx hb dX9_isFree_79 hl (k := 3) rfl ((congrArg (v3 + ·) (show Int32.ofInt 1 = (1 : Int32) from by decide)).trans ex3.symm) (by decide) rfl (fun ls hl => ?_)
    refine lv_goto (tgt := 38) hx hb dX9_isFree_82 (by decide) ?_
    exact hrec_38_2 v1 s0 x3 _ _ _ h hw (lv_sub hl [2, 3, 1, 0] rfl)
  have bk_77_3 : ∀ (rec_38_2 : Int32 × Int32 × Int32 → Option (Int32)) (hrec_38_2 : ∀ (v1 : Int32) (v2 : Int32) (v3 : Int32) (H : Heap) (locs : List Loc) (ls : Array Slot), rec_38_2 (v1, v2, v3) = some y → Wd dC dI A s.heap [wX9 h_me q_me k_me o_me] H locs → lv_has ls 4 [(0, .ref h_me), (1, .int v1), (2, .int v2), (3, .int v3)] → W p l e ({ frames := 0, cells := 0, slots := 0, locals := 0 } : Room) s m ([.ref h_me, .int p0] : List Value).toArray below meth c H locs 0 0 Qz (F0 m 38 ls [])), ∀ (v1 : Int32) (v3 : Int32) (H : Heap) (locs : List Loc) (ls : Array Slot), bk_X9_isFree_77 o_me rec_38_2 v1 v3 = some y → Wd dC dI A s.heap [wX9 h_me q_me k_me o_me] H locs → lv_has ls 4 [(0, .ref h_me), (1, .int v1), (3, .int v3)] → W p l e ({ frames := 0, cells := 0, slots := 0, locals := 0 } : Room) s m ([.ref h_me, .int p0] : List Value).toArray below meth c H locs 0 0 Qz (F0 m 77 ls []) := by
    intro rec_38_2 hrec_38_2
    intro v1 v3 H locs ls h hw hl
    unfold bk_X9_isFree_77 at h
    refine lv_iconst (v := 0) hx hb dX9_isFree_77 (by decide) ?_
    exact bk_78_4 rec_38_2 hrec_38_2 v1 v3 (0 : Int32) _ _ _ h hw (lv_sub hl [0, 1, 2] rfl)
  have bk_73_5 : ∀ (rec_38_2 : Int32 × Int32 × Int32 → Option (Int32)) (hrec_38_2 : ∀ (v1 : Int32) (v2 : Int32) (v3 : Int32) (H : Heap) (locs : List Loc) (ls : Array Slot), rec_38_2 (v1, v2, v3) = some y → Wd dC dI A s.heap [wX9 h_me q_me k_me o_me] H locs → lv_has ls 4 [(0, .ref h_me), (1, .int v1), (2, .int v2), (3, .int v3)] → W p l e ({ frames := 0, cells := 0, slots := 0, locals := 0 } : Room) s m ([.ref h_me, .int p0] : List Value).toArray below meth c H locs 0 0 Qz (F0 m 38 ls [])), ∀ (v1 : Int32) (v3 : Int32) (H : Heap) (locs : List Loc) (ls : Array Slot), bk_X9_isFree_73 o_me rec_38_2 v1 v3 = some y → Wd dC dI A s.heap [wX9 h_me q_me k_me o_me] H locs → lv_has ls 4 [(0, .ref h_me), (1, .int v1), (3, .int v3)] → W p l e ({ frames := 0, cells := 0, slots := 0, locals := 0 } : Room) s m ([.ref h_me, .int p0] : List Value).toArray below meth c H locs 0 0 Qz (F0 m 73 ls []) := by
    intro rec_38_2 hrec_38_2
    intro v1 v3 H locs ls h hw hl
    unfold bk_X9_isFree_73 at h
    refine lv_iconst (v := 1) hx hb dX9_isFree_73 (by decide) ?_
    refine lv_goto (tgt := 78) hx hb dX9_isFree_74 (by decide) ?_
    exact bk_78_4 rec_38_2 hrec_38_2 v1 v3 (1 : Int32) _ _ _ h hw (lv_sub hl [0, 1, 2] rfl)
  have lp_38_2 : ∀ (N : Nat), ∀ (v1 : Int32) (v2 : Int32) (v3 : Int32) (H : Heap) (locs : List Loc) (ls : Array Slot), lp_X9_isFree_38 o_me  N (v1, v2, v3) = some y → Wd dC dI A s.heap [wX9 h_me q_me k_me o_me] H locs → lv_has ls 4 [(0, .ref h_me), (1, .int v1), (2, .int v2), (3, .int v3)] → W p l e ({ frames := 0, cells := 0, slots := 0, locals := 0 } : Room) s m ([.ref h_me, .int p0] : List Value).toArray below meth c H locs 0 0 Qz (F0 m 38 ls []) := by
    intro N
    induction N with
    | zero =>
      intro v1 v2 v3 H locs ls h hw hl
      exact absurd (show (none : Option (Int32)) = some y from h) (by simp)
    | succ N ih =>
      intro v1 v2 v3 H locs ls h hw hl
      have h : lb_X9_isFree_38 o_me  (lp_X9_isFree_38 o_me  N) v1 v2 v3 = some y := h
      unfold lb_X9_isFree_38 at h
      refine lv_iload_n hx hb dX9_isFree_38 rfl (lv_at hl 3 rfl) ?_
      refine lv_iload_n hx hb dX9_isFree_39 rfl (lv_at hl 1 rfl) ?_
      refine lv_icmp_ge (tgt := 85) hx hb dX9_isFree_40 (by decide) (fun c => ?_) (fun c => ?_)
      · have h := z_t h c
        refine lv_iload_n hx hb dX9_isFree_85 rfl (lv_at hl 2 rfl) ?_
        obtain ⟨g2, h⟩ := z_gd h
        have hy := Option.some.inj h
        rw [← hQz, ← hy]
        exact xr_i (v := v2) hx hb hr (z_nar g2) hlk hK hw dX9_isFree_86
      · have h := z_f h c
        refine lv_iload_n hx hb dX9_isFree_43 rfl (lv_at hl 2 rfl) ?_
        refine lv_if_eq (tgt := 77) hx hb dX9_isFree_44 (by decide) (fun c => ?_) (fun c => ?_)
        · have h := z_t h c
          exact bk_77_3 (lp_X9_isFree_38 o_me  N) ih v1 v3 _ _ _ h hw (lv_sub hl [0, 1, 3] rfl)
        · have h := z_f h c
          refine lv_aload_n hx hb dX9_isFree_47 rfl (lv_at hl 0 rfl) ?_
          refine fgX9_48 hx hb hts hown hK hw 0 rfl kw1224 dX9_isFree_48 ?_
          refine lv_iload_n hx hb dX9_isFree_51 rfl (lv_at hl 1 rfl) ?_
          obtain ⟨g4, h⟩ := z_gd h
          refine faX9_48 hx hb hK hw 0 rfl rfl g4 dX9_isFree_52 ?_
          refine lv_bipush (v := 7) hx hb dX9_isFree_53 (by decide) ?_
          refine lv_icmp_eq (tgt := 73) hx hb dX9_isFree_55 (by decide) (fun c => ?_) (fun c => ?_)
          · have h := z_t h c
            exact bk_73_5 (lp_X9_isFree_38 o_me  N) ih v1 v3 _ _ _ h hw (lv_sub hl [0, 1, 3] rfl)
          · have h := z_f h c
            refine lv_aload_n hx hb dX9_isFree_58 rfl (lv_at hl 0 rfl) ?_
            refine fgX9_48 hx hb hts hown hK hw 0 rfl kw1224 dX9_isFree_59 ?_
            refine lv_iload_n hx hb dX9_isFree_62 rfl (lv_at hl 3 rfl) ?_
            obtain ⟨g5, h⟩ := z_gd h
            refine faX9_48 hx hb hK hw 0 rfl rfl g5 dX9_isFree_63 ?_
            refine lv_aload_n hx hb dX9_isFree_64 rfl (lv_at hl 0 rfl) ?_
            refine fgX9_48 hx hb hts hown hK hw 0 rfl kw1224 dX9_isFree_65 ?_
            refine lv_iload_n hx hb dX9_isFree_68 rfl (lv_at hl 1 rfl) ?_
            obtain ⟨g6, h⟩ := z_gd h
            refine faX9_48 hx hb hK hw 0 rfl rfl g6 dX9_isFree_69 ?_
            refine lv_icmp_eq (tgt := 77) hx hb dX9_isFree_70 (by decide) (fun c => ?_) (fun c => ?_)
            · have h := z_t h c
              exact bk_77_3 (lp_X9_isFree_38 o_me  N) ih v1 v3 _ _ _ h hw (lv_sub hl [0, 1, 3] rfl)
            · have h := z_f h c
              exact bk_73_5 (lp_X9_isFree_38 o_me  N) ih v1 v3 _ _ _ h hw (lv_sub hl [0, 1, 3] rfl)
  have bk_35_1 : ∀ (v1 : Int32) (s0 : Int32) (H : Heap) (locs : List Loc) (ls : Array Slot), bk_X9_isFree_35 o_me  v1 s0 = some y → Wd dC dI A s.heap [wX9 h_me q_me k_me o_me] H locs → lv_has ls 4 [(0, .ref h_me), (1, .int v1)] → W p l e ({ frames := 0, cells := 0, slots := 0, locals := 0 } : Room) s m ([.ref h_me, .int p0] : List Value).toArray below meth c H locs 0 0 Qz (F0 m 35 ls [.int s0]) := by
    intro v1 s0 H locs ls h hw hl
    unfold bk_X9_isFree_35 at h
    refine lv_istore_n (lv' := [(2, .int s0), (0, .ref h_me), (1, .int v1)]) hx hb dX9_isFree_35 rfl hl (by decide) rfl (fun ls hl => ?_)
    refine lv_iconst (v := 0) hx hb dX9_isFree_36 (by decide) ?_
    refine lv_istore_n (lv' := [(3, .int (0 : Int32)), (2, .int s0), (0, .ref h_me), (1, .int v1)]) hx hb dX9_isFree_37 rfl hl (by decide) rfl (fun ls hl => ?_)
    exact lp_38_2  zfu v1 s0 (0 : Int32) _ _ _ h hw (lv_sub hl [2, 3, 1, 0] rfl)
  have bk_30_0 : ∀ (v1 : Int32) (H : Heap) (locs : List Loc) (ls : Array Slot), bk_X9_isFree_30 o_me  v1 = some y → Wd dC dI A s.heap [wX9 h_me q_me k_me o_me] H locs → lv_has ls 4 [(0, .ref h_me), (1, .int v1)] → W p l e ({ frames := 0, cells := 0, slots := 0, locals := 0 } : Room) s m ([.ref h_me, .int p0] : List Value).toArray below meth c H locs 0 0 Qz (F0 m 30 ls []) := by
    intro v1 H locs ls h hw hl
    unfold bk_X9_isFree_30 at h
    refine lv_iconst (v := 1) hx hb dX9_isFree_30 (by decide) ?_
    refine lv_goto (tgt := 35) hx hb dX9_isFree_31 (by decide) ?_
    exact bk_35_1  v1 (1 : Int32) _ _ _ h hw (lv_sub hl [0, 1] rfl)
  unfold f_X9_isFree at h
  refine lv_aload_n hx hb dX9_isFree_0 rfl (lv_at hl 0 rfl) ?_
  refine fgX9_48 hx hb hts hown hK hw 0 rfl kw1224 dX9_isFree_1 ?_
  refine lv_iload_n hx hb dX9_isFree_4 rfl (lv_at hl 1 rfl) ?_
  obtain ⟨g1, h⟩ := z_gd h
  refine faX9_48 hx hb hK hw 0 rfl rfl g1 dX9_isFree_5 ?_
  refine lv_bipush (v := 7) hx hb dX9_isFree_6 (by decide) ?_
  refine lv_icmp_eq (tgt := 30) hx hb dX9_isFree_8 (by decide) (fun c => ?_) (fun c => ?_)
  · have h := z_t h c
    exact bk_30_0  p0 _ _ _ h hw (lv_sub hl [0, 1] rfl)
  · have h := z_f h c
    refine lv_aload_n hx hb dX9_isFree_11 rfl (lv_at hl 0 rfl) ?_
    refine fgX9_47 hx hb hts hown hK hw 0 rfl kw1223 dX9_isFree_12 ?_
    refine lv_iconst (v := 4) hx hb dX9_isFree_15 (by decide) ?_
    refine lv_aload_n hx hb dX9_isFree_16 rfl (lv_at hl 0 rfl) ?_
    refine fgX9_48 hx hb hts hown hK hw 0 rfl kw1224 dX9_isFree_17 ?_
    refine lv_iload_n hx hb dX9_isFree_20 rfl (lv_at hl 1 rfl) ?_
    obtain ⟨g7, h⟩ := z_gd h
    refine faX9_48 hx hb hK hw 0 rfl rfl g7 dX9_isFree_21 ?_
    refine lv_imul hx hb dX9_isFree_22 ?_
    refine lv_iload_n hx hb dX9_isFree_23 rfl (lv_at hl 1 rfl) ?_
    refine lv_iadd hx hb dX9_isFree_24 ?_
    obtain ⟨g8, h⟩ := z_gd h
    refine faX9_47 hx hb hK hw 0 rfl rfl g8 dX9_isFree_25 ?_
    refine lv_iconst (v := (-1)) hx hb dX9_isFree_26 (by decide) ?_
    refine lv_icmp_eq (tgt := 34) hx hb dX9_isFree_27 (by decide) (fun c => ?_) (fun c => ?_)
    · have h := z_t h c
      refine lv_iconst (v := 0) hx hb dX9_isFree_34 (by decide) ?_
      exact bk_35_1  p0 (0 : Int32) _ _ _ h hw (lv_sub hl [0, 1] rfl)
    · have h := z_f h c
      exact bk_30_0  p0 _ _ _ h hw (lv_sub hl [0, 1] rfl)

def bk_X9_findCrowned_163  (rec_75_1 : Int32 × Int32 × Ob → Option (Int32 × Ob)) (v2 : Int32) (s0 : Int32) (o_me : Ob) : Option (Int32 × Ob) :=
  zlt (v2 + (-1 : Int32)) fun x5 =>
  rec_75_1 (s0, x5, o_me)
def bk_X9_findCrowned_153  (rec_75_1 : Int32 × Int32 × Ob → Option (Int32 × Ob)) (v1 : Int32) (v2 : Int32) (v3 : Int32) (o_me : Ob) : Option (Int32 × Ob) :=
  if v3 ≤ v1 then
  (bk_X9_findCrowned_163  rec_75_1 v2 v1 o_me)
  else
  (bk_X9_findCrowned_163  rec_75_1 v2 v3 o_me)
def lb_X9_findCrowned_122  (rec_75_1 : Int32 × Int32 × Ob → Option (Int32 × Ob)) (rec_122_4 : Int32 × Int32 × Int32 × Int32 × Ob → Option (Int32 × Ob)) (v1 : Int32) (v2 : Int32) (v3 : Int32) (v4 : Int32) (o_me : Ob) : Option (Int32 × Ob) :=
  if (4 : Int32) ≤ v4 then
  (bk_X9_findCrowned_153  rec_75_1 v1 v2 v3 o_me)
  else
  (if v3 ≤ v1 then
  (bk_X9_findCrowned_153  rec_75_1 v1 v2 v3 o_me)
  else
  (zgd (zin v4 5) <|
  zgd (zin v4 4) <|
  zlt (tA o_me 49 v4.toNatClampNeg (gA o_me 48 v4.toNatClampNeg)) fun o8 =>
  zlt (v4 + (1 : Int32)) fun x9 =>
  rec_122_4 (v1, v2, v3, x9, o8)))
def lp_X9_findCrowned_122  (rec_75_1 : Int32 × Int32 × Ob → Option (Int32 × Ob)) : Nat → (Int32 × Int32 × Int32 × Int32 × Ob) → Option (Int32 × Ob) := zit (fun rec a => lb_X9_findCrowned_122  rec_75_1 rec a.1 a.2.1 a.2.2.1 a.2.2.2.1 a.2.2.2.2)
def bk_X9_findCrowned_118  (rec_75_1 : Int32 × Int32 × Ob → Option (Int32 × Ob)) (v1 : Int32) (v2 : Int32) (s0 : Int32) (o_me : Ob) : Option (Int32 × Ob) :=
  lp_X9_findCrowned_122  rec_75_1 zfu (v1, v2, s0, (0 : Int32), o_me)
def bk_X9_findCrowned_105  (rec_75_1 : Int32 × Int32 × Ob → Option (Int32 × Ob)) (v1 : Int32) (v2 : Int32) (o_me : Ob) : Option (Int32 × Ob) :=
  if v2 = (4 : Int32) then
  ((f_X9_scoreNow o_me).bind fun z10 =>
  bk_X9_findCrowned_118  rec_75_1 v1 v2 z10 o_me)
  else
  (bk_X9_findCrowned_118  rec_75_1 v1 v2 (-1 : Int32) o_me)
def lb_X9_findCrowned_75   (rec_75_1 : Int32 × Int32 × Ob → Option (Int32 × Ob)) (v1 : Int32) (v2 : Int32) (o_me : Ob) : Option (Int32 × Ob) :=
  if v2 < (0 : Int32) then
  (some (v1, o_me))
  else
  (zgd (zin v2 5) <|
  zgd (zin v2 5) <|
  zlt (tA o_me 48 v2.toNatClampNeg ((gA o_me 48 v2.toNatClampNeg) + (1 : Int32))) fun o4 =>
  if v2 = (4 : Int32) then
  (bk_X9_findCrowned_105  rec_75_1 v1 v2 o4)
  else
  (zgd (zin v2 5) <|
  if (gA o4 48 v2.toNatClampNeg) ≤ (7 : Int32) then
  ((f_X9_isFree o4 v2).bind fun z12 =>
  if z12 = (0 : Int32) then
  (rec_75_1 (v1, v2, o4))
  else
  (zlt (v2 + (1 : Int32)) fun x13 =>
  zgd (zin x13 5) <|
  zlt (tA o4 48 x13.toNatClampNeg (-1 : Int32)) fun o15 =>
  rec_75_1 (v1, x13, o15)))
  else
  (bk_X9_findCrowned_105  rec_75_1 v1 v2 o4)))
def lp_X9_findCrowned_75   : Nat → (Int32 × Int32 × Ob) → Option (Int32 × Ob) := zit (fun rec a => lb_X9_findCrowned_75   rec a.1 a.2.1 a.2.2)
def bk_X9_findCrowned_51  (rec_2_0 : Int32 × Ob → Option (Int32 × Ob)) (rec_10_7 : Int32 × Int32 × Ob → Option (Int32 × Ob)) (v1 : Int32) (v2 : Int32) (s0 : Int32) (s1 : Int32) (o_me : Ob) : Option (Int32 × Ob) :=
  zgd (zin s1 28) <|
  zlt (tA o_me 47 s1.toNatClampNeg s0) fun o19 =>
  zlt (v2 + (1 : Int32)) fun x20 =>
  rec_10_7 (v1, x20, o19)
def bk_X9_findCrowned_50  (rec_2_0 : Int32 × Ob → Option (Int32 × Ob)) (rec_10_7 : Int32 × Int32 × Ob → Option (Int32 × Ob)) (v1 : Int32) (v2 : Int32) (s0 : Int32) (o_me : Ob) : Option (Int32 × Ob) :=
  bk_X9_findCrowned_51  rec_2_0 rec_10_7 v1 v2 (-1 : Int32) s0 o_me
def lb_X9_findCrowned_10  (rec_2_0 : Int32 × Ob → Option (Int32 × Ob)) (rec_10_7 : Int32 × Int32 × Ob → Option (Int32 × Ob)) (v1 : Int32) (v2 : Int32) (o_me : Ob) : Option (Int32 × Ob) :=
  if (4 : Int32) ≤ v2 then
  (zlt (v1 + (1 : Int32)) fun x16 =>
  rec_2_0 (x16, o_me))
  else
  ((f_X9_isPerson o_me v1).bind fun z17 =>
  if z17 = (0 : Int32) then
  (bk_X9_findCrowned_50  rec_2_0 rec_10_7 v1 v2 (((4 : Int32) * v1) + v2) o_me)
  else
  ((f_X9_isBarred o_me v1 v2).bind fun z21 =>
  if z21.1 = (0 : Int32) then
  ((f_X9_runsOf z21.2 v1 v2).bind fun z22 =>
  bk_X9_findCrowned_51  rec_2_0 rec_10_7 v1 v2 z22.1 (((4 : Int32) * v1) + v2) z22.2)
  else
  (bk_X9_findCrowned_50  rec_2_0 rec_10_7 v1 v2 (((4 : Int32) * v1) + v2) z21.2)))
def lp_X9_findCrowned_10  (rec_2_0 : Int32 × Ob → Option (Int32 × Ob)) : Nat → (Int32 × Int32 × Ob) → Option (Int32 × Ob) := zit (fun rec a => lb_X9_findCrowned_10  rec_2_0 rec a.1 a.2.1 a.2.2)
def lb_X9_findCrowned_2   (rec_2_0 : Int32 × Ob → Option (Int32 × Ob)) (v1 : Int32) (o_me : Ob) : Option (Int32 × Ob) :=
  if (7 : Int32) ≤ v1 then
  (zlt (tA o_me 48 (0 : Int32).toNatClampNeg (-1 : Int32)) fun o1 =>
  lp_X9_findCrowned_75   zfu ((-1 : Int32), (0 : Int32), o1))
  else
  (lp_X9_findCrowned_10  rec_2_0 zfu (v1, (0 : Int32), o_me))
def lp_X9_findCrowned_2   : Nat → (Int32 × Ob) → Option (Int32 × Ob) := zit (fun rec a => lb_X9_findCrowned_2   rec a.1 a.2)
def f_X9_findCrowned (o_me : Ob) : Option (Int32 × Ob) :=
  lp_X9_findCrowned_2   zfu ((0 : Int32), o_me)
set_option maxHeartbeats 4000000 in
set_option maxRecDepth 100000 in
theorem m_X9_findCrowned (l : Launch) (dC : Nat → ClassId) (dI : Nat → Nat → Nat) (sz : Nat) (h_me : Nat) (q_me : Nat → Nat) (k_me : Nat → ClassId) (o_me : Ob) (y : Int32 × Ob) (h : f_X9_findCrowned o_me = some y) : CI l yX9_findCrowned cX9_findCrowned 5 (some .int) ({ frames := 6, cells := 0, slots := 0, locals := 145 } : Room) dC dI sz [.ref h_me] [wX9 h_me q_me k_me o_me] [tX9 k_me] y.1 [wX9 h_me q_me k_me y.2] := by
  refine CC_of (by decide) (Nat.le_of_ble_eq_true rfl) ?_
  intro p e s m below meth c A ls hx hb hml hr hlk hnm hown hts hX hK hP hD hA hl
  have hl : lv_has ls 5 [(0, .ref h_me)] := hl
  have hown : s.vm.findClass RX9 = some m.cls := hown
  have hw : Wd dC dI A s.heap [wX9 h_me q_me k_me o_me] s.heap [] := ⟨hP, hD, va_S.rf⟩
  generalize hQz : (MQ below (QI dC dI (fun r (_ : Unit) => r = y.1) (fun _ => Jn [wX9 h_me q_me k_me y.2]) (fun _ => Jt [tX9 k_me]) A) ([.ref h_me] : List Value).toArray s 0 0 A) = Qz
  clear hP hD hnm
  have bk_163_6 : ∀ (rec_75_1 : Int32 × Int32 × Ob → Option (Int32 × Ob)) (hrec_75_1 : ∀ (v1 : Int32) (v2 : Int32) (o_me : Ob) (H : Heap) (locs : List Loc) (ls : Array Slot), rec_75_1 (v1, v2, o_me) = some y → Wd dC dI A s.heap [wX9 h_me q_me k_me o_me] H locs → lv_has ls 5 [(0, .ref h_me), (1, .int v1), (2, .int v2)] → W p l e ({ frames := 6, cells := 0, slots := 0, locals := 145 } : Room) s m ([.ref h_me] : List Value).toArray below meth c H locs 0 0 Qz (F0 m 75 ls [])), ∀ (v2 : Int32) (s0 : Int32) (o_me : Ob) (H : Heap) (locs : List Loc) (ls : Array Slot), bk_X9_findCrowned_163  rec_75_1 v2 s0 o_me = some y → Wd dC dI A s.heap [wX9 h_me q_me k_me o_me] H locs → lv_has ls 5 [(0, .ref h_me), (2, .int v2)] → W p l e ({ frames := 6, cells := 0, slots := 0, locals := 145 } : Room) s m ([.ref h_me] : List Value).toArray below meth c H locs 0 0 Qz (F0 m 163 ls [.int s0]) := by
    intro rec_75_1 hrec_75_1
    intro v2 s0 o_me H locs ls h hw hl
    unfold bk_X9_findCrowned_163 at h
    refine lv_istore_n (lv' := [(1, .int s0), (0, .ref h_me), (2, .int v2)]) hx hb dX9_findCrowned_163 rfl hl (by decide) rfl (fun ls hl => ?_)
    obtain ⟨x5, ex5, h⟩ := z_lt h
    refine lv_iinc (v := x5) (lv' := [(2, .int x5), (1, .int s0), (0, .ref h_me)]) hx hb dX9_findCrowned_164 hl (k := 2) rfl ((congrArg (v2 + ·) (show Int32.ofInt (-1) = (-1 : Int32) from by decide)).trans ex5.symm) (by decide) rfl (fun ls hl => ?_)
    refine lv_goto (tgt := 75) hx hb dX9_findCrowned_167 (by decide) ?_
    exact hrec_75_1 s0 x5 o_me _ _ _ h hw (lv_sub hl [2, 1, 0] rfl)
  have bk_153_5 : ∀ (rec_75_1 : Int32 × Int32 × Ob → Option (Int32 × Ob)) (hrec_75_1 : ∀ (v1 : Int32) (v2 : Int32) (o_me : Ob) (H : Heap) (locs : List Loc) (ls : Array Slot), rec_75_1 (v1, v2, o_me) = some y → Wd dC dI A s.heap [wX9 h_me q_me k_me o_me] H locs → lv_has ls 5 [(0, .ref h_me), (1, .int v1), (2, .int v2)] → W p l e ({ frames := 6, cells := 0, slots := 0, locals := 145 } : Room) s m ([.ref h_me] : List Value).toArray below meth c H locs 0 0 Qz (F0 m 75 ls [])), ∀ (v1 : Int32) (v2 : Int32) (v3 : Int32) (o_me : Ob) (H : Heap) (locs : List Loc) (ls : Array Slot), bk_X9_findCrowned_153  rec_75_1 v1 v2 v3 o_me = some y → Wd dC dI A s.heap [wX9 h_me q_me k_me o_me] H locs → lv_has ls 5 [(0, .ref h_me), (1, .int v1), (2, .int v2), (3, .int v3)] → W p l e ({ frames := 6, cells := 0, slots := 0, locals := 145 } : Room) s m ([.ref h_me] : List Value).toArray below meth c H locs 0 0 Qz (F0 m 153 ls []) := by
    intro rec_75_1 hrec_75_1
    intro v1 v2 v3 o_me H locs ls h hw hl
    unfold bk_X9_findCrowned_153 at h
    refine lv_iload_n hx hb dX9_findCrowned_153 rfl (lv_at hl 3 rfl) ?_
    refine lv_iload_n hx hb dX9_findCrowned_154 rfl (lv_at hl 1 rfl) ?_
    refine lv_icmp_le (tgt := 162) hx hb dX9_findCrowned_155 (by decide) (fun c => ?_) (fun c => ?_)
    · have h := z_t h c
      refine lv_iload_n hx hb dX9_findCrowned_162 rfl (lv_at hl 1 rfl) ?_
      exact bk_163_6 rec_75_1 hrec_75_1 v2 v1 o_me _ _ _ h hw (lv_sub hl [0, 2] rfl)
    · have h := z_f h c
      refine lv_iload_n hx hb dX9_findCrowned_158 rfl (lv_at hl 3 rfl) ?_
      refine lv_goto (tgt := 163) hx hb dX9_findCrowned_159 (by decide) ?_
      exact bk_163_6 rec_75_1 hrec_75_1 v2 v3 o_me _ _ _ h hw (lv_sub hl [0, 2] rfl)
  have lp_122_4 : ∀ (rec_75_1 : Int32 × Int32 × Ob → Option (Int32 × Ob)) (hrec_75_1 : ∀ (v1 : Int32) (v2 : Int32) (o_me : Ob) (H : Heap) (locs : List Loc) (ls : Array Slot), rec_75_1 (v1, v2, o_me) = some y → Wd dC dI A s.heap [wX9 h_me q_me k_me o_me] H locs → lv_has ls 5 [(0, .ref h_me), (1, .int v1), (2, .int v2)] → W p l e ({ frames := 6, cells := 0, slots := 0, locals := 145 } : Room) s m ([.ref h_me] : List Value).toArray below meth c H locs 0 0 Qz (F0 m 75 ls [])) (N : Nat), ∀ (v1 : Int32) (v2 : Int32) (v3 : Int32) (v4 : Int32) (o_me : Ob) (H : Heap) (locs : List Loc) (ls : Array Slot), lp_X9_findCrowned_122  rec_75_1 N (v1, v2, v3, v4, o_me) = some y → Wd dC dI A s.heap [wX9 h_me q_me k_me o_me] H locs → lv_has ls 5 [(0, .ref h_me), (1, .int v1), (2, .int v2), (3, .int v3), (4, .int v4)] → W p l e ({ frames := 6, cells := 0, slots := 0, locals := 145 } : Room) s m ([.ref h_me] : List Value).toArray below meth c H locs 0 0 Qz (F0 m 122 ls []) := by
    intro rec_75_1 hrec_75_1
    intro N
    induction N with
    | zero =>
      intro v1 v2 v3 v4 o_me H locs ls h hw hl
      exact absurd (show (none : Option (Int32 × Ob)) = some y from h) (by simp)
    | succ N ih =>
      intro v1 v2 v3 v4 o_me H locs ls h hw hl
      have h : lb_X9_findCrowned_122  rec_75_1 (lp_X9_findCrowned_122  rec_75_1 N) v1 v2 v3 v4 o_me = some y := h
      unfold lb_X9_findCrowned_122 at h
      refine lv_iload hx hb dX9_findCrowned_122 (lv_at hl 4 rfl) ?_
      refine lv_iconst (v := 4) hx hb dX9_findCrowned_124 (by decide) ?_
      refine lv_icmp_ge (tgt := 153) hx hb dX9_findCrowned_125 (by decide) (fun c => ?_) (fun c => ?_)
      · have h := z_t h c
        exact bk_153_5 rec_75_1 hrec_75_1 v1 v2 v3 o_me _ _ _ h hw (lv_sub hl [0, 1, 2, 3] rfl)
      · have h := z_f h c
        refine lv_iload_n hx hb dX9_findCrowned_128 rfl (lv_at hl 3 rfl) ?_
        refine lv_iload_n hx hb dX9_findCrowned_129 rfl (lv_at hl 1 rfl) ?_
        refine lv_icmp_le (tgt := 153) hx hb dX9_findCrowned_130 (by decide) (fun c => ?_) (fun c => ?_)
        · have h := z_t h c
          exact bk_153_5 rec_75_1 hrec_75_1 v1 v2 v3 o_me _ _ _ h hw (lv_sub hl [0, 1, 2, 3] rfl)
        · have h := z_f h c
          refine lv_aload_n hx hb dX9_findCrowned_133 rfl (lv_at hl 0 rfl) ?_
          refine fgX9_49 hx hb hts hown hK hw 0 rfl kw1225 dX9_findCrowned_134 ?_
          refine lv_iload hx hb dX9_findCrowned_137 (lv_at hl 4 rfl) ?_
          refine lv_aload_n hx hb dX9_findCrowned_139 rfl (lv_at hl 0 rfl) ?_
          refine fgX9_48 hx hb hts hown hK hw 0 rfl kw1224 dX9_findCrowned_140 ?_
          refine lv_iload hx hb dX9_findCrowned_143 (lv_at hl 4 rfl) ?_
          obtain ⟨g6, h⟩ := z_gd h
          refine faX9_48 hx hb hK hw 0 rfl rfl g6 dX9_findCrowned_145 ?_
          obtain ⟨g7, h⟩ := z_gd h
          refine fbX9_49 hx hb hK hw 0 rfl rfl g7 dX9_findCrowned_146 (fun H locs hw => ?_)
          obtain ⟨o8, eo8, h⟩ := z_lt h
          have hw : Wd dC dI A s.heap [wX9 h_me q_me k_me o8] H locs := by rw [eo8]; exact hw
          obtain ⟨x9, ex9, h⟩ := z_lt h
          refine lv_iinc (v := x9) (lv' := [(4, .int x9), (0, .ref h_me), (1, .int v1), (2, .int v2), (3, .int v3)]) hx hb dX9_findCrowned_147 hl (k := 4) rfl ((congrArg (v4 + ·) (show Int32.ofInt 1 = (1 : Int32) from by decide)).trans ex9.symm) (by decide) rfl (fun ls hl => ?_)
          refine lv_goto (tgt := 122) hx hb dX9_findCrowned_150 (by decide) ?_
          exact ih v1 v2 v3 x9 o8 _ _ _ h hw (lv_sub hl [1, 2, 3, 4, 0] rfl)
  have bk_118_3 : ∀ (rec_75_1 : Int32 × Int32 × Ob → Option (Int32 × Ob)) (hrec_75_1 : ∀ (v1 : Int32) (v2 : Int32) (o_me : Ob) (H : Heap) (locs : List Loc) (ls : Array Slot), rec_75_1 (v1, v2, o_me) = some y → Wd dC dI A s.heap [wX9 h_me q_me k_me o_me] H locs → lv_has ls 5 [(0, .ref h_me), (1, .int v1), (2, .int v2)] → W p l e ({ frames := 6, cells := 0, slots := 0, locals := 145 } : Room) s m ([.ref h_me] : List Value).toArray below meth c H locs 0 0 Qz (F0 m 75 ls [])), ∀ (v1 : Int32) (v2 : Int32) (s0 : Int32) (o_me : Ob) (H : Heap) (locs : List Loc) (ls : Array Slot), bk_X9_findCrowned_118  rec_75_1 v1 v2 s0 o_me = some y → Wd dC dI A s.heap [wX9 h_me q_me k_me o_me] H locs → lv_has ls 5 [(0, .ref h_me), (1, .int v1), (2, .int v2)] → W p l e ({ frames := 6, cells := 0, slots := 0, locals := 145 } : Room) s m ([.ref h_me] : List Value).toArray below meth c H locs 0 0 Qz (F0 m 118 ls [.int s0]) := by
    intro rec_75_1 hrec_75_1
    intro v1 v2 s0 o_me H locs ls h hw hl
    unfold bk_X9_findCrowned_118 at h
    refine lv_istore_n (lv' := [(3, .int s0), (0, .ref h_me), (1, .int v1), (2, .int v2)]) hx hb dX9_findCrowned_118 rfl hl (by decide) rfl (fun ls hl => ?_)
    refine lv_iconst (v := 0) hx hb dX9_findCrowned_119 (by decide) ?_
    refine lv_istore (lv' := [(4, .int (0 : Int32)), (3, .int s0), (0, .ref h_me), (1, .int v1), (2, .int v2)]) hx hb dX9_findCrowned_120 hl (by decide) rfl (fun ls hl => ?_)
    exact lp_122_4 rec_75_1 hrec_75_1 zfu v1 v2 s0 (0 : Int32) o_me _ _ _ h hw (lv_sub hl [2, 3, 4, 1, 0] rfl)
  have bk_105_2 : ∀ (rec_75_1 : Int32 × Int32 × Ob → Option (Int32 × Ob)) (hrec_75_1 : ∀ (v1 : Int32) (v2 : Int32) (o_me : Ob) (H : Heap) (locs : List Loc) (ls : Array Slot), rec_75_1 (v1, v2, o_me) = some y → Wd dC dI A s.heap [wX9 h_me q_me k_me o_me] H locs → lv_has ls 5 [(0, .ref h_me), (1, .int v1), (2, .int v2)] → W p l e ({ frames := 6, cells := 0, slots := 0, locals := 145 } : Room) s m ([.ref h_me] : List Value).toArray below meth c H locs 0 0 Qz (F0 m 75 ls [])), ∀ (v1 : Int32) (v2 : Int32) (o_me : Ob) (H : Heap) (locs : List Loc) (ls : Array Slot), bk_X9_findCrowned_105  rec_75_1 v1 v2 o_me = some y → Wd dC dI A s.heap [wX9 h_me q_me k_me o_me] H locs → lv_has ls 5 [(0, .ref h_me), (1, .int v1), (2, .int v2)] → W p l e ({ frames := 6, cells := 0, slots := 0, locals := 145 } : Room) s m ([.ref h_me] : List Value).toArray below meth c H locs 0 0 Qz (F0 m 105 ls []) := by
    intro rec_75_1 hrec_75_1
    intro v1 v2 o_me H locs ls h hw hl
    unfold bk_X9_findCrowned_105 at h
    refine lv_iload_n hx hb dX9_findCrowned_105 rfl (lv_at hl 2 rfl) ?_
    refine lv_iconst (v := 4) hx hb dX9_findCrowned_106 (by decide) ?_
    refine lv_icmp_ne (tgt := 117) hx hb dX9_findCrowned_107 (by decide) (fun c => ?_) (fun c => ?_)
    · have h := z_f h c
      refine lv_iconst (v := (-1)) hx hb dX9_findCrowned_117 (by decide) ?_
      exact bk_118_3 rec_75_1 hrec_75_1 v1 v2 (-1 : Int32) o_me _ _ _ h hw (lv_sub hl [0, 1, 2] rfl)
    · have h := z_t h c
      refine lv_aload_n hx hb dX9_findCrowned_110 rfl (lv_at hl 0 rfl) ?_
      obtain ⟨z10, ez10, h⟩ := z_bd h
      refine xj_i (xrV (As := []) (rest := []) ⟨hx, hb, hml, hown, hts⟩ (m_X9_scoreNow l dC dI _ h_me q_me k_me o_me z10 ez10) kw1759 kw1756 kw1758 kw96 kw120 hd_X9_scoreNow ⟨rfl, rfl⟩ rfl rfl ⟨rfl, rfl⟩ hX hK hw [0] (by decide) rfl rfl rfl rfl rfl hl.1 rfl rfl dX9_findCrowned_111) hw hA [0] (by decide) rfl rfl (fun H locs hw => ?_)
      have hw : Wd dC dI A s.heap [wX9 h_me q_me k_me o_me] H locs := hw
      refine lv_goto (tgt := 118) hx hb dX9_findCrowned_114 (by decide) ?_
      exact bk_118_3 rec_75_1 hrec_75_1 v1 v2 z10 o_me _ _ _ h hw (lv_sub hl [0, 1, 2] rfl)
  have lp_75_1 : ∀ (N : Nat), ∀ (v1 : Int32) (v2 : Int32) (o_me : Ob) (H : Heap) (locs : List Loc) (ls : Array Slot), lp_X9_findCrowned_75   N (v1, v2, o_me) = some y → Wd dC dI A s.heap [wX9 h_me q_me k_me o_me] H locs → lv_has ls 5 [(0, .ref h_me), (1, .int v1), (2, .int v2)] → W p l e ({ frames := 6, cells := 0, slots := 0, locals := 145 } : Room) s m ([.ref h_me] : List Value).toArray below meth c H locs 0 0 Qz (F0 m 75 ls []) := by
    intro N
    induction N with
    | zero =>
      intro v1 v2 o_me H locs ls h hw hl
      exact absurd (show (none : Option (Int32 × Ob)) = some y from h) (by simp)
    | succ N ih =>
      intro v1 v2 o_me H locs ls h hw hl
      have h : lb_X9_findCrowned_75   (lp_X9_findCrowned_75   N) v1 v2 o_me = some y := h
      unfold lb_X9_findCrowned_75 at h
      refine lv_iload_n hx hb dX9_findCrowned_75 rfl (lv_at hl 2 rfl) ?_
      refine lv_if_lt (tgt := 191) hx hb dX9_findCrowned_76 (by decide) (fun c => ?_) (fun c => ?_)
      · have h := z_t h c
        refine lv_iload_n hx hb dX9_findCrowned_191 rfl (lv_at hl 1 rfl) ?_
        have hy := Option.some.inj h
        rw [← hQz, ← hy]
        exact xr_i (v := v1) hx hb hr rfl hlk hK hw dX9_findCrowned_192
      · have h := z_f h c
        refine lv_aload_n hx hb dX9_findCrowned_79 rfl (lv_at hl 0 rfl) ?_
        refine fgX9_48 hx hb hts hown hK hw 0 rfl kw1224 dX9_findCrowned_80 ?_
        refine lv_iload_n hx hb dX9_findCrowned_83 rfl (lv_at hl 2 rfl) ?_
        refine lv_dup2_11 hx hb dX9_findCrowned_84 rfl rfl ?_
        obtain ⟨g2, h⟩ := z_gd h
        refine faX9_48 hx hb hK hw 0 rfl rfl g2 dX9_findCrowned_85 ?_
        refine lv_iconst (v := 1) hx hb dX9_findCrowned_86 (by decide) ?_
        refine lv_iadd hx hb dX9_findCrowned_87 ?_
        obtain ⟨g3, h⟩ := z_gd h
        refine fbX9_48 hx hb hK hw 0 rfl rfl g3 dX9_findCrowned_88 (fun H locs hw => ?_)
        obtain ⟨o4, eo4, h⟩ := z_lt h
        have hw : Wd dC dI A s.heap [wX9 h_me q_me k_me o4] H locs := by rw [eo4]; exact hw
        refine lv_iload_n hx hb dX9_findCrowned_89 rfl (lv_at hl 2 rfl) ?_
        refine lv_iconst (v := 4) hx hb dX9_findCrowned_90 (by decide) ?_
        refine lv_icmp_eq (tgt := 105) hx hb dX9_findCrowned_91 (by decide) (fun c => ?_) (fun c => ?_)
        · have h := z_t h c
          exact bk_105_2 (lp_X9_findCrowned_75   N) ih v1 v2 o4 _ _ _ h hw (lv_sub hl [0, 1, 2] rfl)
        · have h := z_f h c
          refine lv_aload_n hx hb dX9_findCrowned_94 rfl (lv_at hl 0 rfl) ?_
          refine fgX9_48 hx hb hts hown hK hw 0 rfl kw1224 dX9_findCrowned_95 ?_
          refine lv_iload_n hx hb dX9_findCrowned_98 rfl (lv_at hl 2 rfl) ?_
          obtain ⟨g11, h⟩ := z_gd h
          refine faX9_48 hx hb hK hw 0 rfl rfl g11 dX9_findCrowned_99 ?_
          refine lv_bipush (v := 7) hx hb dX9_findCrowned_100 (by decide) ?_
          refine lv_icmp_le (tgt := 170) hx hb dX9_findCrowned_102 (by decide) (fun c => ?_) (fun c => ?_)
          · have h := z_t h c
            refine lv_aload_n hx hb dX9_findCrowned_170 rfl (lv_at hl 0 rfl) ?_
            refine lv_iload_n hx hb dX9_findCrowned_171 rfl (lv_at hl 2 rfl) ?_
            obtain ⟨z12, ez12, h⟩ := z_bd h
            refine xj_i (xrV (As := [.int v2]) (rest := []) ⟨hx, hb, hml, hown, hts⟩ (m_X9_isFree l dC dI _ h_me q_me k_me o4 v2 z12 ez12) kw1763 kw1760 kw1762 kw97 kw120 hd_X9_isFree ⟨rfl, rfl⟩ rfl rfl ⟨rfl, rfl⟩ hX hK hw [0] (by decide) rfl rfl rfl rfl rfl hl.1 rfl rfl dX9_findCrowned_172) hw hA [0] (by decide) rfl rfl (fun H locs hw => ?_)
            have hw : Wd dC dI A s.heap [wX9 h_me q_me k_me o4] H locs := hw
            refine lv_if_eq (tgt := 75) hx hb dX9_findCrowned_175 (by decide) (fun c => ?_) (fun c => ?_)
            · have h := z_t h c
              exact ih v1 v2 o4 _ _ _ h hw (lv_sub hl [0, 1, 2] rfl)
            · have h := z_f h c
              obtain ⟨x13, ex13, h⟩ := z_lt h
              refine lv_iinc (v := x13) (lv' := [(2, .int x13), (0, .ref h_me), (1, .int v1)]) hx hb dX9_findCrowned_178 hl (k := 2) rfl ((congrArg (v2 + ·) (show Int32.ofInt 1 = (1 : Int32) from by decide)).trans ex13.symm) (by decide) rfl (fun ls hl => ?_)
              refine lv_aload_n hx hb dX9_findCrowned_181 rfl (lv_at hl 1 rfl) ?_
              refine fgX9_48 hx hb hts hown hK hw 0 rfl kw1224 dX9_findCrowned_182 ?_
              refine lv_iload_n hx hb dX9_findCrowned_185 rfl (lv_at hl 0 rfl) ?_
              refine lv_iconst (v := (-1)) hx hb dX9_findCrowned_186 (by decide) ?_
              obtain ⟨g14, h⟩ := z_gd h
              refine fbX9_48 hx hb hK hw 0 rfl rfl g14 dX9_findCrowned_187 (fun H locs hw => ?_)
              obtain ⟨o15, eo15, h⟩ := z_lt h
              have hw : Wd dC dI A s.heap [wX9 h_me q_me k_me o15] H locs := by rw [eo15]; exact hw
              refine lv_goto (tgt := 75) hx hb dX9_findCrowned_188 (by decide) ?_
              exact ih v1 x13 o15 _ _ _ h hw (lv_sub hl [1, 2, 0] rfl)
          · have h := z_f h c
            exact bk_105_2 (lp_X9_findCrowned_75   N) ih v1 v2 o4 _ _ _ h hw (lv_sub hl [0, 1, 2] rfl)
  have bk_51_9 : ∀ (rec_2_0 : Int32 × Ob → Option (Int32 × Ob)) (hrec_2_0 : ∀ (v1 : Int32) (o_me : Ob) (H : Heap) (locs : List Loc) (ls : Array Slot), rec_2_0 (v1, o_me) = some y → Wd dC dI A s.heap [wX9 h_me q_me k_me o_me] H locs → lv_has ls 5 [(0, .ref h_me), (1, .int v1)] → W p l e ({ frames := 6, cells := 0, slots := 0, locals := 145 } : Room) s m ([.ref h_me] : List Value).toArray below meth c H locs 0 0 Qz (F0 m 2 ls [])) (rec_10_7 : Int32 × Int32 × Ob → Option (Int32 × Ob)) (hrec_10_7 : ∀ (v1 : Int32) (v2 : Int32) (o_me : Ob) (H : Heap) (locs : List Loc) (ls : Array Slot), rec_10_7 (v1, v2, o_me) = some y → Wd dC dI A s.heap [wX9 h_me q_me k_me o_me] H locs → lv_has ls 5 [(0, .ref h_me), (1, .int v1), (2, .int v2)] → W p l e ({ frames := 6, cells := 0, slots := 0, locals := 145 } : Room) s m ([.ref h_me] : List Value).toArray below meth c H locs 0 0 Qz (F0 m 10 ls [])), ∀ (v1 : Int32) (v2 : Int32) (s0 : Int32) (s1 : Int32) (o_me : Ob) (H : Heap) (locs : List Loc) (ls : Array Slot), bk_X9_findCrowned_51  rec_2_0 rec_10_7 v1 v2 s0 s1 o_me = some y → Wd dC dI A s.heap [wX9 h_me q_me k_me o_me] H locs → lv_has ls 5 [(0, .ref h_me), (1, .int v1), (2, .int v2)] → W p l e ({ frames := 6, cells := 0, slots := 0, locals := 145 } : Room) s m ([.ref h_me] : List Value).toArray below meth c H locs 0 0 Qz (F0 m 51 ls [.int s0, .int s1, .ref (q_me 47)]) := by
    intro rec_2_0 hrec_2_0 rec_10_7 hrec_10_7
    intro v1 v2 s0 s1 o_me H locs ls h hw hl
    unfold bk_X9_findCrowned_51 at h
    obtain ⟨g18, h⟩ := z_gd h
    refine fbX9_47 hx hb hK hw 0 rfl rfl g18 dX9_findCrowned_51 (fun H locs hw => ?_)
    obtain ⟨o19, eo19, h⟩ := z_lt h
    have hw : Wd dC dI A s.heap [wX9 h_me q_me k_me o19] H locs := by rw [eo19]; exact hw
    obtain ⟨x20, ex20, h⟩ := z_lt h
    refine lv_iinc (v := x20) (lv' := [(2, .int x20), (0, .ref h_me), (1, .int v1)]) hx hb dX9_findCrowned_52 hl (k := 2) rfl ((congrArg (v2 + ·) (show Int32.ofInt 1 = (1 : Int32) from by decide)).trans ex20.symm) (by decide) rfl (fun ls hl => ?_)
    refine lv_goto (tgt := 10) hx hb dX9_findCrowned_55 (by decide) ?_
    exact hrec_10_7 v1 x20 o19 _ _ _ h hw (lv_sub hl [1, 2, 0] rfl)
  have bk_50_8 : ∀ (rec_2_0 : Int32 × Ob → Option (Int32 × Ob)) (hrec_2_0 : ∀ (v1 : Int32) (o_me : Ob) (H : Heap) (locs : List Loc) (ls : Array Slot), rec_2_0 (v1, o_me) = some y → Wd dC dI A s.heap [wX9 h_me q_me k_me o_me] H locs → lv_has ls 5 [(0, .ref h_me), (1, .int v1)] → W p l e ({ frames := 6, cells := 0, slots := 0, locals := 145 } : Room) s m ([.ref h_me] : List Value).toArray below meth c H locs 0 0 Qz (F0 m 2 ls [])) (rec_10_7 : Int32 × Int32 × Ob → Option (Int32 × Ob)) (hrec_10_7 : ∀ (v1 : Int32) (v2 : Int32) (o_me : Ob) (H : Heap) (locs : List Loc) (ls : Array Slot), rec_10_7 (v1, v2, o_me) = some y → Wd dC dI A s.heap [wX9 h_me q_me k_me o_me] H locs → lv_has ls 5 [(0, .ref h_me), (1, .int v1), (2, .int v2)] → W p l e ({ frames := 6, cells := 0, slots := 0, locals := 145 } : Room) s m ([.ref h_me] : List Value).toArray below meth c H locs 0 0 Qz (F0 m 10 ls [])), ∀ (v1 : Int32) (v2 : Int32) (s0 : Int32) (o_me : Ob) (H : Heap) (locs : List Loc) (ls : Array Slot), bk_X9_findCrowned_50  rec_2_0 rec_10_7 v1 v2 s0 o_me = some y → Wd dC dI A s.heap [wX9 h_me q_me k_me o_me] H locs → lv_has ls 5 [(0, .ref h_me), (1, .int v1), (2, .int v2)] → W p l e ({ frames := 6, cells := 0, slots := 0, locals := 145 } : Room) s m ([.ref h_me] : List Value).toArray below meth c H locs 0 0 Qz (F0 m 50 ls [.int s0, .ref (q_me 47)]) := by
    intro rec_2_0 hrec_2_0 rec_10_7 hrec_10_7
    intro v1 v2 s0 o_me H locs ls h hw hl
    unfold bk_X9_findCrowned_50 at h
    refine lv_iconst (v := (-1)) hx hb dX9_findCrowned_50 (by decide) ?_
    exact bk_51_9 rec_2_0 hrec_2_0 rec_10_7 hrec_10_7 v1 v2 (-1 : Int32) s0 o_me _ _ _ h hw (lv_sub hl [0, 1, 2] rfl)
  have lp_10_7 : ∀ (rec_2_0 : Int32 × Ob → Option (Int32 × Ob)) (hrec_2_0 : ∀ (v1 : Int32) (o_me : Ob) (H : Heap) (locs : List Loc) (ls : Array Slot), rec_2_0 (v1, o_me) = some y → Wd dC dI A s.heap [wX9 h_me q_me k_me o_me] H locs → lv_has ls 5 [(0, .ref h_me), (1, .int v1)] → W p l e ({ frames := 6, cells := 0, slots := 0, locals := 145 } : Room) s m ([.ref h_me] : List Value).toArray below meth c H locs 0 0 Qz (F0 m 2 ls [])) (N : Nat), ∀ (v1 : Int32) (v2 : Int32) (o_me : Ob) (H : Heap) (locs : List Loc) (ls : Array Slot), lp_X9_findCrowned_10  rec_2_0 N (v1, v2, o_me) = some y → Wd dC dI A s.heap [wX9 h_me q_me k_me o_me] H locs → lv_has ls 5 [(0, .ref h_me), (1, .int v1), (2, .int v2)] → W p l e ({ frames := 6, cells := 0, slots := 0, locals := 145 } : Room) s m ([.ref h_me] : List Value).toArray below meth c H locs 0 0 Qz (F0 m 10 ls []) := by
    intro rec_2_0 hrec_2_0
    intro N
    induction N with
    | zero =>
      intro v1 v2 o_me H locs ls h hw hl
      exact absurd (show (none : Option (Int32 × Ob)) = some y from h) (by simp)
    | succ N ih =>
      intro v1 v2 o_me H locs ls h hw hl
      have h : lb_X9_findCrowned_10  rec_2_0 (lp_X9_findCrowned_10  rec_2_0 N) v1 v2 o_me = some y := h
      unfold lb_X9_findCrowned_10 at h
      refine lv_iload_n hx hb dX9_findCrowned_10 rfl (lv_at hl 2 rfl) ?_
      refine lv_iconst (v := 4) hx hb dX9_findCrowned_11 (by decide) ?_
      refine lv_icmp_ge (tgt := 58) hx hb dX9_findCrowned_12 (by decide) (fun c => ?_) (fun c => ?_)
      · have h := z_t h c
        obtain ⟨x16, ex16, h⟩ := z_lt h
        refine lv_iinc (v := x16) (lv' := [(1, .int x16), (0, .ref h_me), (2, .int v2)]) hx hb dX9_findCrowned_58 hl (k := 1) rfl ((congrArg (v1 + ·) (show Int32.ofInt 1 = (1 : Int32) from by decide)).trans ex16.symm) (by decide) rfl (fun ls hl => ?_)
        refine lv_goto (tgt := 2) hx hb dX9_findCrowned_61 (by decide) ?_
        exact hrec_2_0 x16 o_me _ _ _ h hw (lv_sub hl [1, 0] rfl)
      · have h := z_f h c
        refine lv_aload_n hx hb dX9_findCrowned_15 rfl (lv_at hl 0 rfl) ?_
        refine fgX9_47 hx hb hts hown hK hw 0 rfl kw1223 dX9_findCrowned_16 ?_
        refine lv_iconst (v := 4) hx hb dX9_findCrowned_19 (by decide) ?_
        refine lv_iload_n hx hb dX9_findCrowned_20 rfl (lv_at hl 1 rfl) ?_
        refine lv_imul hx hb dX9_findCrowned_21 ?_
        refine lv_iload_n hx hb dX9_findCrowned_22 rfl (lv_at hl 2 rfl) ?_
        refine lv_iadd hx hb dX9_findCrowned_23 ?_
        refine lv_aload_n hx hb dX9_findCrowned_24 rfl (lv_at hl 0 rfl) ?_
        refine lv_iload_n hx hb dX9_findCrowned_25 rfl (lv_at hl 1 rfl) ?_
        obtain ⟨z17, ez17, h⟩ := z_bd h
        refine xj_i (xrV (As := [.int v1]) (rest := [.int (((4 : Int32) * v1) + v2), .ref (q_me 47)]) ⟨hx, hb, hml, hown, hts⟩ (m_X9_isPerson l dC dI _ h_me q_me k_me o_me v1 z17 ez17) kw1402 kw1399 kw1401 kw42 kw120 hd_X9_isPerson ⟨rfl, rfl⟩ rfl rfl ⟨rfl, rfl⟩ hX hK hw [0] (by decide) rfl rfl rfl rfl rfl hl.1 rfl rfl dX9_findCrowned_26) hw hA [0] (by decide) rfl rfl (fun H locs hw => ?_)
        have hw : Wd dC dI A s.heap [wX9 h_me q_me k_me o_me] H locs := hw
        refine lv_if_eq (tgt := 50) hx hb dX9_findCrowned_29 (by decide) (fun c => ?_) (fun c => ?_)
        · have h := z_t h c
          exact bk_50_8 rec_2_0 hrec_2_0 (lp_X9_findCrowned_10  rec_2_0 N) ih v1 v2 (((4 : Int32) * v1) + v2) o_me _ _ _ h hw (lv_sub hl [0, 1, 2] rfl)
        · have h := z_f h c
          refine lv_aload_n hx hb dX9_findCrowned_32 rfl (lv_at hl 0 rfl) ?_
          refine lv_iload_n hx hb dX9_findCrowned_33 rfl (lv_at hl 1 rfl) ?_
          refine lv_iload_n hx hb dX9_findCrowned_34 rfl (lv_at hl 2 rfl) ?_
          obtain ⟨z21, ez21, h⟩ := z_bd h
          refine xj_i (xrV (As := [.int v1, .int v2]) (rest := [.int (((4 : Int32) * v1) + v2), .ref (q_me 47)]) ⟨hx, hb, hml, hown, hts⟩ (m_X9_isBarred l dC dI _ h_me q_me k_me o_me v1 v2 z21 ez21) kw1437 kw1434 kw1436 kw48 kw120 hd_X9_isBarred ⟨rfl, rfl⟩ rfl rfl ⟨rfl, rfl⟩ hX hK hw [0] (by decide) rfl rfl rfl rfl rfl hl.1 rfl rfl dX9_findCrowned_35) hw hA [0] (by decide) rfl rfl (fun H locs hw => ?_)
          have hw : Wd dC dI A s.heap [wX9 h_me q_me k_me z21.2] H locs := hw
          refine lv_if_ne (tgt := 50) hx hb dX9_findCrowned_38 (by decide) (fun c => ?_) (fun c => ?_)
          · have h := z_f h c
            exact bk_50_8 rec_2_0 hrec_2_0 (lp_X9_findCrowned_10  rec_2_0 N) ih v1 v2 (((4 : Int32) * v1) + v2) z21.2 _ _ _ h hw (lv_sub hl [0, 1, 2] rfl)
          · have h := z_t h c
            refine lv_aload_n hx hb dX9_findCrowned_41 rfl (lv_at hl 0 rfl) ?_
            refine lv_iload_n hx hb dX9_findCrowned_42 rfl (lv_at hl 1 rfl) ?_
            refine lv_iload_n hx hb dX9_findCrowned_43 rfl (lv_at hl 2 rfl) ?_
            obtain ⟨z22, ez22, h⟩ := z_bd h
            refine xj_i (xrV (As := [.int v1, .int v2]) (rest := [.int (((4 : Int32) * v1) + v2), .ref (q_me 47)]) ⟨hx, hb, hml, hown, hts⟩ (m_X9_runsOf l dC dI _ h_me q_me k_me z21.2 v1 v2 z22 ez22) kw1411 kw1408 kw1410 kw43 kw120 hd_X9_runsOf ⟨rfl, rfl⟩ rfl rfl ⟨rfl, rfl⟩ hX hK hw [0] (by decide) rfl rfl rfl rfl rfl hl.1 rfl rfl dX9_findCrowned_44) hw hA [0] (by decide) rfl rfl (fun H locs hw => ?_)
            have hw : Wd dC dI A s.heap [wX9 h_me q_me k_me z22.2] H locs := hw
            refine lv_goto (tgt := 51) hx hb dX9_findCrowned_47 (by decide) ?_
            exact bk_51_9 rec_2_0 hrec_2_0 (lp_X9_findCrowned_10  rec_2_0 N) ih v1 v2 z22.1 (((4 : Int32) * v1) + v2) z22.2 _ _ _ h hw (lv_sub hl [0, 1, 2] rfl)
  have lp_2_0 : ∀ (N : Nat), ∀ (v1 : Int32) (o_me : Ob) (H : Heap) (locs : List Loc) (ls : Array Slot), lp_X9_findCrowned_2   N (v1, o_me) = some y → Wd dC dI A s.heap [wX9 h_me q_me k_me o_me] H locs → lv_has ls 5 [(0, .ref h_me), (1, .int v1)] → W p l e ({ frames := 6, cells := 0, slots := 0, locals := 145 } : Room) s m ([.ref h_me] : List Value).toArray below meth c H locs 0 0 Qz (F0 m 2 ls []) := by
    intro N
    induction N with
    | zero =>
      intro v1 o_me H locs ls h hw hl
      exact absurd (show (none : Option (Int32 × Ob)) = some y from h) (by simp)
    | succ N ih =>
      intro v1 o_me H locs ls h hw hl
      have h : lb_X9_findCrowned_2   (lp_X9_findCrowned_2   N) v1 o_me = some y := h
      unfold lb_X9_findCrowned_2 at h
      refine lv_iload_n hx hb dX9_findCrowned_2 rfl (lv_at hl 1 rfl) ?_
      refine lv_bipush (v := 7) hx hb dX9_findCrowned_3 (by decide) ?_
      refine lv_icmp_ge (tgt := 64) hx hb dX9_findCrowned_5 (by decide) (fun c => ?_) (fun c => ?_)
      · have h := z_t h c
        refine lv_iconst (v := (-1)) hx hb dX9_findCrowned_64 (by decide) ?_
        refine lv_istore_n (lv' := [(1, .int (-1 : Int32)), (0, .ref h_me)]) hx hb dX9_findCrowned_65 rfl hl (by decide) rfl (fun ls hl => ?_)
        refine lv_iconst (v := 0) hx hb dX9_findCrowned_66 (by decide) ?_
        refine lv_istore_n (lv' := [(2, .int (0 : Int32)), (1, .int (-1 : Int32)), (0, .ref h_me)]) hx hb dX9_findCrowned_67 rfl hl (by decide) rfl (fun ls hl => ?_)
        refine lv_aload_n hx hb dX9_findCrowned_68 rfl (lv_at hl 2 rfl) ?_
        refine fgX9_48 hx hb hts hown hK hw 0 rfl kw1224 dX9_findCrowned_69 ?_
        refine lv_iconst (v := 0) hx hb dX9_findCrowned_72 (by decide) ?_
        refine lv_iconst (v := (-1)) hx hb dX9_findCrowned_73 (by decide) ?_
        refine fbX9_48 hx hb hK hw 0 rfl rfl (by decide) dX9_findCrowned_74 (fun H locs hw => ?_)
        obtain ⟨o1, eo1, h⟩ := z_lt h
        have hw : Wd dC dI A s.heap [wX9 h_me q_me k_me o1] H locs := by rw [eo1]; exact hw
        exact lp_75_1  zfu (-1 : Int32) (0 : Int32) o1 _ _ _ h hw (lv_sub hl [2, 1, 0] rfl)
      · have h := z_f h c
        refine lv_iconst (v := 0) hx hb dX9_findCrowned_8 (by decide) ?_
        refine lv_istore_n (lv' := [(2, .int (0 : Int32)), (0, .ref h_me), (1, .int v1)]) hx hb dX9_findCrowned_9 rfl hl (by decide) rfl (fun ls hl => ?_)
        exact lp_10_7 (lp_X9_findCrowned_2   N) ih zfu v1 (0 : Int32) o_me _ _ _ h hw (lv_sub hl [1, 2, 0] rfl)
  unfold f_X9_findCrowned at h
  refine lv_iconst (v := 0) hx hb dX9_findCrowned_0 (by decide) ?_
  refine lv_istore_n (lv' := [(1, .int (0 : Int32)), (0, .ref h_me)]) hx hb dX9_findCrowned_1 rfl hl (by decide) rfl (fun ls hl => ?_)
  exact lp_2_0  zfu (0 : Int32) o_me _ _ _ h hw (lv_sub hl [1, 0] rfl)

def f_X9_crowned (o_me : Ob) (p0 : Int32) : Option (Int32 × Ob) :=
  zlt (sI o_me 0 (0 : Int32)) fun o1 =>
  (f_X9_in p0.toInt64 (0 : Int64) (4 : Int64)).bind fun z2 =>
  if z2 = (0 : Int32) then
  (some ((-1 : Int32), o1))
  else
  ((f_X9_findCrowned o1).bind fun z3 =>
  if p0 = (0 : Int32) then
  (some (z3.1, z3.2))
  else
  (zgd (zin (p0 - (1 : Int32)) 4) <|
  some (gA z3.2 49 (p0 - (1 : Int32)).toNatClampNeg, z3.2)))
set_option maxHeartbeats 4000000 in
set_option maxRecDepth 100000 in
theorem m_X9_crowned (l : Launch) (dC : Nat → ClassId) (dI : Nat → Nat → Nat) (sz : Nat) (h_me : Nat) (q_me : Nat → Nat) (k_me : Nat → ClassId) (o_me : Ob) (p0 : Int32) (y : Int32 × Ob) (h : f_X9_crowned o_me p0 = some y) : CI l yX9_crowned cX9_crowned 3 (some .int) ({ frames := 7, cells := 0, slots := 0, locals := 169 } : Room) dC dI sz [.ref h_me, .int p0] [wX9 h_me q_me k_me o_me] [tX9 k_me] y.1 [wX9 h_me q_me k_me y.2] := by
  refine CC_of (by decide) (Nat.le_of_ble_eq_true rfl) ?_
  intro p e s m below meth c A ls hx hb hml hr hlk hnm hown hts hX hK hP hD hA hl
  have hl : lv_has ls 3 [(0, .ref h_me), (1, .int p0)] := hl
  have hown : s.vm.findClass RX9 = some m.cls := hown
  have hw : Wd dC dI A s.heap [wX9 h_me q_me k_me o_me] s.heap [] := ⟨hP, hD, va_S.rf⟩
  generalize hQz : (MQ below (QI dC dI (fun r (_ : Unit) => r = y.1) (fun _ => Jn [wX9 h_me q_me k_me y.2]) (fun _ => Jt [tX9 k_me]) A) ([.ref h_me, .int p0] : List Value).toArray s 0 0 A) = Qz
  clear hP hD hnm
  unfold f_X9_crowned at h
  refine lv_aload_n hx hb dX9_crowned_0 rfl (lv_at hl 0 rfl) ?_
  refine lv_iconst (v := 0) hx hb dX9_crowned_1 (by decide) ?_
  refine fpX9_0 hx hb hts hown hK hw 0 rfl kw1176 dX9_crowned_2 (fun H locs hw => ?_)
  obtain ⟨o1, eo1, h⟩ := z_lt h
  have hw : Wd dC dI A s.heap [wX9 h_me q_me k_me o1] H locs := by rw [eo1]; exact hw
  refine lv_iload_n hx hb dX9_crowned_5 rfl (lv_at hl 1 rfl) ?_
  refine lv_i2l hx hb dX9_crowned_6 rfl ?_
  refine lv_lconst (v := 0) hx hb dX9_crowned_7 (by decide) ?_
  refine lv_ldc2 (v := 4) hx hb hown (hts _ kw1648) dX9_crowned_8 ?_
  obtain ⟨z2, ez2, h⟩ := z_bd h
  refine xj_i (xrS (As := [.long p0.toInt64, .long (0 : Int64), .long (4 : Int64)]) (rest := []) ⟨hx, hb, hml, hown, hts⟩ (m_X9_in l dC dI _  p0.toInt64 (0 : Int64) (4 : Int64) z2 ez2) kw1385 kw1383 kw1384 kw120 hd_X9_in ⟨rfl, rfl⟩ rfl rfl ⟨rfl, rfl⟩ hX hK hw [] (by decide) rfl rfl hl.1 rfl rfl dX9_crowned_11) hw hA [] (by decide) rfl rfl (fun H locs hw => ?_)
  refine lv_if_ne (tgt := 19) hx hb dX9_crowned_14 (by decide) (fun c => ?_) (fun c => ?_)
  · have h := z_f h c
    refine lv_aload_n hx hb dX9_crowned_19 rfl (lv_at hl 0 rfl) ?_
    obtain ⟨z3, ez3, h⟩ := z_bd h
    refine xj_i (xrV (As := []) (rest := []) ⟨hx, hb, hml, hown, hts⟩ (m_X9_findCrowned l dC dI _ h_me q_me k_me o1 z3 ez3) kw1755 kw1752 kw1754 kw95 kw120 hd_X9_findCrowned ⟨rfl, rfl⟩ rfl rfl ⟨rfl, rfl⟩ hX hK hw [0] (by decide) rfl rfl rfl rfl rfl hl.1 rfl rfl dX9_crowned_20) hw hA [0] (by decide) rfl rfl (fun H locs hw => ?_)
    have hw : Wd dC dI A s.heap [wX9 h_me q_me k_me z3.2] H locs := hw
    refine lv_istore_n (lv' := [(2, .int z3.1), (0, .ref h_me), (1, .int p0)]) hx hb dX9_crowned_23 rfl hl (by decide) rfl (fun ls hl => ?_)
    refine lv_iload_n hx hb dX9_crowned_24 rfl (lv_at hl 2 rfl) ?_
    refine lv_if_ne (tgt := 32) hx hb dX9_crowned_25 (by decide) (fun c => ?_) (fun c => ?_)
    · have h := z_f h c
      refine lv_aload_n hx hb dX9_crowned_32 rfl (lv_at hl 1 rfl) ?_
      refine fgX9_49 hx hb hts hown hK hw 0 rfl kw1225 dX9_crowned_33 ?_
      refine lv_iload_n hx hb dX9_crowned_36 rfl (lv_at hl 2 rfl) ?_
      refine lv_iconst (v := 1) hx hb dX9_crowned_37 (by decide) ?_
      refine lv_isub hx hb dX9_crowned_38 ?_
      obtain ⟨g4, h⟩ := z_gd h
      refine faX9_49 hx hb hK hw 0 rfl rfl g4 dX9_crowned_39 ?_
      have hy := Option.some.inj h
      rw [← hQz, ← hy]
      exact xr_i (v := gA z3.2 49 (p0 - (1 : Int32)).toNatClampNeg) hx hb hr rfl hlk hK hw dX9_crowned_40
    · have h := z_t h c
      refine lv_iload_n hx hb dX9_crowned_28 rfl (lv_at hl 0 rfl) ?_
      refine lv_goto (tgt := 40) hx hb dX9_crowned_29 (by decide) ?_
      have hy := Option.some.inj h
      rw [← hQz, ← hy]
      exact xr_i (v := z3.1) hx hb hr rfl hlk hK hw dX9_crowned_40
  · have h := z_t h c
    refine lv_iconst (v := (-1)) hx hb dX9_crowned_17 (by decide) ?_
    have hy := Option.some.inj h
    rw [← hQz, ← hy]
    exact xr_i (v := (-1 : Int32)) hx hb hr rfl hlk hK hw dX9_crowned_18

def bk_X9_drawn_60   (v1 : Int32) (s0 : Int32) (o_me : Ob) : Option (Int32 × Ob) :=
  zgd (zin ((s0 - (4 : Int32)) + v1) 25) <|
  some (gA o_me 61 ((s0 - (4 : Int32)) + v1).toNatClampNeg, o_me)
def f_X9_drawn (o_me : Ob) (p0 : Int32) (p1 : Int32) : Option (Int32 × Ob) :=
  zlt (sI o_me 0 (0 : Int32)) fun o1 =>
  (f_X9_in p0.toInt64 (0 : Int64) (((gI o1 62).toInt64) - (1 : Int64))).bind fun z2 =>
  if z2 = (0 : Int32) then
  (some ((-1 : Int32), o1))
  else
  ((f_X9_in p1.toInt64 (0 : Int64) (2 : Int64)).bind fun z3 =>
  if z3 = (0 : Int32) then
  (some ((-1 : Int32), o1))
  else
  (if p1 = (0 : Int32) then
  (bk_X9_drawn_60   p0 (8 : Int32) o1)
  else
  (if p1 = (1 : Int32) then
  (bk_X9_drawn_60   p0 (15 : Int32) o1)
  else
  (bk_X9_drawn_60   p0 (22 : Int32) o1))))
set_option maxHeartbeats 4000000 in
set_option maxRecDepth 100000 in
theorem m_X9_drawn (l : Launch) (dC : Nat → ClassId) (dI : Nat → Nat → Nat) (sz : Nat) (h_me : Nat) (q_me : Nat → Nat) (k_me : Nat → ClassId) (o_me : Ob) (p0 : Int32) (p1 : Int32) (y : Int32 × Ob) (h : f_X9_drawn o_me p0 p1 = some y) : CI l yX9_drawn cX9_drawn 3 (some .int) ({ frames := 1, cells := 0, slots := 0, locals := 25 } : Room) dC dI sz [.ref h_me, .int p0, .int p1] [wX9 h_me q_me k_me o_me] [tX9 k_me] y.1 [wX9 h_me q_me k_me y.2] := by
  refine CC_of (by decide) (Nat.le_of_ble_eq_true rfl) ?_
  intro p e s m below meth c A ls hx hb hml hr hlk hnm hown hts hX hK hP hD hA hl
  have hl : lv_has ls 3 [(0, .ref h_me), (1, .int p0), (2, .int p1)] := hl
  have hown : s.vm.findClass RX9 = some m.cls := hown
  have hw : Wd dC dI A s.heap [wX9 h_me q_me k_me o_me] s.heap [] := ⟨hP, hD, va_S.rf⟩
  generalize hQz : (MQ below (QI dC dI (fun r (_ : Unit) => r = y.1) (fun _ => Jn [wX9 h_me q_me k_me y.2]) (fun _ => Jt [tX9 k_me]) A) ([.ref h_me, .int p0, .int p1] : List Value).toArray s 0 0 A) = Qz
  clear hP hD hnm
  have bk_60_0 : ∀ (v1 : Int32) (s0 : Int32) (o_me : Ob) (H : Heap) (locs : List Loc) (ls : Array Slot), bk_X9_drawn_60   v1 s0 o_me = some y → Wd dC dI A s.heap [wX9 h_me q_me k_me o_me] H locs → lv_has ls 3 [(1, .int v1)] → W p l e ({ frames := 1, cells := 0, slots := 0, locals := 25 } : Room) s m ([.ref h_me, .int p0, .int p1] : List Value).toArray below meth c H locs 0 0 Qz (F0 m 60 ls [.int s0, .ref (q_me 61)]) := by
    intro v1 s0 o_me H locs ls h hw hl
    unfold bk_X9_drawn_60 at h
    refine lv_iconst (v := 4) hx hb dX9_drawn_60 (by decide) ?_
    refine lv_isub hx hb dX9_drawn_61 ?_
    refine lv_iload_n hx hb dX9_drawn_62 rfl (lv_at hl 0 rfl) ?_
    refine lv_iadd hx hb dX9_drawn_63 ?_
    obtain ⟨g4, h⟩ := z_gd h
    refine faX9_61 hx hb hK hw 0 rfl rfl g4 dX9_drawn_64 ?_
    have hy := Option.some.inj h
    rw [← hQz, ← hy]
    exact xr_i (v := gA o_me 61 ((s0 - (4 : Int32)) + v1).toNatClampNeg) hx hb hr rfl hlk hK hw dX9_drawn_65
  unfold f_X9_drawn at h
  refine lv_aload_n hx hb dX9_drawn_0 rfl (lv_at hl 0 rfl) ?_
  refine lv_iconst (v := 0) hx hb dX9_drawn_1 (by decide) ?_
  refine fpX9_0 hx hb hts hown hK hw 0 rfl kw1176 dX9_drawn_2 (fun H locs hw => ?_)
  obtain ⟨o1, eo1, h⟩ := z_lt h
  have hw : Wd dC dI A s.heap [wX9 h_me q_me k_me o1] H locs := by rw [eo1]; exact hw
  refine lv_iload_n hx hb dX9_drawn_5 rfl (lv_at hl 1 rfl) ?_
  refine lv_i2l hx hb dX9_drawn_6 rfl ?_
  refine lv_lconst (v := 0) hx hb dX9_drawn_7 (by decide) ?_
  refine lv_aload_n hx hb dX9_drawn_8 rfl (lv_at hl 0 rfl) ?_
  refine fgX9_62 hx hb hts hown hK hw 0 rfl kw1238 dX9_drawn_9 ?_
  refine lv_i2l hx hb dX9_drawn_12 rfl ?_
  refine lv_lconst (v := 1) hx hb dX9_drawn_13 (by decide) ?_
  refine lv_lsub hx hb dX9_drawn_14 ?_
  obtain ⟨z2, ez2, h⟩ := z_bd h
  refine xj_i (xrS (As := [.long p0.toInt64, .long (0 : Int64), .long (((gI o1 62).toInt64) - (1 : Int64))]) (rest := []) ⟨hx, hb, hml, hown, hts⟩ (m_X9_in l dC dI _  p0.toInt64 (0 : Int64) (((gI o1 62).toInt64) - (1 : Int64)) z2 ez2) kw1385 kw1383 kw1384 kw120 hd_X9_in ⟨rfl, rfl⟩ rfl rfl ⟨rfl, rfl⟩ hX hK hw [] (by decide) rfl rfl hl.1 rfl rfl dX9_drawn_15) hw hA [] (by decide) rfl rfl (fun H locs hw => ?_)
  refine lv_if_eq (tgt := 33) hx hb dX9_drawn_18 (by decide) (fun c => ?_) (fun c => ?_)
  · have h := z_t h c
    refine lv_iconst (v := (-1)) hx hb dX9_drawn_33 (by decide) ?_
    have hy := Option.some.inj h
    rw [← hQz, ← hy]
    exact xr_i (v := (-1 : Int32)) hx hb hr rfl hlk hK hw dX9_drawn_34
  · have h := z_f h c
    refine lv_iload_n hx hb dX9_drawn_21 rfl (lv_at hl 2 rfl) ?_
    refine lv_i2l hx hb dX9_drawn_22 rfl ?_
    refine lv_lconst (v := 0) hx hb dX9_drawn_23 (by decide) ?_
    refine lv_ldc2 (v := 2) hx hb hown (hts _ kw1852) dX9_drawn_24 ?_
    obtain ⟨z3, ez3, h⟩ := z_bd h
    refine xj_i (xrS (As := [.long p1.toInt64, .long (0 : Int64), .long (2 : Int64)]) (rest := []) ⟨hx, hb, hml, hown, hts⟩ (m_X9_in l dC dI _  p1.toInt64 (0 : Int64) (2 : Int64) z3 ez3) kw1385 kw1383 kw1384 kw120 hd_X9_in ⟨rfl, rfl⟩ rfl rfl ⟨rfl, rfl⟩ hX hK hw [] (by decide) rfl rfl hl.1 rfl rfl dX9_drawn_27) hw hA [] (by decide) rfl rfl (fun H locs hw => ?_)
    refine lv_if_ne (tgt := 35) hx hb dX9_drawn_30 (by decide) (fun c => ?_) (fun c => ?_)
    · have h := z_f h c
      refine lv_aload_n hx hb dX9_drawn_35 rfl (lv_at hl 0 rfl) ?_
      refine fgX9_61 hx hb hts hown hK hw 0 rfl kw1237 dX9_drawn_36 ?_
      refine lv_iload_n hx hb dX9_drawn_39 rfl (lv_at hl 2 rfl) ?_
      refine lv_if_ne (tgt := 48) hx hb dX9_drawn_40 (by decide) (fun c => ?_) (fun c => ?_)
      · have h := z_f h c
        refine lv_iload_n hx hb dX9_drawn_48 rfl (lv_at hl 2 rfl) ?_
        refine lv_iconst (v := 1) hx hb dX9_drawn_49 (by decide) ?_
        refine lv_icmp_ne (tgt := 58) hx hb dX9_drawn_50 (by decide) (fun c => ?_) (fun c => ?_)
        · have h := z_f h c
          refine lv_bipush (v := 22) hx hb dX9_drawn_58 (by decide) ?_
          exact bk_60_0  p0 (22 : Int32) o1 _ _ _ h hw (lv_sub hl [1] rfl)
        · have h := z_t h c
          refine lv_bipush (v := 15) hx hb dX9_drawn_53 (by decide) ?_
          refine lv_goto (tgt := 60) hx hb dX9_drawn_55 (by decide) ?_
          exact bk_60_0  p0 (15 : Int32) o1 _ _ _ h hw (lv_sub hl [1] rfl)
      · have h := z_t h c
        refine lv_bipush (v := 8) hx hb dX9_drawn_43 (by decide) ?_
        refine lv_goto (tgt := 60) hx hb dX9_drawn_45 (by decide) ?_
        exact bk_60_0  p0 (8 : Int32) o1 _ _ _ h hw (lv_sub hl [1] rfl)
    · have h := z_t h c
      refine lv_iconst (v := (-1)) hx hb dX9_drawn_33 (by decide) ?_
      have hy := Option.some.inj h
      rw [← hQz, ← hy]
      exact xr_i (v := (-1 : Int32)) hx hb hr rfl hlk hK hw dX9_drawn_34

def bk_X9_elder_36 (o_me : Ob) (rec_4_0 : Int32 × Int32 × Int32 → Option (Int32)) (v1 : Int32) (v3 : Int32) (s0 : Int32) (s1 : Int32) : Option (Int32) :=
  zlt (s1 + s0) fun x3 =>
  zlt (v3 + (1 : Int32)) fun x4 =>
  rec_4_0 (v1, x3, x4)
def lb_X9_elder_4 (o_me : Ob)  (rec_4_0 : Int32 × Int32 × Int32 → Option (Int32)) (v1 : Int32) (v2 : Int32) (v3 : Int32) : Option (Int32) :=
  if v1 ≤ v3 then
  (some v2)
  else
  (zgd (zin ((29 : Int32) + v3) 5484) <|
  zgd (zin ((29 : Int32) + v1) 5484) <|
  if (gA o_me 3 ((29 : Int32) + v3).toNatClampNeg) = (gA o_me 3 ((29 : Int32) + v1).toNatClampNeg) then
  (bk_X9_elder_36 o_me rec_4_0 v1 v3 (1 : Int32) v2)
  else
  (bk_X9_elder_36 o_me rec_4_0 v1 v3 (0 : Int32) v2))
def lp_X9_elder_4 (o_me : Ob)  : Nat → (Int32 × Int32 × Int32) → Option (Int32) := zit (fun rec a => lb_X9_elder_4 o_me  rec a.1 a.2.1 a.2.2)
def f_X9_elder (o_me : Ob) (p0 : Int32) : Option (Int32) :=
  lp_X9_elder_4 o_me  zfu (p0, (0 : Int32), (0 : Int32))
set_option maxHeartbeats 4000000 in
set_option maxRecDepth 100000 in
theorem m_X9_elder (l : Launch) (dC : Nat → ClassId) (dI : Nat → Nat → Nat) (sz : Nat) (h_me : Nat) (q_me : Nat → Nat) (k_me : Nat → ClassId) (o_me : Ob) (p0 : Int32) (y : Int32) (h : f_X9_elder o_me p0 = some y) : CI l yX9_elder cX9_elder 4 (some .int) ({ frames := 0, cells := 0, slots := 0, locals := 0 } : Room) dC dI sz [.ref h_me, .int p0] [wX9 h_me q_me k_me o_me] [tX9 k_me] y [wX9 h_me q_me k_me o_me] := by
  refine CC_of (by decide) (Nat.le_of_ble_eq_true rfl) ?_
  intro p e s m below meth c A ls hx hb hml hr hlk hnm hown hts hX hK hP hD hA hl
  have hl : lv_has ls 4 [(0, .ref h_me), (1, .int p0)] := hl
  have hown : s.vm.findClass RX9 = some m.cls := hown
  have hw : Wd dC dI A s.heap [wX9 h_me q_me k_me o_me] s.heap [] := ⟨hP, hD, va_S.rf⟩
  generalize hQz : (MQ below (QI dC dI (fun r (_ : Unit) => r = y) (fun _ => Jn [wX9 h_me q_me k_me o_me]) (fun _ => Jt [tX9 k_me]) A) ([.ref h_me, .int p0] : List Value).toArray s 0 0 A) = Qz
  clear hP hD hnm
  have bk_36_1 : ∀ (rec_4_0 : Int32 × Int32 × Int32 → Option (Int32)) (hrec_4_0 : ∀ (v1 : Int32) (v2 : Int32) (v3 : Int32) (H : Heap) (locs : List Loc) (ls : Array Slot), rec_4_0 (v1, v2, v3) = some y → Wd dC dI A s.heap [wX9 h_me q_me k_me o_me] H locs → lv_has ls 4 [(0, .ref h_me), (1, .int v1), (2, .int v2), (3, .int v3)] → W p l e ({ frames := 0, cells := 0, slots := 0, locals := 0 } : Room) s m ([.ref h_me, .int p0] : List Value).toArray below meth c H locs 0 0 Qz (F0 m 4 ls [])), ∀ (v1 : Int32) (v3 : Int32) (s0 : Int32) (s1 : Int32) (H : Heap) (locs : List Loc) (ls : Array Slot), bk_X9_elder_36 o_me rec_4_0 v1 v3 s0 s1 = some y → Wd dC dI A s.heap [wX9 h_me q_me k_me o_me] H locs → lv_has ls 4 [(0, .ref h_me), (1, .int v1), (3, .int v3)] → W p l e ({ frames := 0, cells := 0, slots := 0, locals := 0 } : Room) s m ([.ref h_me, .int p0] : List Value).toArray below meth c H locs 0 0 Qz (F0 m 36 ls [.int s0, .int s1]) := by
    intro rec_4_0 hrec_4_0
    intro v1 v3 s0 s1 H locs ls h hw hl
    unfold bk_X9_elder_36 at h
    refine lv_iadd hx hb dX9_elder_36 ?_
    obtain ⟨x3, ex3, h⟩ := z_lt h
    refine lv_fi (v := x3) ex3.symm ?_
    refine lv_istore_n (lv' := [(2, .int x3), (0, .ref h_me), (1, .int v1), (3, .int v3)]) hx hb dX9_elder_37 rfl hl (by decide) rfl (fun ls hl => ?_)
    obtain ⟨x4, ex4, h⟩ := z_lt h
    refine lv_iinc (v := x4) (lv' := [(3, .int x4), (2, .int x3), (0, .ref h_me), (1, .int v1)]) hx hb dX9_elder_38 hl (k := 3) rfl ((congrArg (v3 + ·) (show Int32.ofInt 1 = (1 : Int32) from by decide)).trans ex4.symm) (by decide) rfl (fun ls hl => ?_)
    refine lv_goto (tgt := 4) hx hb dX9_elder_41 (by decide) ?_
    exact hrec_4_0 v1 x3 x4 _ _ _ h hw (lv_sub hl [2, 3, 1, 0] rfl)
  have lp_4_0 : ∀ (N : Nat), ∀ (v1 : Int32) (v2 : Int32) (v3 : Int32) (H : Heap) (locs : List Loc) (ls : Array Slot), lp_X9_elder_4 o_me  N (v1, v2, v3) = some y → Wd dC dI A s.heap [wX9 h_me q_me k_me o_me] H locs → lv_has ls 4 [(0, .ref h_me), (1, .int v1), (2, .int v2), (3, .int v3)] → W p l e ({ frames := 0, cells := 0, slots := 0, locals := 0 } : Room) s m ([.ref h_me, .int p0] : List Value).toArray below meth c H locs 0 0 Qz (F0 m 4 ls []) := by
    intro N
    induction N with
    | zero =>
      intro v1 v2 v3 H locs ls h hw hl
      exact absurd (show (none : Option (Int32)) = some y from h) (by simp)
    | succ N ih =>
      intro v1 v2 v3 H locs ls h hw hl
      have h : lb_X9_elder_4 o_me  (lp_X9_elder_4 o_me  N) v1 v2 v3 = some y := h
      unfold lb_X9_elder_4 at h
      refine lv_iload_n hx hb dX9_elder_4 rfl (lv_at hl 3 rfl) ?_
      refine lv_iload_n hx hb dX9_elder_5 rfl (lv_at hl 1 rfl) ?_
      refine lv_icmp_ge (tgt := 44) hx hb dX9_elder_6 (by decide) (fun c => ?_) (fun c => ?_)
      · have h := z_t h c
        refine lv_iload_n hx hb dX9_elder_44 rfl (lv_at hl 2 rfl) ?_
        have hy := Option.some.inj h
        rw [← hQz, ← hy]
        exact xr_i (v := v2) hx hb hr rfl hlk hK hw dX9_elder_45
      · have h := z_f h c
        refine lv_iload_n hx hb dX9_elder_9 rfl (lv_at hl 2 rfl) ?_
        refine lv_aload_n hx hb dX9_elder_10 rfl (lv_at hl 0 rfl) ?_
        refine fgX9_3 hx hb hts hown hK hw 0 rfl kw1179 dX9_elder_11 ?_
        refine lv_bipush (v := 29) hx hb dX9_elder_14 (by decide) ?_
        refine lv_iload_n hx hb dX9_elder_16 rfl (lv_at hl 3 rfl) ?_
        refine lv_iadd hx hb dX9_elder_17 ?_
        obtain ⟨g1, h⟩ := z_gd h
        refine faX9_3 hx hb hK hw 0 rfl rfl g1 dX9_elder_18 ?_
        refine lv_aload_n hx hb dX9_elder_19 rfl (lv_at hl 0 rfl) ?_
        refine fgX9_3 hx hb hts hown hK hw 0 rfl kw1179 dX9_elder_20 ?_
        refine lv_bipush (v := 29) hx hb dX9_elder_23 (by decide) ?_
        refine lv_iload_n hx hb dX9_elder_25 rfl (lv_at hl 1 rfl) ?_
        refine lv_iadd hx hb dX9_elder_26 ?_
        obtain ⟨g2, h⟩ := z_gd h
        refine faX9_3 hx hb hK hw 0 rfl rfl g2 dX9_elder_27 ?_
        refine lv_icmp_ne (tgt := 35) hx hb dX9_elder_28 (by decide) (fun c => ?_) (fun c => ?_)
        · have h := z_f h c
          refine lv_iconst (v := 0) hx hb dX9_elder_35 (by decide) ?_
          exact bk_36_1 (lp_X9_elder_4 o_me  N) ih v1 v3 (0 : Int32) v2 _ _ _ h hw (lv_sub hl [0, 1, 3] rfl)
        · have h := z_t h c
          refine lv_iconst (v := 1) hx hb dX9_elder_31 (by decide) ?_
          refine lv_goto (tgt := 36) hx hb dX9_elder_32 (by decide) ?_
          exact bk_36_1 (lp_X9_elder_4 o_me  N) ih v1 v3 (1 : Int32) v2 _ _ _ h hw (lv_sub hl [0, 1, 3] rfl)
  unfold f_X9_elder at h
  refine lv_iconst (v := 0) hx hb dX9_elder_0 (by decide) ?_
  refine lv_istore_n (lv' := [(2, .int (0 : Int32)), (0, .ref h_me), (1, .int p0)]) hx hb dX9_elder_1 rfl hl (by decide) rfl (fun ls hl => ?_)
  refine lv_iconst (v := 0) hx hb dX9_elder_2 (by decide) ?_
  refine lv_istore_n (lv' := [(3, .int (0 : Int32)), (2, .int (0 : Int32)), (0, .ref h_me), (1, .int p0)]) hx hb dX9_elder_3 rfl hl (by decide) rfl (fun ls hl => ?_)
  exact lp_4_0  zfu p0 (0 : Int32) (0 : Int32) _ _ _ h hw (lv_sub hl [2, 3, 1, 0] rfl)

def f_X9_end (o_me : Ob) (p0 : Int32) : Option (Int32 × Ob) :=
  zlt (sI o_me 0 (0 : Int32)) fun o1 =>
  if p0 < (0 : Int32) then
  (some ((-1 : Int32), o1))
  else
  (if p0 ≤ (gI o1 13) then
  (zlt (sI o1 13 p0) fun o2 =>
  some (p0, o2))
  else
  (some ((-1 : Int32), o1)))
set_option maxHeartbeats 4000000 in
set_option maxRecDepth 100000 in
theorem m_X9_end (l : Launch) (dC : Nat → ClassId) (dI : Nat → Nat → Nat) (sz : Nat) (h_me : Nat) (q_me : Nat → Nat) (k_me : Nat → ClassId) (o_me : Ob) (p0 : Int32) (y : Int32 × Ob) (h : f_X9_end o_me p0 = some y) : CI l yX9_end cX9_end 2 (some .int) ({ frames := 0, cells := 0, slots := 0, locals := 0 } : Room) dC dI sz [.ref h_me, .int p0] [wX9 h_me q_me k_me o_me] [tX9 k_me] y.1 [wX9 h_me q_me k_me y.2] := by
  refine CC_of (by decide) (Nat.le_of_ble_eq_true rfl) ?_
  intro p e s m below meth c A ls hx hb hml hr hlk hnm hown hts hX hK hP hD hA hl
  have hl : lv_has ls 2 [(0, .ref h_me), (1, .int p0)] := hl
  have hown : s.vm.findClass RX9 = some m.cls := hown
  have hw : Wd dC dI A s.heap [wX9 h_me q_me k_me o_me] s.heap [] := ⟨hP, hD, va_S.rf⟩
  generalize hQz : (MQ below (QI dC dI (fun r (_ : Unit) => r = y.1) (fun _ => Jn [wX9 h_me q_me k_me y.2]) (fun _ => Jt [tX9 k_me]) A) ([.ref h_me, .int p0] : List Value).toArray s 0 0 A) = Qz
  clear hP hD hnm
  unfold f_X9_end at h
  refine lv_aload_n hx hb dX9_end_0 rfl (lv_at hl 0 rfl) ?_
  refine lv_iconst (v := 0) hx hb dX9_end_1 (by decide) ?_
  refine fpX9_0 hx hb hts hown hK hw 0 rfl kw1176 dX9_end_2 (fun H locs hw => ?_)
  obtain ⟨o1, eo1, h⟩ := z_lt h
  have hw : Wd dC dI A s.heap [wX9 h_me q_me k_me o1] H locs := by rw [eo1]; exact hw
  refine lv_iload_n hx hb dX9_end_5 rfl (lv_at hl 1 rfl) ?_
  refine lv_if_lt (tgt := 17) hx hb dX9_end_6 (by decide) (fun c => ?_) (fun c => ?_)
  · have h := z_t h c
    refine lv_iconst (v := (-1)) hx hb dX9_end_17 (by decide) ?_
    have hy := Option.some.inj h
    rw [← hQz, ← hy]
    exact xr_i (v := (-1 : Int32)) hx hb hr rfl hlk hK hw dX9_end_18
  · have h := z_f h c
    refine lv_iload_n hx hb dX9_end_9 rfl (lv_at hl 1 rfl) ?_
    refine lv_aload_n hx hb dX9_end_10 rfl (lv_at hl 0 rfl) ?_
    refine fgX9_13 hx hb hts hown hK hw 0 rfl kw1189 dX9_end_11 ?_
    refine lv_icmp_le (tgt := 19) hx hb dX9_end_14 (by decide) (fun c => ?_) (fun c => ?_)
    · have h := z_t h c
      refine lv_aload_n hx hb dX9_end_19 rfl (lv_at hl 0 rfl) ?_
      refine lv_iload_n hx hb dX9_end_20 rfl (lv_at hl 1 rfl) ?_
      refine fpX9_13 hx hb hts hown hK hw 0 rfl kw1189 dX9_end_21 (fun H locs hw => ?_)
      obtain ⟨o2, eo2, h⟩ := z_lt h
      have hw : Wd dC dI A s.heap [wX9 h_me q_me k_me o2] H locs := by rw [eo2]; exact hw
      refine lv_iload_n hx hb dX9_end_24 rfl (lv_at hl 1 rfl) ?_
      have hy := Option.some.inj h
      rw [← hQz, ← hy]
      exact xr_i (v := p0) hx hb hr rfl hlk hK hw dX9_end_25
    · have h := z_f h c
      refine lv_iconst (v := (-1)) hx hb dX9_end_17 (by decide) ?_
      have hy := Option.some.inj h
      rw [← hQz, ← hy]
      exact xr_i (v := (-1 : Int32)) hx hb hr rfl hlk hK hw dX9_end_18

def bk_X9_endText_19   (o_me : Ob) : Option (Ob) :=
  zlt (sI o_me 20 (0 : Int32)) fun o1 =>
  zlt (sI o1 13 (0 : Int32)) fun o2 =>
  some o2
def f_X9_endText (o_me : Ob) : Option (Ob) :=
  if (gI o_me 19) = (0 : Int32) then
  (if (gI o_me 16) = (0 : Int32) then
  (bk_X9_endText_19   o_me)
  else
  ((f_X9_must o_me (0 : Int32)).bind fun z3 =>
  bk_X9_endText_19   z3))
  else
  (bk_X9_endText_19   o_me)
set_option maxHeartbeats 4000000 in
set_option maxRecDepth 100000 in
theorem m_X9_endText (l : Launch) (dC : Nat → ClassId) (dI : Nat → Nat → Nat) (sz : Nat) (h_me : Nat) (q_me : Nat → Nat) (k_me : Nat → ClassId) (o_me : Ob) (y : Ob) (h : f_X9_endText o_me = some y) : CV l yX9_endText cX9_endText 1 none ({ frames := 3, cells := 0, slots := 0, locals := 61 } : Room) dC dI sz [.ref h_me] [wX9 h_me q_me k_me o_me] [tX9 k_me] [wX9 h_me q_me k_me y] := by
  refine CC_of (by decide) (Nat.le_of_ble_eq_true rfl) ?_
  intro p e s m below meth c A ls hx hb hml hr hlk hnm hown hts hX hK hP hD hA hl
  have hl : lv_has ls 1 [(0, .ref h_me)] := hl
  have hown : s.vm.findClass RX9 = some m.cls := hown
  have hw : Wd dC dI A s.heap [wX9 h_me q_me k_me o_me] s.heap [] := ⟨hP, hD, va_S.rf⟩
  generalize hQz : (MQ below (QV dC dI (fun (_ : Unit) => True) (fun _ => Jn [wX9 h_me q_me k_me y]) (fun _ => Jt [tX9 k_me]) A) ([.ref h_me] : List Value).toArray s 0 0 A) = Qz
  clear hP hD hnm
  have bk_19_0 : ∀ (o_me : Ob) (H : Heap) (locs : List Loc) (ls : Array Slot), bk_X9_endText_19   o_me = some y → Wd dC dI A s.heap [wX9 h_me q_me k_me o_me] H locs → lv_has ls 1 [(0, .ref h_me)] → W p l e ({ frames := 3, cells := 0, slots := 0, locals := 61 } : Room) s m ([.ref h_me] : List Value).toArray below meth c H locs 0 0 Qz (F0 m 19 ls []) := by
    intro o_me H locs ls h hw hl
    unfold bk_X9_endText_19 at h
    refine lv_aload_n hx hb dX9_endText_19 rfl (lv_at hl 0 rfl) ?_
    refine lv_iconst (v := 0) hx hb dX9_endText_20 (by decide) ?_
    refine fpX9_20 hx hb hts hown hK hw 0 rfl kw1196 (by decide) dX9_endText_21 (fun H locs hw => ?_)
    obtain ⟨o1, eo1, h⟩ := z_lt h
    have hw : Wd dC dI A s.heap [wX9 h_me q_me k_me o1] H locs := by rw [eo1]; exact hw
    refine lv_aload_n hx hb dX9_endText_24 rfl (lv_at hl 0 rfl) ?_
    refine lv_iconst (v := 0) hx hb dX9_endText_25 (by decide) ?_
    refine fpX9_13 hx hb hts hown hK hw 0 rfl kw1189 dX9_endText_26 (fun H locs hw => ?_)
    obtain ⟨o2, eo2, h⟩ := z_lt h
    have hw : Wd dC dI A s.heap [wX9 h_me q_me k_me o2] H locs := by rw [eo2]; exact hw
    have hy := Option.some.inj h
    rw [← hQz, ← hy]
    exact xr_v hx hb hr hlk hK hw dX9_endText_29
  unfold f_X9_endText at h
  refine lv_aload_n hx hb dX9_endText_0 rfl (lv_at hl 0 rfl) ?_
  refine fgX9_19 hx hb hts hown hK hw 0 rfl kw1195 dX9_endText_1 ?_
  refine lv_if_ne (tgt := 19) hx hb dX9_endText_4 (by decide) (fun c => ?_) (fun c => ?_)
  · have h := z_f h c
    exact bk_19_0  o_me _ _ _ h hw (lv_sub hl [0] rfl)
  · have h := z_t h c
    refine lv_aload_n hx hb dX9_endText_7 rfl (lv_at hl 0 rfl) ?_
    refine fgX9_16 hx hb hts hown hK hw 0 rfl kw1192 dX9_endText_8 ?_
    refine lv_if_eq (tgt := 19) hx hb dX9_endText_11 (by decide) (fun c => ?_) (fun c => ?_)
    · have h := z_t h c
      exact bk_19_0  o_me _ _ _ h hw (lv_sub hl [0] rfl)
    · have h := z_f h c
      refine lv_aload_n hx hb dX9_endText_14 rfl (lv_at hl 0 rfl) ?_
      refine lv_iconst (v := 0) hx hb dX9_endText_15 (by decide) ?_
      obtain ⟨z3, ez3, h⟩ := z_bd h
      refine xj_v (xrV (As := [.int (0 : Int32)]) (rest := []) ⟨hx, hb, hml, hown, hts⟩ (m_X9_must l dC dI _ h_me q_me k_me o_me (0 : Int32) z3 ez3) kw1534 kw1531 kw1533 kw58 kw120 hd_X9_must ⟨rfl, rfl⟩ rfl rfl ⟨rfl, rfl⟩ hX hK hw [0] (by decide) rfl rfl rfl rfl rfl hl.1 rfl rfl dX9_endText_16) hw hA [0] (by decide) rfl rfl (fun H locs hw => ?_)
      have hw : Wd dC dI A s.heap [wX9 h_me q_me k_me z3] H locs := hw
      exact bk_19_0  z3 _ _ _ h hw (lv_sub hl [0] rfl)

def f_X9_enter (o_me : Ob) (p0 : Int32) : Option (Int32 × Ob) :=
  zlt (sI o_me 0 (0 : Int32)) fun o1 =>
  (f_X9_enterNow o1 p0).bind fun z2 =>
  (f_X9_tell z2.2 z2.1).bind fun z3 =>
  some (z3.1, z3.2)
set_option maxHeartbeats 4000000 in
set_option maxRecDepth 100000 in
theorem m_X9_enter (l : Launch) (dC : Nat → ClassId) (dI : Nat → Nat → Nat) (sz : Nat) (h_me : Nat) (q_me : Nat → Nat) (k_me : Nat → ClassId) (o_me : Ob) (p0 : Int32) (y : Int32 × Ob) (h : f_X9_enter o_me p0 = some y) : CI l yX9_enter cX9_enter 2 (some .int) ({ frames := 3, cells := 0, slots := 0, locals := 67 } : Room) dC dI sz [.ref h_me, .int p0] [wX9 h_me q_me k_me o_me] [tX9 k_me] y.1 [wX9 h_me q_me k_me y.2] := by
  refine CC_of (by decide) (Nat.le_of_ble_eq_true rfl) ?_
  intro p e s m below meth c A ls hx hb hml hr hlk hnm hown hts hX hK hP hD hA hl
  have hl : lv_has ls 2 [(0, .ref h_me), (1, .int p0)] := hl
  have hown : s.vm.findClass RX9 = some m.cls := hown
  have hw : Wd dC dI A s.heap [wX9 h_me q_me k_me o_me] s.heap [] := ⟨hP, hD, va_S.rf⟩
  generalize hQz : (MQ below (QI dC dI (fun r (_ : Unit) => r = y.1) (fun _ => Jn [wX9 h_me q_me k_me y.2]) (fun _ => Jt [tX9 k_me]) A) ([.ref h_me, .int p0] : List Value).toArray s 0 0 A) = Qz
  clear hP hD hnm
  unfold f_X9_enter at h
  refine lv_aload_n hx hb dX9_enter_0 rfl (lv_at hl 0 rfl) ?_
  refine lv_iconst (v := 0) hx hb dX9_enter_1 (by decide) ?_
  refine fpX9_0 hx hb hts hown hK hw 0 rfl kw1176 dX9_enter_2 (fun H locs hw => ?_)
  obtain ⟨o1, eo1, h⟩ := z_lt h
  have hw : Wd dC dI A s.heap [wX9 h_me q_me k_me o1] H locs := by rw [eo1]; exact hw
  refine lv_aload_n hx hb dX9_enter_5 rfl (lv_at hl 0 rfl) ?_
  refine lv_aload_n hx hb dX9_enter_6 rfl (lv_at hl 0 rfl) ?_
  refine lv_iload_n hx hb dX9_enter_7 rfl (lv_at hl 1 rfl) ?_
  obtain ⟨z2, ez2, h⟩ := z_bd h
  refine xj_i (xrV (As := [.int p0]) (rest := [.ref h_me]) ⟨hx, hb, hml, hown, hts⟩ (m_X9_enterNow l dC dI _ h_me q_me k_me o1 p0 z2 ez2) kw1660 kw1657 kw1659 kw83 kw120 hd_X9_enterNow ⟨rfl, rfl⟩ rfl rfl ⟨rfl, rfl⟩ hX hK hw [0] (by decide) rfl rfl rfl rfl rfl hl.1 rfl rfl dX9_enter_8) hw hA [0] (by decide) rfl rfl (fun H locs hw => ?_)
  have hw : Wd dC dI A s.heap [wX9 h_me q_me k_me z2.2] H locs := hw
  obtain ⟨z3, ez3, h⟩ := z_bd h
  refine xj_i (xrV (As := [.int z2.1]) (rest := []) ⟨hx, hb, hml, hown, hts⟩ (m_X9_tell l dC dI _ h_me q_me k_me z2.2 z2.1 z3 ez3) kw1374 kw1371 kw1373 kw39 kw120 hd_X9_tell ⟨rfl, rfl⟩ rfl rfl ⟨rfl, rfl⟩ hX hK hw [0] (by decide) rfl rfl rfl rfl rfl hl.1 rfl rfl dX9_enter_11) hw hA [0] (by decide) rfl rfl (fun H locs hw => ?_)
  have hw : Wd dC dI A s.heap [wX9 h_me q_me k_me z3.2] H locs := hw
  have hy := Option.some.inj h
  rw [← hQz, ← hy]
  exact xr_i (v := z3.1) hx hb hr rfl hlk hK hw dX9_enter_14

def f_X9_fault (o_me : Ob) : Option (Int32 × Ob) :=
  zlt (sI o_me 0 (0 : Int32)) fun o1 =>
  some (gI o1 18, o1)
set_option maxHeartbeats 4000000 in
set_option maxRecDepth 100000 in
theorem m_X9_fault (l : Launch) (dC : Nat → ClassId) (dI : Nat → Nat → Nat) (sz : Nat) (h_me : Nat) (q_me : Nat → Nat) (k_me : Nat → ClassId) (o_me : Ob) (y : Int32 × Ob) (h : f_X9_fault o_me = some y) : CI l yX9_fault cX9_fault 1 (some .int) ({ frames := 0, cells := 0, slots := 0, locals := 0 } : Room) dC dI sz [.ref h_me] [wX9 h_me q_me k_me o_me] [tX9 k_me] y.1 [wX9 h_me q_me k_me y.2] := by
  refine CC_of (by decide) (Nat.le_of_ble_eq_true rfl) ?_
  intro p e s m below meth c A ls hx hb hml hr hlk hnm hown hts hX hK hP hD hA hl
  have hl : lv_has ls 1 [(0, .ref h_me)] := hl
  have hown : s.vm.findClass RX9 = some m.cls := hown
  have hw : Wd dC dI A s.heap [wX9 h_me q_me k_me o_me] s.heap [] := ⟨hP, hD, va_S.rf⟩
  generalize hQz : (MQ below (QI dC dI (fun r (_ : Unit) => r = y.1) (fun _ => Jn [wX9 h_me q_me k_me y.2]) (fun _ => Jt [tX9 k_me]) A) ([.ref h_me] : List Value).toArray s 0 0 A) = Qz
  clear hP hD hnm
  unfold f_X9_fault at h
  refine lv_aload_n hx hb dX9_fault_0 rfl (lv_at hl 0 rfl) ?_
  refine lv_iconst (v := 0) hx hb dX9_fault_1 (by decide) ?_
  refine fpX9_0 hx hb hts hown hK hw 0 rfl kw1176 dX9_fault_2 (fun H locs hw => ?_)
  obtain ⟨o1, eo1, h⟩ := z_lt h
  have hw : Wd dC dI A s.heap [wX9 h_me q_me k_me o1] H locs := by rw [eo1]; exact hw
  refine lv_aload_n hx hb dX9_fault_5 rfl (lv_at hl 0 rfl) ?_
  refine fgX9_18 hx hb hts hown hK hw 0 rfl kw1194 dX9_fault_6 ?_
  have hy := Option.some.inj h
  rw [← hQz, ← hy]
  exact xr_i (v := gI o1 18) hx hb hr rfl hlk hK hw dX9_fault_9

def lb_X9_four_3   (rec_3_0 : Int32 × Int32 × Ob → Option (Ob)) (v1 : Int32) (v2 : Int32) (o_me : Ob) : Option (Ob) :=
  if v2 < (0 : Int32) then
  (some o_me)
  else
  (zgd (zin (gI o_me 13) 400) <|
  zlt (tA o_me 12 (gI o_me 13).toNatClampNeg ((v1 >>> (v2 &&& 31)) &&& (255 : Int32))) fun o2 =>
  zlt (sI o2 13 ((gI o2 13) + (1 : Int32))) fun o3 =>
  zlt (v2 + (-8 : Int32)) fun x4 =>
  rec_3_0 (v1, x4, o3))
def lp_X9_four_3   : Nat → (Int32 × Int32 × Ob) → Option (Ob) := zit (fun rec a => lb_X9_four_3   rec a.1 a.2.1 a.2.2)
def f_X9_four (o_me : Ob) (p0 : Int32) : Option (Ob) :=
  lp_X9_four_3   zfu (p0, (24 : Int32), o_me)
set_option maxHeartbeats 4000000 in
set_option maxRecDepth 100000 in
theorem m_X9_four (l : Launch) (dC : Nat → ClassId) (dI : Nat → Nat → Nat) (sz : Nat) (h_me : Nat) (q_me : Nat → Nat) (k_me : Nat → ClassId) (o_me : Ob) (p0 : Int32) (y : Ob) (h : f_X9_four o_me p0 = some y) : CV l yX9_four cX9_four 3 none ({ frames := 0, cells := 0, slots := 0, locals := 0 } : Room) dC dI sz [.ref h_me, .int p0] [wX9 h_me q_me k_me o_me] [tX9 k_me] [wX9 h_me q_me k_me y] := by
  refine CC_of (by decide) (Nat.le_of_ble_eq_true rfl) ?_
  intro p e s m below meth c A ls hx hb hml hr hlk hnm hown hts hX hK hP hD hA hl
  have hl : lv_has ls 3 [(0, .ref h_me), (1, .int p0)] := hl
  have hown : s.vm.findClass RX9 = some m.cls := hown
  have hw : Wd dC dI A s.heap [wX9 h_me q_me k_me o_me] s.heap [] := ⟨hP, hD, va_S.rf⟩
  generalize hQz : (MQ below (QV dC dI (fun (_ : Unit) => True) (fun _ => Jn [wX9 h_me q_me k_me y]) (fun _ => Jt [tX9 k_me]) A) ([.ref h_me, .int p0] : List Value).toArray s 0 0 A) = Qz
  clear hP hD hnm
  have lp_3_0 : ∀ (N : Nat), ∀ (v1 : Int32) (v2 : Int32) (o_me : Ob) (H : Heap) (locs : List Loc) (ls : Array Slot), lp_X9_four_3   N (v1, v2, o_me) = some y → Wd dC dI A s.heap [wX9 h_me q_me k_me o_me] H locs → lv_has ls 3 [(0, .ref h_me), (1, .int v1), (2, .int v2)] → W p l e ({ frames := 0, cells := 0, slots := 0, locals := 0 } : Room) s m ([.ref h_me, .int p0] : List Value).toArray below meth c H locs 0 0 Qz (F0 m 3 ls []) := by
    intro N
    induction N with
    | zero =>
      intro v1 v2 o_me H locs ls h hw hl
      exact absurd (show (none : Option (Ob)) = some y from h) (by simp)
    | succ N ih =>
      intro v1 v2 o_me H locs ls h hw hl
      have h : lb_X9_four_3   (lp_X9_four_3   N) v1 v2 o_me = some y := h
      unfold lb_X9_four_3 at h
      refine lv_iload_n hx hb dX9_four_3 rfl (lv_at hl 2 rfl) ?_
      refine lv_if_lt (tgt := 39) hx hb dX9_four_4 (by decide) (fun c => ?_) (fun c => ?_)
      · have h := z_t h c
        have hy := Option.some.inj h
        rw [← hQz, ← hy]
        exact xr_v hx hb hr hlk hK hw dX9_four_39
      · have h := z_f h c
        refine lv_aload_n hx hb dX9_four_7 rfl (lv_at hl 0 rfl) ?_
        refine fgX9_12 hx hb hts hown hK hw 0 rfl kw1188 dX9_four_8 ?_
        refine lv_aload_n hx hb dX9_four_11 rfl (lv_at hl 0 rfl) ?_
        refine fgX9_13 hx hb hts hown hK hw 0 rfl kw1189 dX9_four_12 ?_
        refine lv_iload_n hx hb dX9_four_15 rfl (lv_at hl 1 rfl) ?_
        refine lv_iload_n hx hb dX9_four_16 rfl (lv_at hl 2 rfl) ?_
        refine lv_ishr hx hb dX9_four_17 ?_
        refine lv_sipush (v := 255) hx hb dX9_four_18 (by decide) ?_
        refine lv_iand hx hb dX9_four_21 ?_
        obtain ⟨g1, h⟩ := z_gd h
        refine fbX9_12 hx hb hK hw 0 rfl rfl g1 dX9_four_22 (fun H locs hw => ?_)
        obtain ⟨o2, eo2, h⟩ := z_lt h
        have hw : Wd dC dI A s.heap [wX9 h_me q_me k_me o2] H locs := by rw [eo2]; exact hw
        refine lv_aload_n hx hb dX9_four_23 rfl (lv_at hl 0 rfl) ?_
        refine lv_dup hx hb dX9_four_24 rfl ?_
        refine fgX9_13 hx hb hts hown hK hw 0 rfl kw1189 dX9_four_25 ?_
        refine lv_iconst (v := 1) hx hb dX9_four_28 (by decide) ?_
        refine lv_iadd hx hb dX9_four_29 ?_
        refine fpX9_13 hx hb hts hown hK hw 0 rfl kw1189 dX9_four_30 (fun H locs hw => ?_)
        obtain ⟨o3, eo3, h⟩ := z_lt h
        have hw : Wd dC dI A s.heap [wX9 h_me q_me k_me o3] H locs := by rw [eo3]; exact hw
        obtain ⟨x4, ex4, h⟩ := z_lt h
        refine lv_iinc (v := x4) (lv' := [(2, .int x4), (0, .ref h_me), (1, .int v1)]) hx hb dX9_four_33 hl (k := 2) rfl ((congrArg (v2 + ·) (show Int32.ofInt (-8) = (-8 : Int32) from by decide)).trans ex4.symm) (by decide) rfl (fun ls hl => ?_)
        refine lv_goto (tgt := 3) hx hb dX9_four_36 (by decide) ?_
        exact ih v1 x4 o3 _ _ _ h hw (lv_sub hl [1, 2, 0] rfl)
  unfold f_X9_four at h
  refine lv_bipush (v := 24) hx hb dX9_four_0 (by decide) ?_
  refine lv_istore_n (lv' := [(2, .int (24 : Int32)), (0, .ref h_me), (1, .int p0)]) hx hb dX9_four_2 rfl hl (by decide) rfl (fun ls hl => ?_)
  exact lp_3_0  zfu p0 (24 : Int32) o_me _ _ _ h hw (lv_sub hl [1, 2, 0] rfl)

def f_X9_feed (o_me : Ob) (p0 : Int32) (p1 : Int32) (p2 : Int32) (p3 : Int32) (p4 : Int32) : Option (Int32 × Ob) :=
  zlt (sI o_me 0 (0 : Int32)) fun o1 =>
  if ((gI o1 13) + (20 : Int32)) ≤ (400 : Int32) then
  ((f_X9_four o1 p0).bind fun z2 =>
  (f_X9_four z2 p1).bind fun z3 =>
  (f_X9_four z3 p2).bind fun z4 =>
  (f_X9_four z4 p3).bind fun z5 =>
  (f_X9_four z5 p4).bind fun z6 =>
  some (gI z6 13, z6))
  else
  (some ((-1 : Int32), o1))
set_option maxHeartbeats 4000000 in
set_option maxRecDepth 100000 in
theorem m_X9_feed (l : Launch) (dC : Nat → ClassId) (dI : Nat → Nat → Nat) (sz : Nat) (h_me : Nat) (q_me : Nat → Nat) (k_me : Nat → ClassId) (o_me : Ob) (p0 : Int32) (p1 : Int32) (p2 : Int32) (p3 : Int32) (p4 : Int32) (y : Int32 × Ob) (h : f_X9_feed o_me p0 p1 p2 p3 p4 = some y) : CI l yX9_feed cX9_feed 6 (some .int) ({ frames := 1, cells := 0, slots := 0, locals := 22 } : Room) dC dI sz [.ref h_me, .int p0, .int p1, .int p2, .int p3, .int p4] [wX9 h_me q_me k_me o_me] [tX9 k_me] y.1 [wX9 h_me q_me k_me y.2] := by
  refine CC_of (by decide) (Nat.le_of_ble_eq_true rfl) ?_
  intro p e s m below meth c A ls hx hb hml hr hlk hnm hown hts hX hK hP hD hA hl
  have hl : lv_has ls 6 [(0, .ref h_me), (1, .int p0), (2, .int p1), (3, .int p2), (4, .int p3), (5, .int p4)] := hl
  have hown : s.vm.findClass RX9 = some m.cls := hown
  have hw : Wd dC dI A s.heap [wX9 h_me q_me k_me o_me] s.heap [] := ⟨hP, hD, va_S.rf⟩
  generalize hQz : (MQ below (QI dC dI (fun r (_ : Unit) => r = y.1) (fun _ => Jn [wX9 h_me q_me k_me y.2]) (fun _ => Jt [tX9 k_me]) A) ([.ref h_me, .int p0, .int p1, .int p2, .int p3, .int p4] : List Value).toArray s 0 0 A) = Qz
  clear hP hD hnm
  unfold f_X9_feed at h
  refine lv_aload_n hx hb dX9_feed_0 rfl (lv_at hl 0 rfl) ?_
  refine lv_iconst (v := 0) hx hb dX9_feed_1 (by decide) ?_
  refine fpX9_0 hx hb hts hown hK hw 0 rfl kw1176 dX9_feed_2 (fun H locs hw => ?_)
  obtain ⟨o1, eo1, h⟩ := z_lt h
  have hw : Wd dC dI A s.heap [wX9 h_me q_me k_me o1] H locs := by rw [eo1]; exact hw
  refine lv_aload_n hx hb dX9_feed_5 rfl (lv_at hl 0 rfl) ?_
  refine fgX9_13 hx hb hts hown hK hw 0 rfl kw1189 dX9_feed_6 ?_
  refine lv_bipush (v := 20) hx hb dX9_feed_9 (by decide) ?_
  refine lv_iadd hx hb dX9_feed_11 ?_
  refine lv_sipush (v := 400) hx hb dX9_feed_12 (by decide) ?_
  refine lv_icmp_le (tgt := 20) hx hb dX9_feed_15 (by decide) (fun c => ?_) (fun c => ?_)
  · have h := z_t h c
    refine lv_aload_n hx hb dX9_feed_20 rfl (lv_at hl 0 rfl) ?_
    refine lv_iload_n hx hb dX9_feed_21 rfl (lv_at hl 1 rfl) ?_
    obtain ⟨z2, ez2, h⟩ := z_bd h
    refine xj_v (xrV (As := [.int p0]) (rest := []) ⟨hx, hb, hml, hown, hts⟩ (m_X9_four l dC dI _ h_me q_me k_me o1 p0 z2 ez2) kw1488 kw1485 kw1487 kw52 kw120 hd_X9_four ⟨rfl, rfl⟩ rfl rfl ⟨rfl, rfl⟩ hX hK hw [0] (by decide) rfl rfl rfl rfl rfl hl.1 rfl rfl dX9_feed_22) hw hA [0] (by decide) rfl rfl (fun H locs hw => ?_)
    have hw : Wd dC dI A s.heap [wX9 h_me q_me k_me z2] H locs := hw
    refine lv_aload_n hx hb dX9_feed_25 rfl (lv_at hl 0 rfl) ?_
    refine lv_iload_n hx hb dX9_feed_26 rfl (lv_at hl 2 rfl) ?_
    obtain ⟨z3, ez3, h⟩ := z_bd h
    refine xj_v (xrV (As := [.int p1]) (rest := []) ⟨hx, hb, hml, hown, hts⟩ (m_X9_four l dC dI _ h_me q_me k_me z2 p1 z3 ez3) kw1488 kw1485 kw1487 kw52 kw120 hd_X9_four ⟨rfl, rfl⟩ rfl rfl ⟨rfl, rfl⟩ hX hK hw [0] (by decide) rfl rfl rfl rfl rfl hl.1 rfl rfl dX9_feed_27) hw hA [0] (by decide) rfl rfl (fun H locs hw => ?_)
    have hw : Wd dC dI A s.heap [wX9 h_me q_me k_me z3] H locs := hw
    refine lv_aload_n hx hb dX9_feed_30 rfl (lv_at hl 0 rfl) ?_
    refine lv_iload_n hx hb dX9_feed_31 rfl (lv_at hl 3 rfl) ?_
    obtain ⟨z4, ez4, h⟩ := z_bd h
    refine xj_v (xrV (As := [.int p2]) (rest := []) ⟨hx, hb, hml, hown, hts⟩ (m_X9_four l dC dI _ h_me q_me k_me z3 p2 z4 ez4) kw1488 kw1485 kw1487 kw52 kw120 hd_X9_four ⟨rfl, rfl⟩ rfl rfl ⟨rfl, rfl⟩ hX hK hw [0] (by decide) rfl rfl rfl rfl rfl hl.1 rfl rfl dX9_feed_32) hw hA [0] (by decide) rfl rfl (fun H locs hw => ?_)
    have hw : Wd dC dI A s.heap [wX9 h_me q_me k_me z4] H locs := hw
    refine lv_aload_n hx hb dX9_feed_35 rfl (lv_at hl 0 rfl) ?_
    refine lv_iload hx hb dX9_feed_36 (lv_at hl 4 rfl) ?_
    obtain ⟨z5, ez5, h⟩ := z_bd h
    refine xj_v (xrV (As := [.int p3]) (rest := []) ⟨hx, hb, hml, hown, hts⟩ (m_X9_four l dC dI _ h_me q_me k_me z4 p3 z5 ez5) kw1488 kw1485 kw1487 kw52 kw120 hd_X9_four ⟨rfl, rfl⟩ rfl rfl ⟨rfl, rfl⟩ hX hK hw [0] (by decide) rfl rfl rfl rfl rfl hl.1 rfl rfl dX9_feed_38) hw hA [0] (by decide) rfl rfl (fun H locs hw => ?_)
    have hw : Wd dC dI A s.heap [wX9 h_me q_me k_me z5] H locs := hw
    refine lv_aload_n hx hb dX9_feed_41 rfl (lv_at hl 0 rfl) ?_
    refine lv_iload hx hb dX9_feed_42 (lv_at hl 5 rfl) ?_
    obtain ⟨z6, ez6, h⟩ := z_bd h
    refine xj_v (xrV (As := [.int p4]) (rest := []) ⟨hx, hb, hml, hown, hts⟩ (m_X9_four l dC dI _ h_me q_me k_me z5 p4 z6 ez6) kw1488 kw1485 kw1487 kw52 kw120 hd_X9_four ⟨rfl, rfl⟩ rfl rfl ⟨rfl, rfl⟩ hX hK hw [0] (by decide) rfl rfl rfl rfl rfl hl.1 rfl rfl dX9_feed_44) hw hA [0] (by decide) rfl rfl (fun H locs hw => ?_)
    have hw : Wd dC dI A s.heap [wX9 h_me q_me k_me z6] H locs := hw
    refine lv_aload_n hx hb dX9_feed_47 rfl (lv_at hl 0 rfl) ?_
    refine fgX9_13 hx hb hts hown hK hw 0 rfl kw1189 dX9_feed_48 ?_
    have hy := Option.some.inj h
    rw [← hQz, ← hy]
    exact xr_i (v := gI z6 13) hx hb hr rfl hlk hK hw dX9_feed_51
  · have h := z_f h c
    refine lv_iconst (v := (-1)) hx hb dX9_feed_18 (by decide) ?_
    have hy := Option.some.inj h
    rw [← hQz, ← hy]
    exact xr_i (v := (-1 : Int32)) hx hb hr rfl hlk hK hw dX9_feed_19

def lb_X9_few_157   (rec_157_2 : Int32 × Int64 × Int32 × Ob → Option (Int64 × Ob)) (v1 : Int32) (v4 : Int64) (v6 : Int32) (o_me : Ob) : Option (Int64 × Ob) :=
  if v1 ≤ v6 then
  (some (v4, o_me))
  else
  (zgd (zin v6 21) <|
  zlt (v4 + (gM o_me 53 v6.toNatClampNeg)) fun x6 =>
  zlt (v6 + (1 : Int32)) fun x7 =>
  rec_157_2 (v1, x6, x7, o_me))
def lp_X9_few_157   : Nat → (Int32 × Int64 × Int32 × Ob) → Option (Int64 × Ob) := zit (fun rec a => lb_X9_few_157   rec a.1 a.2.1 a.2.2.1 a.2.2.2)
def lb_X9_few_85  (rec_74_1 : Int32 × Int32 × Int32 × Int32 × Ob → Option (Int64 × Ob)) (rec_85_3 : Int32 × Int32 × Int32 × Int32 × Int32 × Ob → Option (Int64 × Ob)) (v1 : Int32) (v2 : Int32) (v3 : Int32) (v4 : Int32) (v5 : Int32) (o_me : Ob) : Option (Int64 × Ob) :=
  if v5 < (0 : Int32) then
  (zlt (v4 + (1 : Int32)) fun x9 =>
  rec_74_1 (v1, v2, v3, x9, o_me))
  else
  (zgd (zin v5 21) <|
  zlt (gM o_me 53 v5.toNatClampNeg) fun x11 =>
  zgd (zin v5 21) <|
  zlt (tM o_me 53 v5.toNatClampNeg ((x11 * (((10 : Int32) - v3).toInt64)) / (10 : Int64))) fun o13 =>
  zlt (v5 + (1 : Int32)) fun x14 =>
  zgd (zin x14 21) <|
  zgd (zin x14 21) <|
  zlt (tM o13 53 x14.toNatClampNeg ((gM o13 53 x14.toNatClampNeg) + ((x11 * v3.toInt64) / (10 : Int64)))) fun o17 =>
  zlt (v5 + (-1 : Int32)) fun x18 =>
  rec_85_3 (v1, v2, v3, v4, x18, o17))
def lp_X9_few_85  (rec_74_1 : Int32 × Int32 × Int32 × Int32 × Ob → Option (Int64 × Ob)) : Nat → (Int32 × Int32 × Int32 × Int32 × Int32 × Ob) → Option (Int64 × Ob) := zit (fun rec a => lb_X9_few_85  rec_74_1 rec a.1 a.2.1 a.2.2.1 a.2.2.2.1 a.2.2.2.2.1 a.2.2.2.2.2)
def lb_X9_few_74   (rec_74_1 : Int32 × Int32 × Int32 × Int32 × Ob → Option (Int64 × Ob)) (v1 : Int32) (v2 : Int32) (v3 : Int32) (v4 : Int32) (o_me : Ob) : Option (Int64 × Ob) :=
  if v2 ≤ v4 then
  (lp_X9_few_157   zfu (v1, (0 : Int64), (0 : Int32), o_me))
  else
  (zlt (v1 - (1 : Int32)) fun x8 =>
  lp_X9_few_85  rec_74_1 zfu (v1, v2, v3, v4, x8, o_me))
def lp_X9_few_74   : Nat → (Int32 × Int32 × Int32 × Int32 × Ob) → Option (Int64 × Ob) := zit (fun rec a => lb_X9_few_74   rec a.1 a.2.1 a.2.2.1 a.2.2.2.1 a.2.2.2.2)
def bk_X9_few_57  (rec_35_0 : Int32 × Int32 × Int32 × Ob → Option (Int64 × Ob)) (v1 : Int32) (v2 : Int32) (v3 : Int32) (s0 : Int64) (s1 : Int32) (o_me : Ob) : Option (Int64 × Ob) :=
  zgd (zin s1 21) <|
  zlt (tM o_me 53 s1.toNatClampNeg s0) fun o20 =>
  zlt (v3 + (1 : Int32)) fun x21 =>
  rec_35_0 (v1, v2, x21, o20)
def lb_X9_few_35   (rec_35_0 : Int32 × Int32 × Int32 × Ob → Option (Int64 × Ob)) (v1 : Int32) (v2 : Int32) (v3 : Int32) (o_me : Ob) : Option (Int64 × Ob) :=
  if (21 : Int32) ≤ v3 then
  (zlt (gA o_me 3 (5 : Int32).toNatClampNeg) fun x4 =>
  lp_X9_few_74   zfu (v1, v2, x4, (0 : Int32), o_me))
  else
  (if v3 = (0 : Int32) then
  (bk_X9_few_57  rec_35_0 v1 v2 v3 (1000000000000 : Int64) v3 o_me)
  else
  (bk_X9_few_57  rec_35_0 v1 v2 v3 (0 : Int64) v3 o_me))
def lp_X9_few_35   : Nat → (Int32 × Int32 × Int32 × Ob) → Option (Int64 × Ob) := zit (fun rec a => lb_X9_few_35   rec a.1 a.2.1 a.2.2.1 a.2.2.2)
def f_X9_few (o_me : Ob) (p0 : Int32) (p1 : Int32) : Option (Int64 × Ob) :=
  zlt (sI o_me 0 (0 : Int32)) fun o1 =>
  (f_X9_in p0.toInt64 (1 : Int64) (20 : Int64)).bind fun z2 =>
  if z2 = (0 : Int32) then
  (some ((-1 : Int64), o1))
  else
  ((f_X9_in p1.toInt64 (0 : Int64) (99 : Int64)).bind fun z3 =>
  if z3 = (0 : Int32) then
  (some ((-1 : Int64), o1))
  else
  (lp_X9_few_35   zfu (p0, p1, (0 : Int32), o1)))
set_option maxHeartbeats 4000000 in
set_option maxRecDepth 100000 in
theorem m_X9_few (l : Launch) (dC : Nat → ClassId) (dI : Nat → Nat → Nat) (sz : Nat) (h_me : Nat) (q_me : Nat → Nat) (k_me : Nat → ClassId) (o_me : Ob) (p0 : Int32) (p1 : Int32) (y : Int64 × Ob) (h : f_X9_few o_me p0 p1 = some y) : CL l yX9_few cX9_few 8 (some .long) ({ frames := 1, cells := 0, slots := 0, locals := 25 } : Room) dC dI sz [.ref h_me, .int p0, .int p1] [wX9 h_me q_me k_me o_me] [tX9 k_me] y.1 [wX9 h_me q_me k_me y.2] := by
  refine CC_of (by decide) (Nat.le_of_ble_eq_true rfl) ?_
  intro p e s m below meth c A ls hx hb hml hr hlk hnm hown hts hX hK hP hD hA hl
  have hl : lv_has ls 8 [(0, .ref h_me), (1, .int p0), (2, .int p1)] := hl
  have hown : s.vm.findClass RX9 = some m.cls := hown
  have hw : Wd dC dI A s.heap [wX9 h_me q_me k_me o_me] s.heap [] := ⟨hP, hD, va_S.rf⟩
  generalize hQz : (MQ below (QL dC dI (fun r (_ : Unit) => r = y.1) (fun _ => Jn [wX9 h_me q_me k_me y.2]) (fun _ => Jt [tX9 k_me]) A) ([.ref h_me, .int p0, .int p1] : List Value).toArray s 0 0 A) = Qz
  clear hP hD hnm
  have lp_157_2 : ∀ (N : Nat), ∀ (v1 : Int32) (v4 : Int64) (v6 : Int32) (o_me : Ob) (H : Heap) (locs : List Loc) (ls : Array Slot), lp_X9_few_157   N (v1, v4, v6, o_me) = some y → Wd dC dI A s.heap [wX9 h_me q_me k_me o_me] H locs → lv_has ls 8 [(0, .ref h_me), (1, .int v1), (4, .long v4), (6, .int v6)] → W p l e ({ frames := 1, cells := 0, slots := 0, locals := 25 } : Room) s m ([.ref h_me, .int p0, .int p1] : List Value).toArray below meth c H locs 0 0 Qz (F0 m 157 ls []) := by
    intro N
    induction N with
    | zero =>
      intro v1 v4 v6 o_me H locs ls h hw hl
      exact absurd (show (none : Option (Int64 × Ob)) = some y from h) (by simp)
    | succ N ih =>
      intro v1 v4 v6 o_me H locs ls h hw hl
      have h : lb_X9_few_157   (lp_X9_few_157   N) v1 v4 v6 o_me = some y := h
      unfold lb_X9_few_157 at h
      refine lv_iload hx hb dX9_few_157 (lv_at hl 3 rfl) ?_
      refine lv_iload_n hx hb dX9_few_159 rfl (lv_at hl 1 rfl) ?_
      refine lv_icmp_ge (tgt := 181) hx hb dX9_few_160 (by decide) (fun c => ?_) (fun c => ?_)
      · have h := z_t h c
        refine lv_lload hx hb dX9_few_181 (lv_at hl 2 rfl) ?_
        have hy := Option.some.inj h
        rw [← hQz, ← hy]
        exact xr_l (v := v4) hx hb hr hlk hK hw dX9_few_183
      · have h := z_f h c
        refine lv_lload hx hb dX9_few_163 (lv_at hl 2 rfl) ?_
        refine lv_aload_n hx hb dX9_few_165 rfl (lv_at hl 0 rfl) ?_
        refine fgX9_53 hx hb hts hown hK hw 0 rfl kw1229 dX9_few_166 ?_
        refine lv_iload hx hb dX9_few_169 (lv_at hl 3 rfl) ?_
        obtain ⟨g5, h⟩ := z_gd h
        refine faX9_53 hx hb hK hw 0 rfl rfl g5 dX9_few_171 ?_
        refine lv_ladd hx hb dX9_few_172 ?_
        obtain ⟨x6, ex6, h⟩ := z_lt h
        refine lv_fl (v := x6) ex6.symm ?_
        refine lv_lstore (lv' := [(4, .long x6), (0, .ref h_me), (1, .int v1), (6, .int v6)]) hx hb dX9_few_173 hl (by decide) rfl (fun ls hl => ?_)
        obtain ⟨x7, ex7, h⟩ := z_lt h
        refine lv_iinc (v := x7) (lv' := [(6, .int x7), (4, .long x6), (0, .ref h_me), (1, .int v1)]) hx hb dX9_few_175 hl (k := 3) rfl ((congrArg (v6 + ·) (show Int32.ofInt 1 = (1 : Int32) from by decide)).trans ex7.symm) (by decide) rfl (fun ls hl => ?_)
        refine lv_goto (tgt := 157) hx hb dX9_few_178 (by decide) ?_
        exact ih v1 x6 x7 o_me _ _ _ h hw (lv_sub hl [2, 3, 1, 0] rfl)
  have lp_85_3 : ∀ (rec_74_1 : Int32 × Int32 × Int32 × Int32 × Ob → Option (Int64 × Ob)) (hrec_74_1 : ∀ (v1 : Int32) (v2 : Int32) (v3 : Int32) (v4 : Int32) (o_me : Ob) (H : Heap) (locs : List Loc) (ls : Array Slot), rec_74_1 (v1, v2, v3, v4, o_me) = some y → Wd dC dI A s.heap [wX9 h_me q_me k_me o_me] H locs → lv_has ls 8 [(0, .ref h_me), (1, .int v1), (2, .int v2), (3, .int v3), (4, .int v4)] → W p l e ({ frames := 1, cells := 0, slots := 0, locals := 25 } : Room) s m ([.ref h_me, .int p0, .int p1] : List Value).toArray below meth c H locs 0 0 Qz (F0 m 74 ls [])) (N : Nat), ∀ (v1 : Int32) (v2 : Int32) (v3 : Int32) (v4 : Int32) (v5 : Int32) (o_me : Ob) (H : Heap) (locs : List Loc) (ls : Array Slot), lp_X9_few_85  rec_74_1 N (v1, v2, v3, v4, v5, o_me) = some y → Wd dC dI A s.heap [wX9 h_me q_me k_me o_me] H locs → lv_has ls 8 [(0, .ref h_me), (1, .int v1), (2, .int v2), (3, .int v3), (4, .int v4), (5, .int v5)] → W p l e ({ frames := 1, cells := 0, slots := 0, locals := 25 } : Room) s m ([.ref h_me, .int p0, .int p1] : List Value).toArray below meth c H locs 0 0 Qz (F0 m 85 ls []) := by
    intro rec_74_1 hrec_74_1
    intro N
    induction N with
    | zero =>
      intro v1 v2 v3 v4 v5 o_me H locs ls h hw hl
      exact absurd (show (none : Option (Int64 × Ob)) = some y from h) (by simp)
    | succ N ih =>
      intro v1 v2 v3 v4 v5 o_me H locs ls h hw hl
      have h : lb_X9_few_85  rec_74_1 (lp_X9_few_85  rec_74_1 N) v1 v2 v3 v4 v5 o_me = some y := h
      unfold lb_X9_few_85 at h
      refine lv_iload hx hb dX9_few_85 (lv_at hl 5 rfl) ?_
      refine lv_if_lt (tgt := 145) hx hb dX9_few_87 (by decide) (fun c => ?_) (fun c => ?_)
      · have h := z_t h c
        obtain ⟨x9, ex9, h⟩ := z_lt h
        refine lv_iinc (v := x9) (lv' := [(4, .int x9), (0, .ref h_me), (1, .int v1), (2, .int v2), (3, .int v3), (5, .int v5)]) hx hb dX9_few_145 hl (k := 4) rfl ((congrArg (v4 + ·) (show Int32.ofInt 1 = (1 : Int32) from by decide)).trans ex9.symm) (by decide) rfl (fun ls hl => ?_)
        refine lv_goto (tgt := 74) hx hb dX9_few_148 (by decide) ?_
        exact hrec_74_1 v1 v2 v3 x9 o_me _ _ _ h hw (lv_sub hl [1, 2, 3, 4, 0] rfl)
      · have h := z_f h c
        refine lv_aload_n hx hb dX9_few_90 rfl (lv_at hl 0 rfl) ?_
        refine fgX9_53 hx hb hts hown hK hw 0 rfl kw1229 dX9_few_91 ?_
        refine lv_iload hx hb dX9_few_94 (lv_at hl 5 rfl) ?_
        obtain ⟨g10, h⟩ := z_gd h
        refine faX9_53 hx hb hK hw 0 rfl rfl g10 dX9_few_96 ?_
        obtain ⟨x11, ex11, h⟩ := z_lt h
        refine lv_fl (v := x11) ex11.symm ?_
        refine lv_lstore (lv' := [(6, .long x11), (0, .ref h_me), (1, .int v1), (2, .int v2), (3, .int v3), (4, .int v4), (5, .int v5)]) hx hb dX9_few_97 hl (by decide) rfl (fun ls hl => ?_)
        refine lv_aload_n hx hb dX9_few_99 rfl (lv_at hl 1 rfl) ?_
        refine fgX9_53 hx hb hts hown hK hw 0 rfl kw1229 dX9_few_100 ?_
        refine lv_iload hx hb dX9_few_103 (lv_at hl 6 rfl) ?_
        refine lv_lload hx hb dX9_few_105 (lv_at hl 0 rfl) ?_
        refine lv_bipush (v := 10) hx hb dX9_few_107 (by decide) ?_
        refine lv_iload_n hx hb dX9_few_109 rfl (lv_at hl 4 rfl) ?_
        refine lv_isub hx hb dX9_few_110 ?_
        refine lv_i2l hx hb dX9_few_111 rfl ?_
        refine lv_lmul hx hb dX9_few_112 ?_
        refine lv_ldc2 (v := 10) hx hb hown (hts _ kw1468) dX9_few_113 ?_
        refine lv_ldiv hx hb dX9_few_116 (by decide) ?_
        obtain ⟨g12, h⟩ := z_gd h
        refine fbX9_53 hx hb hK hw 0 rfl rfl g12 dX9_few_117 (fun H locs hw => ?_)
        obtain ⟨o13, eo13, h⟩ := z_lt h
        have hw : Wd dC dI A s.heap [wX9 h_me q_me k_me o13] H locs := by rw [eo13]; exact hw
        refine lv_aload_n hx hb dX9_few_118 rfl (lv_at hl 1 rfl) ?_
        refine fgX9_53 hx hb hts hown hK hw 0 rfl kw1229 dX9_few_119 ?_
        refine lv_iload hx hb dX9_few_122 (lv_at hl 6 rfl) ?_
        refine lv_iconst (v := 1) hx hb dX9_few_124 (by decide) ?_
        refine lv_iadd hx hb dX9_few_125 ?_
        obtain ⟨x14, ex14, h⟩ := z_lt h
        refine lv_fi (v := x14) ex14.symm ?_
        refine lv_dup2_11 hx hb dX9_few_126 rfl rfl ?_
        obtain ⟨g15, h⟩ := z_gd h
        refine faX9_53 hx hb hK hw 0 rfl rfl g15 dX9_few_127 ?_
        refine lv_lload hx hb dX9_few_128 (lv_at hl 0 rfl) ?_
        refine lv_iload_n hx hb dX9_few_130 rfl (lv_at hl 4 rfl) ?_
        refine lv_i2l hx hb dX9_few_131 rfl ?_
        refine lv_lmul hx hb dX9_few_132 ?_
        refine lv_ldc2 (v := 10) hx hb hown (hts _ kw1468) dX9_few_133 ?_
        refine lv_ldiv hx hb dX9_few_136 (by decide) ?_
        refine lv_ladd hx hb dX9_few_137 ?_
        obtain ⟨g16, h⟩ := z_gd h
        refine fbX9_53 hx hb hK hw 0 rfl rfl g16 dX9_few_138 (fun H locs hw => ?_)
        obtain ⟨o17, eo17, h⟩ := z_lt h
        have hw : Wd dC dI A s.heap [wX9 h_me q_me k_me o17] H locs := by rw [eo17]; exact hw
        obtain ⟨x18, ex18, h⟩ := z_lt h
        refine lv_iinc (v := x18) (lv' := [(5, .int x18), (6, .long x11), (0, .ref h_me), (1, .int v1), (2, .int v2), (3, .int v3), (4, .int v4)]) hx hb dX9_few_139 hl (k := 6) rfl ((congrArg (v5 + ·) (show Int32.ofInt (-1) = (-1 : Int32) from by decide)).trans ex18.symm) (by decide) rfl (fun ls hl => ?_)
        refine lv_goto (tgt := 85) hx hb dX9_few_142 (by decide) ?_
        exact ih v1 v2 v3 v4 x18 o17 _ _ _ h hw (lv_sub hl [2, 3, 4, 5, 6, 0] rfl)
  have lp_74_1 : ∀ (N : Nat), ∀ (v1 : Int32) (v2 : Int32) (v3 : Int32) (v4 : Int32) (o_me : Ob) (H : Heap) (locs : List Loc) (ls : Array Slot), lp_X9_few_74   N (v1, v2, v3, v4, o_me) = some y → Wd dC dI A s.heap [wX9 h_me q_me k_me o_me] H locs → lv_has ls 8 [(0, .ref h_me), (1, .int v1), (2, .int v2), (3, .int v3), (4, .int v4)] → W p l e ({ frames := 1, cells := 0, slots := 0, locals := 25 } : Room) s m ([.ref h_me, .int p0, .int p1] : List Value).toArray below meth c H locs 0 0 Qz (F0 m 74 ls []) := by
    intro N
    induction N with
    | zero =>
      intro v1 v2 v3 v4 o_me H locs ls h hw hl
      exact absurd (show (none : Option (Int64 × Ob)) = some y from h) (by simp)
    | succ N ih =>
      intro v1 v2 v3 v4 o_me H locs ls h hw hl
      have h : lb_X9_few_74   (lp_X9_few_74   N) v1 v2 v3 v4 o_me = some y := h
      unfold lb_X9_few_74 at h
      refine lv_iload hx hb dX9_few_74 (lv_at hl 4 rfl) ?_
      refine lv_iload_n hx hb dX9_few_76 rfl (lv_at hl 2 rfl) ?_
      refine lv_icmp_ge (tgt := 151) hx hb dX9_few_77 (by decide) (fun c => ?_) (fun c => ?_)
      · have h := z_t h c
        refine lv_lconst (v := 0) hx hb dX9_few_151 (by decide) ?_
        refine lv_lstore (lv' := [(4, .long (0 : Int64)), (0, .ref h_me), (1, .int v1), (2, .int v2), (3, .int v3)]) hx hb dX9_few_152 hl (by decide) rfl (fun ls hl => ?_)
        refine lv_iconst (v := 0) hx hb dX9_few_154 (by decide) ?_
        refine lv_istore (lv' := [(6, .int (0 : Int32)), (4, .long (0 : Int64)), (0, .ref h_me), (1, .int v1), (2, .int v2), (3, .int v3)]) hx hb dX9_few_155 hl (by decide) rfl (fun ls hl => ?_)
        exact lp_157_2  zfu v1 (0 : Int64) (0 : Int32) o_me _ _ _ h hw (lv_sub hl [2, 3, 1, 0] rfl)
      · have h := z_f h c
        refine lv_iload_n hx hb dX9_few_80 rfl (lv_at hl 1 rfl) ?_
        refine lv_iconst (v := 1) hx hb dX9_few_81 (by decide) ?_
        refine lv_isub hx hb dX9_few_82 ?_
        obtain ⟨x8, ex8, h⟩ := z_lt h
        refine lv_fi (v := x8) ex8.symm ?_
        refine lv_istore (lv' := [(5, .int x8), (0, .ref h_me), (1, .int v1), (2, .int v2), (3, .int v3), (4, .int v4)]) hx hb dX9_few_83 hl (by decide) rfl (fun ls hl => ?_)
        exact lp_85_3 (lp_X9_few_74   N) ih zfu v1 v2 v3 v4 x8 o_me _ _ _ h hw (lv_sub hl [1, 2, 3, 4, 5, 0] rfl)
  have bk_57_4 : ∀ (rec_35_0 : Int32 × Int32 × Int32 × Ob → Option (Int64 × Ob)) (hrec_35_0 : ∀ (v1 : Int32) (v2 : Int32) (v3 : Int32) (o_me : Ob) (H : Heap) (locs : List Loc) (ls : Array Slot), rec_35_0 (v1, v2, v3, o_me) = some y → Wd dC dI A s.heap [wX9 h_me q_me k_me o_me] H locs → lv_has ls 8 [(0, .ref h_me), (1, .int v1), (2, .int v2), (3, .int v3)] → W p l e ({ frames := 1, cells := 0, slots := 0, locals := 25 } : Room) s m ([.ref h_me, .int p0, .int p1] : List Value).toArray below meth c H locs 0 0 Qz (F0 m 35 ls [])), ∀ (v1 : Int32) (v2 : Int32) (v3 : Int32) (s0 : Int64) (s1 : Int32) (o_me : Ob) (H : Heap) (locs : List Loc) (ls : Array Slot), bk_X9_few_57  rec_35_0 v1 v2 v3 s0 s1 o_me = some y → Wd dC dI A s.heap [wX9 h_me q_me k_me o_me] H locs → lv_has ls 8 [(0, .ref h_me), (1, .int v1), (2, .int v2), (3, .int v3)] → W p l e ({ frames := 1, cells := 0, slots := 0, locals := 25 } : Room) s m ([.ref h_me, .int p0, .int p1] : List Value).toArray below meth c H locs 0 0 Qz (F0 m 57 ls [.long s0, .int s1, .ref (q_me 53)]) := by
    intro rec_35_0 hrec_35_0
    intro v1 v2 v3 s0 s1 o_me H locs ls h hw hl
    unfold bk_X9_few_57 at h
    obtain ⟨g19, h⟩ := z_gd h
    refine fbX9_53 hx hb hK hw 0 rfl rfl g19 dX9_few_57 (fun H locs hw => ?_)
    obtain ⟨o20, eo20, h⟩ := z_lt h
    have hw : Wd dC dI A s.heap [wX9 h_me q_me k_me o20] H locs := by rw [eo20]; exact hw
    obtain ⟨x21, ex21, h⟩ := z_lt h
    refine lv_iinc (v := x21) (lv' := [(3, .int x21), (0, .ref h_me), (1, .int v1), (2, .int v2)]) hx hb dX9_few_58 hl (k := 3) rfl ((congrArg (v3 + ·) (show Int32.ofInt 1 = (1 : Int32) from by decide)).trans ex21.symm) (by decide) rfl (fun ls hl => ?_)
    refine lv_goto (tgt := 35) hx hb dX9_few_61 (by decide) ?_
    exact hrec_35_0 v1 v2 x21 o20 _ _ _ h hw (lv_sub hl [1, 2, 3, 0] rfl)
  have lp_35_0 : ∀ (N : Nat), ∀ (v1 : Int32) (v2 : Int32) (v3 : Int32) (o_me : Ob) (H : Heap) (locs : List Loc) (ls : Array Slot), lp_X9_few_35   N (v1, v2, v3, o_me) = some y → Wd dC dI A s.heap [wX9 h_me q_me k_me o_me] H locs → lv_has ls 8 [(0, .ref h_me), (1, .int v1), (2, .int v2), (3, .int v3)] → W p l e ({ frames := 1, cells := 0, slots := 0, locals := 25 } : Room) s m ([.ref h_me, .int p0, .int p1] : List Value).toArray below meth c H locs 0 0 Qz (F0 m 35 ls []) := by
    intro N
    induction N with
    | zero =>
      intro v1 v2 v3 o_me H locs ls h hw hl
      exact absurd (show (none : Option (Int64 × Ob)) = some y from h) (by simp)
    | succ N ih =>
      intro v1 v2 v3 o_me H locs ls h hw hl
      have h : lb_X9_few_35   (lp_X9_few_35   N) v1 v2 v3 o_me = some y := h
      unfold lb_X9_few_35 at h
      refine lv_iload_n hx hb dX9_few_35 rfl (lv_at hl 3 rfl) ?_
      refine lv_bipush (v := 21) hx hb dX9_few_36 (by decide) ?_
      refine lv_icmp_ge (tgt := 64) hx hb dX9_few_38 (by decide) (fun c => ?_) (fun c => ?_)
      · have h := z_t h c
        refine lv_aload_n hx hb dX9_few_64 rfl (lv_at hl 0 rfl) ?_
        refine fgX9_3 hx hb hts hown hK hw 0 rfl kw1179 dX9_few_65 ?_
        refine lv_iconst (v := 5) hx hb dX9_few_68 (by decide) ?_
        refine faX9_3 hx hb hK hw 0 rfl rfl (by decide) dX9_few_69 ?_
        obtain ⟨x4, ex4, h⟩ := z_lt h
        refine lv_fi (v := x4) ex4.symm ?_
        refine lv_istore_n (lv' := [(3, .int x4), (0, .ref h_me), (1, .int v1), (2, .int v2)]) hx hb dX9_few_70 rfl hl (by decide) rfl (fun ls hl => ?_)
        refine lv_iconst (v := 0) hx hb dX9_few_71 (by decide) ?_
        refine lv_istore (lv' := [(4, .int (0 : Int32)), (3, .int x4), (0, .ref h_me), (1, .int v1), (2, .int v2)]) hx hb dX9_few_72 hl (by decide) rfl (fun ls hl => ?_)
        exact lp_74_1  zfu v1 v2 x4 (0 : Int32) o_me _ _ _ h hw (lv_sub hl [2, 3, 4, 1, 0] rfl)
      · have h := z_f h c
        refine lv_aload_n hx hb dX9_few_41 rfl (lv_at hl 0 rfl) ?_
        refine fgX9_53 hx hb hts hown hK hw 0 rfl kw1229 dX9_few_42 ?_
        refine lv_iload_n hx hb dX9_few_45 rfl (lv_at hl 3 rfl) ?_
        refine lv_iload_n hx hb dX9_few_46 rfl (lv_at hl 3 rfl) ?_
        refine lv_if_ne (tgt := 56) hx hb dX9_few_47 (by decide) (fun c => ?_) (fun c => ?_)
        · have h := z_f h c
          refine lv_lconst (v := 0) hx hb dX9_few_56 (by decide) ?_
          exact bk_57_4 (lp_X9_few_35   N) ih v1 v2 v3 (0 : Int64) v3 o_me _ _ _ h hw (lv_sub hl [0, 1, 2, 3] rfl)
        · have h := z_t h c
          refine lv_ldc2 (v := 1000000000000) hx hb hown (hts _ kw1791) dX9_few_50 ?_
          refine lv_goto (tgt := 57) hx hb dX9_few_53 (by decide) ?_
          exact bk_57_4 (lp_X9_few_35   N) ih v1 v2 v3 (1000000000000 : Int64) v3 o_me _ _ _ h hw (lv_sub hl [0, 1, 2, 3] rfl)
  unfold f_X9_few at h
  refine lv_aload_n hx hb dX9_few_0 rfl (lv_at hl 0 rfl) ?_
  refine lv_iconst (v := 0) hx hb dX9_few_1 (by decide) ?_
  refine fpX9_0 hx hb hts hown hK hw 0 rfl kw1176 dX9_few_2 (fun H locs hw => ?_)
  obtain ⟨o1, eo1, h⟩ := z_lt h
  have hw : Wd dC dI A s.heap [wX9 h_me q_me k_me o1] H locs := by rw [eo1]; exact hw
  refine lv_iload_n hx hb dX9_few_5 rfl (lv_at hl 1 rfl) ?_
  refine lv_i2l hx hb dX9_few_6 rfl ?_
  refine lv_lconst (v := 1) hx hb dX9_few_7 (by decide) ?_
  refine lv_ldc2 (v := 20) hx hb hown (hts _ kw1601) dX9_few_8 ?_
  obtain ⟨z2, ez2, h⟩ := z_bd h
  refine xj_i (xrS (As := [.long p0.toInt64, .long (1 : Int64), .long (20 : Int64)]) (rest := []) ⟨hx, hb, hml, hown, hts⟩ (m_X9_in l dC dI _  p0.toInt64 (1 : Int64) (20 : Int64) z2 ez2) kw1385 kw1383 kw1384 kw120 hd_X9_in ⟨rfl, rfl⟩ rfl rfl ⟨rfl, rfl⟩ hX hK hw [] (by decide) rfl rfl hl.1 rfl rfl dX9_few_11) hw hA [] (by decide) rfl rfl (fun H locs hw => ?_)
  refine lv_if_eq (tgt := 29) hx hb dX9_few_14 (by decide) (fun c => ?_) (fun c => ?_)
  · have h := z_t h c
    refine lv_ldc2 (v := (-1)) hx hb hown (hts _ kw1424) dX9_few_29 ?_
    have hy := Option.some.inj h
    rw [← hQz, ← hy]
    exact xr_l (v := (-1 : Int64)) hx hb hr hlk hK hw dX9_few_32
  · have h := z_f h c
    refine lv_iload_n hx hb dX9_few_17 rfl (lv_at hl 2 rfl) ?_
    refine lv_i2l hx hb dX9_few_18 rfl ?_
    refine lv_lconst (v := 0) hx hb dX9_few_19 (by decide) ?_
    refine lv_ldc2 (v := 99) hx hb hown (hts _ kw1790) dX9_few_20 ?_
    obtain ⟨z3, ez3, h⟩ := z_bd h
    refine xj_i (xrS (As := [.long p1.toInt64, .long (0 : Int64), .long (99 : Int64)]) (rest := []) ⟨hx, hb, hml, hown, hts⟩ (m_X9_in l dC dI _  p1.toInt64 (0 : Int64) (99 : Int64) z3 ez3) kw1385 kw1383 kw1384 kw120 hd_X9_in ⟨rfl, rfl⟩ rfl rfl ⟨rfl, rfl⟩ hX hK hw [] (by decide) rfl rfl hl.1 rfl rfl dX9_few_23) hw hA [] (by decide) rfl rfl (fun H locs hw => ?_)
    refine lv_if_ne (tgt := 33) hx hb dX9_few_26 (by decide) (fun c => ?_) (fun c => ?_)
    · have h := z_f h c
      refine lv_iconst (v := 0) hx hb dX9_few_33 (by decide) ?_
      refine lv_istore_n (lv' := [(3, .int (0 : Int32)), (0, .ref h_me), (1, .int p0), (2, .int p1)]) hx hb dX9_few_34 rfl hl (by decide) rfl (fun ls hl => ?_)
      exact lp_35_0  zfu p0 p1 (0 : Int32) o1 _ _ _ h hw (lv_sub hl [1, 2, 3, 0] rfl)
    · have h := z_t h c
      refine lv_ldc2 (v := (-1)) hx hb hown (hts _ kw1424) dX9_few_29 ?_
      have hy := Option.some.inj h
      rw [← hQz, ← hy]
      exact xr_l (v := (-1 : Int64)) hx hb hr hlk hK hw dX9_few_32

def f_X9_force (o_me : Ob) (p0 : Int32) : Option (Int32 × Ob) :=
  zlt (sI o_me 0 (0 : Int32)) fun o1 =>
  (f_X9_isLaw o1 p0).bind fun z2 =>
  if z2 = (0 : Int32) then
  ((f_X9_tell o1 (-2 : Int32)).bind fun z3 =>
  some (z3.1, z3.2))
  else
  ((f_X9_change o1 (3 : Int32) p0).bind fun z4 =>
  some (z4.1, z4.2))
set_option maxHeartbeats 4000000 in
set_option maxRecDepth 100000 in
theorem m_X9_force (l : Launch) (dC : Nat → ClassId) (dI : Nat → Nat → Nat) (sz : Nat) (h_me : Nat) (q_me : Nat → Nat) (k_me : Nat → ClassId) (o_me : Ob) (p0 : Int32) (y : Int32 × Ob) (h : f_X9_force o_me p0 = some y) : CI l yX9_force cX9_force 2 (some .int) ({ frames := 2, cells := 0, slots := 0, locals := 46 } : Room) dC dI sz [.ref h_me, .int p0] [wX9 h_me q_me k_me o_me] [tX9 k_me] y.1 [wX9 h_me q_me k_me y.2] := by
  refine CC_of (by decide) (Nat.le_of_ble_eq_true rfl) ?_
  intro p e s m below meth c A ls hx hb hml hr hlk hnm hown hts hX hK hP hD hA hl
  have hl : lv_has ls 2 [(0, .ref h_me), (1, .int p0)] := hl
  have hown : s.vm.findClass RX9 = some m.cls := hown
  have hw : Wd dC dI A s.heap [wX9 h_me q_me k_me o_me] s.heap [] := ⟨hP, hD, va_S.rf⟩
  generalize hQz : (MQ below (QI dC dI (fun r (_ : Unit) => r = y.1) (fun _ => Jn [wX9 h_me q_me k_me y.2]) (fun _ => Jt [tX9 k_me]) A) ([.ref h_me, .int p0] : List Value).toArray s 0 0 A) = Qz
  clear hP hD hnm
  unfold f_X9_force at h
  refine lv_aload_n hx hb dX9_force_0 rfl (lv_at hl 0 rfl) ?_
  refine lv_iconst (v := 0) hx hb dX9_force_1 (by decide) ?_
  refine fpX9_0 hx hb hts hown hK hw 0 rfl kw1176 dX9_force_2 (fun H locs hw => ?_)
  obtain ⟨o1, eo1, h⟩ := z_lt h
  have hw : Wd dC dI A s.heap [wX9 h_me q_me k_me o1] H locs := by rw [eo1]; exact hw
  refine lv_aload_n hx hb dX9_force_5 rfl (lv_at hl 0 rfl) ?_
  refine lv_iload_n hx hb dX9_force_6 rfl (lv_at hl 1 rfl) ?_
  obtain ⟨z2, ez2, h⟩ := z_bd h
  refine xj_i (xrV (As := [.int p0]) (rest := []) ⟨hx, hb, hml, hown, hts⟩ (m_X9_isLaw l dC dI _ h_me q_me k_me o1 p0 z2 ez2) kw1623 kw1620 kw1622 kw76 kw120 hd_X9_isLaw ⟨rfl, rfl⟩ rfl rfl ⟨rfl, rfl⟩ hX hK hw [0] (by decide) rfl rfl rfl rfl rfl hl.1 rfl rfl dX9_force_7) hw hA [0] (by decide) rfl rfl (fun H locs hw => ?_)
  have hw : Wd dC dI A s.heap [wX9 h_me q_me k_me o1] H locs := hw
  refine lv_if_eq (tgt := 22) hx hb dX9_force_10 (by decide) (fun c => ?_) (fun c => ?_)
  · have h := z_t h c
    refine lv_aload_n hx hb dX9_force_22 rfl (lv_at hl 0 rfl) ?_
    refine lv_bipush (v := (-2)) hx hb dX9_force_23 (by decide) ?_
    obtain ⟨z3, ez3, h⟩ := z_bd h
    refine xj_i (xrV (As := [.int (-2 : Int32)]) (rest := []) ⟨hx, hb, hml, hown, hts⟩ (m_X9_tell l dC dI _ h_me q_me k_me o1 (-2 : Int32) z3 ez3) kw1374 kw1371 kw1373 kw39 kw120 hd_X9_tell ⟨rfl, rfl⟩ rfl rfl ⟨rfl, rfl⟩ hX hK hw [0] (by decide) rfl rfl rfl rfl rfl hl.1 rfl rfl dX9_force_25) hw hA [0] (by decide) rfl rfl (fun H locs hw => ?_)
    have hw : Wd dC dI A s.heap [wX9 h_me q_me k_me z3.2] H locs := hw
    have hy := Option.some.inj h
    rw [← hQz, ← hy]
    exact xr_i (v := z3.1) hx hb hr rfl hlk hK hw dX9_force_28
  · have h := z_f h c
    refine lv_aload_n hx hb dX9_force_13 rfl (lv_at hl 0 rfl) ?_
    refine lv_iconst (v := 3) hx hb dX9_force_14 (by decide) ?_
    refine lv_iload_n hx hb dX9_force_15 rfl (lv_at hl 1 rfl) ?_
    obtain ⟨z4, ez4, h⟩ := z_bd h
    refine xj_i (xrV (As := [.int (3 : Int32), .int p0]) (rest := []) ⟨hx, hb, hml, hown, hts⟩ (m_X9_change l dC dI _ h_me q_me k_me o1 (3 : Int32) p0 z4 ez4) kw1449 kw1446 kw1448 kw49 kw120 hd_X9_change ⟨rfl, rfl⟩ rfl rfl ⟨rfl, rfl⟩ hX hK hw [0] (by decide) rfl rfl rfl rfl rfl hl.1 rfl rfl dX9_force_16) hw hA [0] (by decide) rfl rfl (fun H locs hw => ?_)
    have hw : Wd dC dI A s.heap [wX9 h_me q_me k_me z4.2] H locs := hw
    refine lv_goto (tgt := 28) hx hb dX9_force_19 (by decide) ?_
    have hy := Option.some.inj h
    rw [← hQz, ← hy]
    exact xr_i (v := z4.1) hx hb hr rfl hlk hK hw dX9_force_28

