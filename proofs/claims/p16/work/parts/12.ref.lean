def lb_X9_enteredBits_4 (o_me : Ob)  (rec_4_0 : Int32 × Int32 → Option (Int32)) (v1 : Int32) (v2 : Int32) : Option (Int32) :=
  if (gA o_me 3 (0 : Int32).toNatClampNeg) ≤ v2 then
  (some v1)
  else
  (zgd (zin ((22 : Int32) + v2) 5484) <|
  zlt (v1 ||| ((gA o_me 3 ((22 : Int32) + v2).toNatClampNeg) <<< (v2 &&& 31))) fun x2 =>
  zlt (v2 + (1 : Int32)) fun x3 =>
  rec_4_0 (x2, x3))
def lp_X9_enteredBits_4 (o_me : Ob)  : Nat → (Int32 × Int32) → Option (Int32) := zit (fun rec a => lb_X9_enteredBits_4 o_me  rec a.1 a.2)
def f_X9_enteredBits (o_me : Ob) : Option (Int32) :=
  lp_X9_enteredBits_4 o_me  zfu ((0 : Int32), (0 : Int32))
set_option maxHeartbeats 4000000 in
set_option maxRecDepth 100000 in
theorem m_X9_enteredBits (l : Launch) (dC : Nat → ClassId) (dI : Nat → Nat → Nat) (sz : Nat) (h_me : Nat) (q_me : Nat → Nat) (k_me : Nat → ClassId) (o_me : Ob) (y : Int32) (h : f_X9_enteredBits o_me = some y) : CI l yX9_enteredBits cX9_enteredBits 3 (some .int) ({ frames := 0, cells := 0, slots := 0, locals := 0 } : Room) dC dI sz [.ref h_me] [wX9 h_me q_me k_me o_me] [tX9 k_me] y [wX9 h_me q_me k_me o_me] := by
  refine CC_of (by decide) (Nat.le_of_ble_eq_true rfl) ?_
  intro p e s m below meth c A ls hx hb hml hr hlk hnm hown hts hX hK hP hD hA hl
  have hl : lv_has ls 3 [(0, .ref h_me)] := hl
  have hown : s.vm.findClass RX9 = some m.cls := hown
  have hw : Wd dC dI A s.heap [wX9 h_me q_me k_me o_me] s.heap [] := ⟨hP, hD, va_S.rf⟩
  generalize hQz : (MQ below (QI dC dI (fun r (_ : Unit) => r = y) (fun _ => Jn [wX9 h_me q_me k_me o_me]) (fun _ => Jt [tX9 k_me]) A) ([.ref h_me] : List Value).toArray s 0 0 A) = Qz
  clear hP hD hnm
  have lp_4_0 : ∀ (N : Nat), ∀ (v1 : Int32) (v2 : Int32) (H : Heap) (locs : List Loc) (ls : Array Slot), lp_X9_enteredBits_4 o_me  N (v1, v2) = some y → Wd dC dI A s.heap [wX9 h_me q_me k_me o_me] H locs → lv_has ls 3 [(0, .ref h_me), (1, .int v1), (2, .int v2)] → W p l e ({ frames := 0, cells := 0, slots := 0, locals := 0 } : Room) s m ([.ref h_me] : List Value).toArray below meth c H locs 0 0 Qz (F0 m 4 ls []) := by
    intro N
    induction N with
    | zero =>
      intro v1 v2 H locs ls h hw hl
      exact absurd (show (none : Option (Int32)) = some y from h) (by simp)
    | succ N ih =>
      intro v1 v2 H locs ls h hw hl
      have h : lb_X9_enteredBits_4 o_me  (lp_X9_enteredBits_4 o_me  N) v1 v2 = some y := h
      unfold lb_X9_enteredBits_4 at h
      refine lv_iload_n hx hb dX9_enteredBits_4 rfl (lv_at hl 2 rfl) ?_
      refine lv_aload_n hx hb dX9_enteredBits_5 rfl (lv_at hl 0 rfl) ?_
      refine fgX9_3 hx hb hts hown hK hw 0 rfl kw1179 dX9_enteredBits_6 ?_
      refine lv_iconst (v := 0) hx hb dX9_enteredBits_9 (by decide) ?_
      refine faX9_3 hx hb hK hw 0 rfl rfl (by decide) dX9_enteredBits_10 ?_
      refine lv_icmp_ge (tgt := 34) hx hb dX9_enteredBits_11 (by decide) (fun c => ?_) (fun c => ?_)
      · have h := z_t h c
        refine lv_iload_n hx hb dX9_enteredBits_34 rfl (lv_at hl 1 rfl) ?_
        have hy := Option.some.inj h
        rw [← hQz, ← hy]
        exact xr_i (v := v1) hx hb hr rfl hlk hK hw dX9_enteredBits_35
      · have h := z_f h c
        refine lv_iload_n hx hb dX9_enteredBits_14 rfl (lv_at hl 1 rfl) ?_
        refine lv_aload_n hx hb dX9_enteredBits_15 rfl (lv_at hl 0 rfl) ?_
        refine fgX9_3 hx hb hts hown hK hw 0 rfl kw1179 dX9_enteredBits_16 ?_
        refine lv_bipush (v := 22) hx hb dX9_enteredBits_19 (by decide) ?_
        refine lv_iload_n hx hb dX9_enteredBits_21 rfl (lv_at hl 2 rfl) ?_
        refine lv_iadd hx hb dX9_enteredBits_22 ?_
        obtain ⟨g1, h⟩ := z_gd h
        refine faX9_3 hx hb hK hw 0 rfl rfl g1 dX9_enteredBits_23 ?_
        refine lv_iload_n hx hb dX9_enteredBits_24 rfl (lv_at hl 2 rfl) ?_
        refine lv_ishl hx hb dX9_enteredBits_25 ?_
        refine lv_ior hx hb dX9_enteredBits_26 ?_
        obtain ⟨x2, ex2, h⟩ := z_lt h
        refine lv_fi (v := x2) ex2.symm ?_
        refine lv_istore_n (lv' := [(1, .int x2), (0, .ref h_me), (2, .int v2)]) hx hb dX9_enteredBits_27 rfl hl (by decide) rfl (fun ls hl => ?_)
        obtain ⟨x3, ex3, h⟩ := z_lt h
        refine lv_iinc (v := x3) (lv' := [(2, .int x3), (1, .int x2), (0, .ref h_me)]) hx hb dX9_enteredBits_28 hl (k := 2) rfl ((congrArg (v2 + ·) (show Int32.ofInt 1 = (1 : Int32) from by decide)).trans ex3.symm) (by decide) rfl (fun ls hl => ?_)
        refine lv_goto (tgt := 4) hx hb dX9_enteredBits_31 (by decide) ?_
        exact ih x2 x3 _ _ _ h hw (lv_sub hl [2, 1, 0] rfl)
  unfold f_X9_enteredBits at h
  refine lv_iconst (v := 0) hx hb dX9_enteredBits_0 (by decide) ?_
  refine lv_istore_n (lv' := [(1, .int (0 : Int32)), (0, .ref h_me)]) hx hb dX9_enteredBits_1 rfl hl (by decide) rfl (fun ls hl => ?_)
  refine lv_iconst (v := 0) hx hb dX9_enteredBits_2 (by decide) ?_
  refine lv_istore_n (lv' := [(2, .int (0 : Int32)), (1, .int (0 : Int32)), (0, .ref h_me)]) hx hb dX9_enteredBits_3 rfl hl (by decide) rfl (fun ls hl => ?_)
  exact lp_4_0  zfu (0 : Int32) (0 : Int32) _ _ _ h hw (lv_sub hl [2, 1, 0] rfl)

def f_X9_is (p0 : Int32) (p1 : Int32) : Option (Int32) :=
  if ((p0 >>> (p1 &&& 31)) &&& (1 : Int32)) = (1 : Int32) then
  (some (1 : Int32))
  else
  (some (0 : Int32))
set_option maxHeartbeats 4000000 in
set_option maxRecDepth 100000 in
theorem m_X9_is (l : Launch) (dC : Nat → ClassId) (dI : Nat → Nat → Nat) (sz : Nat)  (p0 : Int32) (p1 : Int32) (y : Int32) (h : f_X9_is p0 p1 = some y) : CI l yX9_is cX9_is 2 (some .boolean) ({ frames := 0, cells := 0, slots := 0, locals := 0 } : Room) dC dI sz [.int p0, .int p1] [] [] y [] := by
  refine CC_of (by decide) (Nat.le_of_ble_eq_true rfl) ?_
  intro p e s m below meth c A ls hx hb hml hr hlk hnm hown hts hX hK hP hD hA hl
  have hl : lv_has ls 2 [(0, .int p0), (1, .int p1)] := hl
  have hown : s.vm.findClass RX9 = some m.cls := hown
  have hw : Wd dC dI A s.heap [] s.heap [] := ⟨hP, hD, va_S.rf⟩
  generalize hQz : (MQ below (QI dC dI (fun r (_ : Unit) => r = y) (fun _ => Jn []) (fun _ => Jt []) A) ([.int p0, .int p1] : List Value).toArray s 0 0 A) = Qz
  clear hP hD hnm
  unfold f_X9_is at h
  refine lv_iload_n hx hb dX9_is_0 rfl (lv_at hl 0 rfl) ?_
  refine lv_iload_n hx hb dX9_is_1 rfl (lv_at hl 1 rfl) ?_
  refine lv_ishr hx hb dX9_is_2 ?_
  refine lv_iconst (v := 1) hx hb dX9_is_3 (by decide) ?_
  refine lv_iand hx hb dX9_is_4 ?_
  refine lv_iconst (v := 1) hx hb dX9_is_5 (by decide) ?_
  refine lv_icmp_ne (tgt := 13) hx hb dX9_is_6 (by decide) (fun c => ?_) (fun c => ?_)
  · have h := z_f h c
    refine lv_iconst (v := 0) hx hb dX9_is_13 (by decide) ?_
    have hy := Option.some.inj h
    rw [← hQz, ← hy]
    exact xr_i (v := (0 : Int32)) hx hb hr rfl hlk hK hw dX9_is_14
  · have h := z_t h c
    refine lv_iconst (v := 1) hx hb dX9_is_9 (by decide) ?_
    refine lv_goto (tgt := 14) hx hb dX9_is_10 (by decide) ?_
    have hy := Option.some.inj h
    rw [← hQz, ← hy]
    exact xr_i (v := (1 : Int32)) hx hb hr rfl hlk hK hw dX9_is_14

def lb_X9_ones_4   (rec_4_0 : Int32 × Int32 × Int32 → Option (Int32)) (v0 : Int32) (v1 : Int32) (v2 : Int32) : Option (Int32) :=
  if (7 : Int32) ≤ v2 then
  (some v1)
  else
  (zlt (v1 + ((v0 >>> (v2 &&& 31)) &&& (1 : Int32))) fun x1 =>
  zlt (v2 + (1 : Int32)) fun x2 =>
  rec_4_0 (v0, x1, x2))
def lp_X9_ones_4   : Nat → (Int32 × Int32 × Int32) → Option (Int32) := zit (fun rec a => lb_X9_ones_4   rec a.1 a.2.1 a.2.2)
def f_X9_ones (p0 : Int32) : Option (Int32) :=
  lp_X9_ones_4   zfu (p0, (0 : Int32), (0 : Int32))
set_option maxHeartbeats 4000000 in
set_option maxRecDepth 100000 in
theorem m_X9_ones (l : Launch) (dC : Nat → ClassId) (dI : Nat → Nat → Nat) (sz : Nat)  (p0 : Int32) (y : Int32) (h : f_X9_ones p0 = some y) : CI l yX9_ones cX9_ones 3 (some .int) ({ frames := 0, cells := 0, slots := 0, locals := 0 } : Room) dC dI sz [.int p0] [] [] y [] := by
  refine CC_of (by decide) (Nat.le_of_ble_eq_true rfl) ?_
  intro p e s m below meth c A ls hx hb hml hr hlk hnm hown hts hX hK hP hD hA hl
  have hl : lv_has ls 3 [(0, .int p0)] := hl
  have hown : s.vm.findClass RX9 = some m.cls := hown
  have hw : Wd dC dI A s.heap [] s.heap [] := ⟨hP, hD, va_S.rf⟩
  generalize hQz : (MQ below (QI dC dI (fun r (_ : Unit) => r = y) (fun _ => Jn []) (fun _ => Jt []) A) ([.int p0] : List Value).toArray s 0 0 A) = Qz
  clear hP hD hnm
  have lp_4_0 : ∀ (N : Nat), ∀ (v0 : Int32) (v1 : Int32) (v2 : Int32) (H : Heap) (locs : List Loc) (ls : Array Slot), lp_X9_ones_4   N (v0, v1, v2) = some y → Wd dC dI A s.heap [] H locs → lv_has ls 3 [(0, .int v0), (1, .int v1), (2, .int v2)] → W p l e ({ frames := 0, cells := 0, slots := 0, locals := 0 } : Room) s m ([.int p0] : List Value).toArray below meth c H locs 0 0 Qz (F0 m 4 ls []) := by
    intro N
    induction N with
    | zero =>
      intro v0 v1 v2 H locs ls h hw hl
      exact absurd (show (none : Option (Int32)) = some y from h) (by simp)
    | succ N ih =>
      intro v0 v1 v2 H locs ls h hw hl
      have h : lb_X9_ones_4   (lp_X9_ones_4   N) v0 v1 v2 = some y := h
      unfold lb_X9_ones_4 at h
      refine lv_iload_n hx hb dX9_ones_4 rfl (lv_at hl 2 rfl) ?_
      refine lv_bipush (v := 7) hx hb dX9_ones_5 (by decide) ?_
      refine lv_icmp_ge (tgt := 24) hx hb dX9_ones_7 (by decide) (fun c => ?_) (fun c => ?_)
      · have h := z_t h c
        refine lv_iload_n hx hb dX9_ones_24 rfl (lv_at hl 1 rfl) ?_
        have hy := Option.some.inj h
        rw [← hQz, ← hy]
        exact xr_i (v := v1) hx hb hr rfl hlk hK hw dX9_ones_25
      · have h := z_f h c
        refine lv_iload_n hx hb dX9_ones_10 rfl (lv_at hl 1 rfl) ?_
        refine lv_iload_n hx hb dX9_ones_11 rfl (lv_at hl 0 rfl) ?_
        refine lv_iload_n hx hb dX9_ones_12 rfl (lv_at hl 2 rfl) ?_
        refine lv_ishr hx hb dX9_ones_13 ?_
        refine lv_iconst (v := 1) hx hb dX9_ones_14 (by decide) ?_
        refine lv_iand hx hb dX9_ones_15 ?_
        refine lv_iadd hx hb dX9_ones_16 ?_
        obtain ⟨x1, ex1, h⟩ := z_lt h
        refine lv_fi (v := x1) ex1.symm ?_
        refine lv_istore_n (lv' := [(1, .int x1), (0, .int v0), (2, .int v2)]) hx hb dX9_ones_17 rfl hl (by decide) rfl (fun ls hl => ?_)
        obtain ⟨x2, ex2, h⟩ := z_lt h
        refine lv_iinc (v := x2) (lv' := [(2, .int x2), (1, .int x1), (0, .int v0)]) hx hb dX9_ones_18 hl (k := 2) rfl ((congrArg (v2 + ·) (show Int32.ofInt 1 = (1 : Int32) from by decide)).trans ex2.symm) (by decide) rfl (fun ls hl => ?_)
        refine lv_goto (tgt := 4) hx hb dX9_ones_21 (by decide) ?_
        exact ih v0 x1 x2 _ _ _ h hw (lv_sub hl [2, 1, 0] rfl)
  unfold f_X9_ones at h
  refine lv_iconst (v := 0) hx hb dX9_ones_0 (by decide) ?_
  refine lv_istore_n (lv' := [(1, .int (0 : Int32)), (0, .int p0)]) hx hb dX9_ones_1 rfl hl (by decide) rfl (fun ls hl => ?_)
  refine lv_iconst (v := 0) hx hb dX9_ones_2 (by decide) ?_
  refine lv_istore_n (lv' := [(2, .int (0 : Int32)), (1, .int (0 : Int32)), (0, .int p0)]) hx hb dX9_ones_3 rfl hl (by decide) rfl (fun ls hl => ?_)
  exact lp_4_0  zfu p0 (0 : Int32) (0 : Int32) _ _ _ h hw (lv_sub hl [2, 1, 0] rfl)

def bk_X9_placeOf_85 (o_me : Ob) (rec_5_0 : Int32 × Int32 × Int32 × Int32 → Option (Int32)) (v1 : Int32) (v2 : Int32) (v4 : Int32) (s0 : Int32) (s1 : Int32) : Option (Int32) :=
  zlt (s1 + s0) fun x1 =>
  zlt (v4 + (1 : Int32)) fun x2 =>
  rec_5_0 (v1, v2, x1, x2)
def bk_X9_placeOf_84 (o_me : Ob) (rec_5_0 : Int32 × Int32 × Int32 × Int32 → Option (Int32)) (v1 : Int32) (v2 : Int32) (v4 : Int32) (s0 : Int32) : Option (Int32) :=
  bk_X9_placeOf_85 o_me rec_5_0 v1 v2 v4 (0 : Int32) s0
def bk_X9_placeOf_80 (o_me : Ob) (rec_5_0 : Int32 × Int32 × Int32 × Int32 → Option (Int32)) (v1 : Int32) (v2 : Int32) (v4 : Int32) (s0 : Int32) : Option (Int32) :=
  bk_X9_placeOf_85 o_me rec_5_0 v1 v2 v4 (1 : Int32) s0
def lb_X9_placeOf_5 (o_me : Ob)  (rec_5_0 : Int32 × Int32 × Int32 × Int32 → Option (Int32)) (v1 : Int32) (v2 : Int32) (v3 : Int32) (v4 : Int32) : Option (Int32) :=
  if (gA o_me 3 (0 : Int32).toNatClampNeg) ≤ v4 then
  (some v3)
  else
  (if v4 = v1 then
  (bk_X9_placeOf_84 o_me rec_5_0 v1 v2 v4 v3)
  else
  ((f_X9_is v2 v4).bind fun z3 =>
  if z3 = (0 : Int32) then
  (bk_X9_placeOf_84 o_me rec_5_0 v1 v2 v4 v3)
  else
  (zgd (zin v4 7) <|
  if (gA o_me 44 v4.toNatClampNeg) = (0 : Int32) then
  (zgd (zin v4 7) <|
  zgd (zin v1 7) <|
  if (gA o_me 41 v1.toNatClampNeg) < (gA o_me 41 v4.toNatClampNeg) then
  (bk_X9_placeOf_80 o_me rec_5_0 v1 v2 v4 v3)
  else
  (zgd (zin v4 7) <|
  zgd (zin v1 7) <|
  if (gA o_me 41 v4.toNatClampNeg) = (gA o_me 41 v1.toNatClampNeg) then
  (if v1 ≤ v4 then
  (bk_X9_placeOf_84 o_me rec_5_0 v1 v2 v4 v3)
  else
  (bk_X9_placeOf_80 o_me rec_5_0 v1 v2 v4 v3))
  else
  (bk_X9_placeOf_84 o_me rec_5_0 v1 v2 v4 v3)))
  else
  (bk_X9_placeOf_84 o_me rec_5_0 v1 v2 v4 v3))))
def lp_X9_placeOf_5 (o_me : Ob)  : Nat → (Int32 × Int32 × Int32 × Int32) → Option (Int32) := zit (fun rec a => lb_X9_placeOf_5 o_me  rec a.1 a.2.1 a.2.2.1 a.2.2.2)
def f_X9_placeOf (o_me : Ob) (p0 : Int32) (p1 : Int32) : Option (Int32) :=
  lp_X9_placeOf_5 o_me  zfu (p0, p1, (1 : Int32), (0 : Int32))
set_option maxHeartbeats 4000000 in
set_option maxRecDepth 100000 in
theorem m_X9_placeOf (l : Launch) (dC : Nat → ClassId) (dI : Nat → Nat → Nat) (sz : Nat) (h_me : Nat) (q_me : Nat → Nat) (k_me : Nat → ClassId) (o_me : Ob) (p0 : Int32) (p1 : Int32) (y : Int32) (h : f_X9_placeOf o_me p0 p1 = some y) : CI l yX9_placeOf cX9_placeOf 5 (some .int) ({ frames := 1, cells := 0, slots := 0, locals := 21 } : Room) dC dI sz [.ref h_me, .int p0, .int p1] [wX9 h_me q_me k_me o_me] [tX9 k_me] y [wX9 h_me q_me k_me o_me] := by
  refine CC_of (by decide) (Nat.le_of_ble_eq_true rfl) ?_
  intro p e s m below meth c A ls hx hb hml hr hlk hnm hown hts hX hK hP hD hA hl
  have hl : lv_has ls 5 [(0, .ref h_me), (1, .int p0), (2, .int p1)] := hl
  have hown : s.vm.findClass RX9 = some m.cls := hown
  have hw : Wd dC dI A s.heap [wX9 h_me q_me k_me o_me] s.heap [] := ⟨hP, hD, va_S.rf⟩
  generalize hQz : (MQ below (QI dC dI (fun r (_ : Unit) => r = y) (fun _ => Jn [wX9 h_me q_me k_me o_me]) (fun _ => Jt [tX9 k_me]) A) ([.ref h_me, .int p0, .int p1] : List Value).toArray s 0 0 A) = Qz
  clear hP hD hnm
  have bk_85_2 : ∀ (rec_5_0 : Int32 × Int32 × Int32 × Int32 → Option (Int32)) (hrec_5_0 : ∀ (v1 : Int32) (v2 : Int32) (v3 : Int32) (v4 : Int32) (H : Heap) (locs : List Loc) (ls : Array Slot), rec_5_0 (v1, v2, v3, v4) = some y → Wd dC dI A s.heap [wX9 h_me q_me k_me o_me] H locs → lv_has ls 5 [(0, .ref h_me), (1, .int v1), (2, .int v2), (3, .int v3), (4, .int v4)] → W p l e ({ frames := 1, cells := 0, slots := 0, locals := 21 } : Room) s m ([.ref h_me, .int p0, .int p1] : List Value).toArray below meth c H locs 0 0 Qz (F0 m 5 ls [])), ∀ (v1 : Int32) (v2 : Int32) (v4 : Int32) (s0 : Int32) (s1 : Int32) (H : Heap) (locs : List Loc) (ls : Array Slot), bk_X9_placeOf_85 o_me rec_5_0 v1 v2 v4 s0 s1 = some y → Wd dC dI A s.heap [wX9 h_me q_me k_me o_me] H locs → lv_has ls 5 [(0, .ref h_me), (1, .int v1), (2, .int v2), (4, .int v4)] → W p l e ({ frames := 1, cells := 0, slots := 0, locals := 21 } : Room) s m ([.ref h_me, .int p0, .int p1] : List Value).toArray below meth c H locs 0 0 Qz (F0 m 85 ls [.int s0, .int s1]) := by
    intro rec_5_0 hrec_5_0
    intro v1 v2 v4 s0 s1 H locs ls h hw hl
    unfold bk_X9_placeOf_85 at h
    refine lv_iadd hx hb dX9_placeOf_85 ?_
    obtain ⟨x1, ex1, h⟩ := z_lt h
    refine lv_fi (v := x1) ex1.symm ?_
    refine lv_istore_n (lv' := [(3, .int x1), (0, .ref h_me), (1, .int v1), (2, .int v2), (4, .int v4)]) hx hb dX9_placeOf_86 rfl hl (by decide) rfl (fun ls hl => ?_)
    obtain ⟨x2, ex2, h⟩ := z_lt h
    refine lv_iinc (v := x2) (lv' := [(4, .int x2), (3, .int x1), (0, .ref h_me), (1, .int v1), (2, .int v2)]) hx hb dX9_placeOf_87 hl (k := 4) rfl ((congrArg (v4 + ·) (show Int32.ofInt 1 = (1 : Int32) from by decide)).trans ex2.symm) (by decide) rfl (fun ls hl => ?_)
    refine lv_goto (tgt := 5) hx hb dX9_placeOf_90 (by decide) ?_
    exact hrec_5_0 v1 v2 x1 x2 _ _ _ h hw (lv_sub hl [2, 3, 4, 1, 0] rfl)
  have bk_84_1 : ∀ (rec_5_0 : Int32 × Int32 × Int32 × Int32 → Option (Int32)) (hrec_5_0 : ∀ (v1 : Int32) (v2 : Int32) (v3 : Int32) (v4 : Int32) (H : Heap) (locs : List Loc) (ls : Array Slot), rec_5_0 (v1, v2, v3, v4) = some y → Wd dC dI A s.heap [wX9 h_me q_me k_me o_me] H locs → lv_has ls 5 [(0, .ref h_me), (1, .int v1), (2, .int v2), (3, .int v3), (4, .int v4)] → W p l e ({ frames := 1, cells := 0, slots := 0, locals := 21 } : Room) s m ([.ref h_me, .int p0, .int p1] : List Value).toArray below meth c H locs 0 0 Qz (F0 m 5 ls [])), ∀ (v1 : Int32) (v2 : Int32) (v4 : Int32) (s0 : Int32) (H : Heap) (locs : List Loc) (ls : Array Slot), bk_X9_placeOf_84 o_me rec_5_0 v1 v2 v4 s0 = some y → Wd dC dI A s.heap [wX9 h_me q_me k_me o_me] H locs → lv_has ls 5 [(0, .ref h_me), (1, .int v1), (2, .int v2), (4, .int v4)] → W p l e ({ frames := 1, cells := 0, slots := 0, locals := 21 } : Room) s m ([.ref h_me, .int p0, .int p1] : List Value).toArray below meth c H locs 0 0 Qz (F0 m 84 ls [.int s0]) := by
    intro rec_5_0 hrec_5_0
    intro v1 v2 v4 s0 H locs ls h hw hl
    unfold bk_X9_placeOf_84 at h
    refine lv_iconst (v := 0) hx hb dX9_placeOf_84 (by decide) ?_
    exact bk_85_2 rec_5_0 hrec_5_0 v1 v2 v4 (0 : Int32) s0 _ _ _ h hw (lv_sub hl [0, 1, 2, 3] rfl)
  have bk_80_3 : ∀ (rec_5_0 : Int32 × Int32 × Int32 × Int32 → Option (Int32)) (hrec_5_0 : ∀ (v1 : Int32) (v2 : Int32) (v3 : Int32) (v4 : Int32) (H : Heap) (locs : List Loc) (ls : Array Slot), rec_5_0 (v1, v2, v3, v4) = some y → Wd dC dI A s.heap [wX9 h_me q_me k_me o_me] H locs → lv_has ls 5 [(0, .ref h_me), (1, .int v1), (2, .int v2), (3, .int v3), (4, .int v4)] → W p l e ({ frames := 1, cells := 0, slots := 0, locals := 21 } : Room) s m ([.ref h_me, .int p0, .int p1] : List Value).toArray below meth c H locs 0 0 Qz (F0 m 5 ls [])), ∀ (v1 : Int32) (v2 : Int32) (v4 : Int32) (s0 : Int32) (H : Heap) (locs : List Loc) (ls : Array Slot), bk_X9_placeOf_80 o_me rec_5_0 v1 v2 v4 s0 = some y → Wd dC dI A s.heap [wX9 h_me q_me k_me o_me] H locs → lv_has ls 5 [(0, .ref h_me), (1, .int v1), (2, .int v2), (4, .int v4)] → W p l e ({ frames := 1, cells := 0, slots := 0, locals := 21 } : Room) s m ([.ref h_me, .int p0, .int p1] : List Value).toArray below meth c H locs 0 0 Qz (F0 m 80 ls [.int s0]) := by
    intro rec_5_0 hrec_5_0
    intro v1 v2 v4 s0 H locs ls h hw hl
    unfold bk_X9_placeOf_80 at h
    refine lv_iconst (v := 1) hx hb dX9_placeOf_80 (by decide) ?_
    refine lv_goto (tgt := 85) hx hb dX9_placeOf_81 (by decide) ?_
    exact bk_85_2 rec_5_0 hrec_5_0 v1 v2 v4 (1 : Int32) s0 _ _ _ h hw (lv_sub hl [0, 1, 2, 3] rfl)
  have lp_5_0 : ∀ (N : Nat), ∀ (v1 : Int32) (v2 : Int32) (v3 : Int32) (v4 : Int32) (H : Heap) (locs : List Loc) (ls : Array Slot), lp_X9_placeOf_5 o_me  N (v1, v2, v3, v4) = some y → Wd dC dI A s.heap [wX9 h_me q_me k_me o_me] H locs → lv_has ls 5 [(0, .ref h_me), (1, .int v1), (2, .int v2), (3, .int v3), (4, .int v4)] → W p l e ({ frames := 1, cells := 0, slots := 0, locals := 21 } : Room) s m ([.ref h_me, .int p0, .int p1] : List Value).toArray below meth c H locs 0 0 Qz (F0 m 5 ls []) := by
    intro N
    induction N with
    | zero =>
      intro v1 v2 v3 v4 H locs ls h hw hl
      exact absurd (show (none : Option (Int32)) = some y from h) (by simp)
    | succ N ih =>
      intro v1 v2 v3 v4 H locs ls h hw hl
      have h : lb_X9_placeOf_5 o_me  (lp_X9_placeOf_5 o_me  N) v1 v2 v3 v4 = some y := h
      unfold lb_X9_placeOf_5 at h
      refine lv_iload hx hb dX9_placeOf_5 (lv_at hl 4 rfl) ?_
      refine lv_aload_n hx hb dX9_placeOf_7 rfl (lv_at hl 0 rfl) ?_
      refine fgX9_3 hx hb hts hown hK hw 0 rfl kw1179 dX9_placeOf_8 ?_
      refine lv_iconst (v := 0) hx hb dX9_placeOf_11 (by decide) ?_
      refine faX9_3 hx hb hK hw 0 rfl rfl (by decide) dX9_placeOf_12 ?_
      refine lv_icmp_ge (tgt := 93) hx hb dX9_placeOf_13 (by decide) (fun c => ?_) (fun c => ?_)
      · have h := z_t h c
        refine lv_iload_n hx hb dX9_placeOf_93 rfl (lv_at hl 3 rfl) ?_
        have hy := Option.some.inj h
        rw [← hQz, ← hy]
        exact xr_i (v := v3) hx hb hr rfl hlk hK hw dX9_placeOf_94
      · have h := z_f h c
        refine lv_iload_n hx hb dX9_placeOf_16 rfl (lv_at hl 3 rfl) ?_
        refine lv_iload hx hb dX9_placeOf_17 (lv_at hl 4 rfl) ?_
        refine lv_iload_n hx hb dX9_placeOf_19 rfl (lv_at hl 1 rfl) ?_
        refine lv_icmp_eq (tgt := 84) hx hb dX9_placeOf_20 (by decide) (fun c => ?_) (fun c => ?_)
        · have h := z_t h c
          exact bk_84_1 (lp_X9_placeOf_5 o_me  N) ih v1 v2 v4 v3 _ _ _ h hw (lv_sub hl [0, 1, 2, 4] rfl)
        · have h := z_f h c
          refine lv_iload_n hx hb dX9_placeOf_23 rfl (lv_at hl 2 rfl) ?_
          refine lv_iload hx hb dX9_placeOf_24 (lv_at hl 4 rfl) ?_
          obtain ⟨z3, ez3, h⟩ := z_bd h
          refine xj_i (xrS (As := [.int v2, .int v4]) (rest := [.int v3]) ⟨hx, hb, hml, hown, hts⟩ (m_X9_is l dC dI _  v2 v4 z3 ez3) kw1704 kw1702 kw1703 kw120 hd_X9_is ⟨rfl, rfl⟩ rfl rfl ⟨rfl, rfl⟩ hX hK hw [] (by decide) rfl rfl hl.1 rfl rfl dX9_placeOf_26) hw hA [] (by decide) rfl rfl (fun H locs hw => ?_)
          refine lv_if_eq (tgt := 84) hx hb dX9_placeOf_29 (by decide) (fun c => ?_) (fun c => ?_)
          · have h := z_t h c
            exact bk_84_1 (lp_X9_placeOf_5 o_me  N) ih v1 v2 v4 v3 _ _ _ h hw (lv_sub hl [0, 1, 2, 4] rfl)
          · have h := z_f h c
            refine lv_aload_n hx hb dX9_placeOf_32 rfl (lv_at hl 0 rfl) ?_
            refine fgX9_44 hx hb hts hown hK hw 0 rfl kw1220 dX9_placeOf_33 ?_
            refine lv_iload hx hb dX9_placeOf_36 (lv_at hl 4 rfl) ?_
            obtain ⟨g4, h⟩ := z_gd h
            refine faX9_44 hx hb hK hw 0 rfl rfl g4 dX9_placeOf_38 ?_
            refine lv_if_ne (tgt := 84) hx hb dX9_placeOf_39 (by decide) (fun c => ?_) (fun c => ?_)
            · have h := z_f h c
              exact bk_84_1 (lp_X9_placeOf_5 o_me  N) ih v1 v2 v4 v3 _ _ _ h hw (lv_sub hl [0, 1, 2, 4] rfl)
            · have h := z_t h c
              refine lv_aload_n hx hb dX9_placeOf_42 rfl (lv_at hl 0 rfl) ?_
              refine fgX9_41 hx hb hts hown hK hw 0 rfl kw1217 dX9_placeOf_43 ?_
              refine lv_iload hx hb dX9_placeOf_46 (lv_at hl 4 rfl) ?_
              obtain ⟨g5, h⟩ := z_gd h
              refine faX9_41 hx hb hK hw 0 rfl rfl g5 dX9_placeOf_48 ?_
              refine lv_aload_n hx hb dX9_placeOf_49 rfl (lv_at hl 0 rfl) ?_
              refine fgX9_41 hx hb hts hown hK hw 0 rfl kw1217 dX9_placeOf_50 ?_
              refine lv_iload_n hx hb dX9_placeOf_53 rfl (lv_at hl 1 rfl) ?_
              obtain ⟨g6, h⟩ := z_gd h
              refine faX9_41 hx hb hK hw 0 rfl rfl g6 dX9_placeOf_54 ?_
              refine lv_icmp_gt (tgt := 80) hx hb dX9_placeOf_55 (by decide) (fun c => ?_) (fun c => ?_)
              · have h := z_t h c
                exact bk_80_3 (lp_X9_placeOf_5 o_me  N) ih v1 v2 v4 v3 _ _ _ h hw (lv_sub hl [0, 1, 2, 4] rfl)
              · have h := z_f h c
                refine lv_aload_n hx hb dX9_placeOf_58 rfl (lv_at hl 0 rfl) ?_
                refine fgX9_41 hx hb hts hown hK hw 0 rfl kw1217 dX9_placeOf_59 ?_
                refine lv_iload hx hb dX9_placeOf_62 (lv_at hl 4 rfl) ?_
                obtain ⟨g7, h⟩ := z_gd h
                refine faX9_41 hx hb hK hw 0 rfl rfl g7 dX9_placeOf_64 ?_
                refine lv_aload_n hx hb dX9_placeOf_65 rfl (lv_at hl 0 rfl) ?_
                refine fgX9_41 hx hb hts hown hK hw 0 rfl kw1217 dX9_placeOf_66 ?_
                refine lv_iload_n hx hb dX9_placeOf_69 rfl (lv_at hl 1 rfl) ?_
                obtain ⟨g8, h⟩ := z_gd h
                refine faX9_41 hx hb hK hw 0 rfl rfl g8 dX9_placeOf_70 ?_
                refine lv_icmp_ne (tgt := 84) hx hb dX9_placeOf_71 (by decide) (fun c => ?_) (fun c => ?_)
                · have h := z_f h c
                  exact bk_84_1 (lp_X9_placeOf_5 o_me  N) ih v1 v2 v4 v3 _ _ _ h hw (lv_sub hl [0, 1, 2, 4] rfl)
                · have h := z_t h c
                  refine lv_iload hx hb dX9_placeOf_74 (lv_at hl 4 rfl) ?_
                  refine lv_iload_n hx hb dX9_placeOf_76 rfl (lv_at hl 1 rfl) ?_
                  refine lv_icmp_ge (tgt := 84) hx hb dX9_placeOf_77 (by decide) (fun c => ?_) (fun c => ?_)
                  · have h := z_t h c
                    exact bk_84_1 (lp_X9_placeOf_5 o_me  N) ih v1 v2 v4 v3 _ _ _ h hw (lv_sub hl [0, 1, 2, 4] rfl)
                  · have h := z_f h c
                    exact bk_80_3 (lp_X9_placeOf_5 o_me  N) ih v1 v2 v4 v3 _ _ _ h hw (lv_sub hl [0, 1, 2, 4] rfl)
  unfold f_X9_placeOf at h
  refine lv_iconst (v := 1) hx hb dX9_placeOf_0 (by decide) ?_
  refine lv_istore_n (lv' := [(3, .int (1 : Int32)), (0, .ref h_me), (1, .int p0), (2, .int p1)]) hx hb dX9_placeOf_1 rfl hl (by decide) rfl (fun ls hl => ?_)
  refine lv_iconst (v := 0) hx hb dX9_placeOf_2 (by decide) ?_
  refine lv_istore (lv' := [(4, .int (0 : Int32)), (3, .int (1 : Int32)), (0, .ref h_me), (1, .int p0), (2, .int p1)]) hx hb dX9_placeOf_3 hl (by decide) rfl (fun ls hl => ?_)
  exact lp_5_0  zfu p0 p1 (1 : Int32) (0 : Int32) _ _ _ h hw (lv_sub hl [2, 3, 4, 1, 0] rfl)

def bk_X9_be_178   (v7 : Int32) (o_me : Ob) : Option (Int32 × Ob) :=
  some (v7, o_me)
def bk_X9_be_158  (rec_76_0 : Int32 × Int32 × Int32 × Int32 × Int32 × Int32 × Int32 × Ob → Option (Int32 × Ob)) (v1 : Int32) (v3 : Int32) (v4 : Int32) (v5 : Int32) (v7 : Int32) (v8 : Int32) (s0 : Int32) (o_me : Ob) : Option (Int32 × Ob) :=
  zlt (v8 + (1 : Int32)) fun x10 =>
  rec_76_0 (v1, v3, v4, v5, s0, v7, x10, o_me)
def bk_X9_be_141  (rec_76_0 : Int32 × Int32 × Int32 × Int32 × Int32 × Int32 × Int32 × Ob → Option (Int32 × Ob)) (v1 : Int32) (v3 : Int32) (v4 : Int32) (v5 : Int32) (v6 : Int32) (v8 : Int32) (v9 : Int32) (s0 : Int32) (o_me : Ob) : Option (Int32 × Ob) :=
  if v9 = (0 : Int32) then
  (bk_X9_be_158  rec_76_0 v1 v3 v4 v5 s0 v8 v6 o_me)
  else
  ((f_X9_ones v8).bind fun z11 =>
  bk_X9_be_158  rec_76_0 v1 v3 v4 v5 s0 v8 z11 o_me)
def bk_X9_be_127  (rec_76_0 : Int32 × Int32 × Int32 × Int32 × Int32 × Int32 × Int32 × Ob → Option (Int32 × Ob)) (v1 : Int32) (v3 : Int32) (v4 : Int32) (v5 : Int32) (v6 : Int32) (v7 : Int32) (v8 : Int32) (s0 : Int32) (o_me : Ob) : Option (Int32 × Ob) :=
  if s0 = (0 : Int32) then
  (bk_X9_be_141  rec_76_0 v1 v3 v4 v5 v6 v8 s0 v7 o_me)
  else
  (bk_X9_be_141  rec_76_0 v1 v3 v4 v5 v6 v8 s0 v8 o_me)
def bk_X9_be_126  (rec_76_0 : Int32 × Int32 × Int32 × Int32 × Int32 × Int32 × Int32 × Ob → Option (Int32 × Ob)) (v1 : Int32) (v3 : Int32) (v4 : Int32) (v5 : Int32) (v6 : Int32) (v7 : Int32) (v8 : Int32) (o_me : Ob) : Option (Int32 × Ob) :=
  bk_X9_be_127  rec_76_0 v1 v3 v4 v5 v6 v7 v8 (0 : Int32) o_me
def lb_X9_be_76   (rec_76_0 : Int32 × Int32 × Int32 × Int32 × Int32 × Int32 × Int32 × Ob → Option (Int32 × Ob)) (v1 : Int32) (v3 : Int32) (v4 : Int32) (v5 : Int32) (v6 : Int32) (v7 : Int32) (v8 : Int32) (o_me : Ob) : Option (Int32 × Ob) :=
  if ((1 : Int32) <<< ((gA o_me 3 (0 : Int32).toNatClampNeg) &&& 31)) ≤ v8 then
  (if v7 = (-1 : Int32) then
  (bk_X9_be_178   v7 o_me)
  else
  (if v4 = (1 : Int32) then
  (bk_X9_be_178   v7 o_me)
  else
  (some (v6, o_me))))
  else
  ((f_X9_is v8 v1).bind fun z9 =>
  if z9 = (0 : Int32) then
  ((f_X9_ones v8).bind fun z12 =>
  if v6 ≤ z12 then
  (bk_X9_be_126  rec_76_0 v1 v3 v4 v5 v6 v7 v8 o_me)
  else
  ((f_X9_placeOf o_me v1 (v5 ^^^ v8)).bind fun z13 =>
  if z13 = v3 then
  (bk_X9_be_127  rec_76_0 v1 v3 v4 v5 v6 v7 v8 (1 : Int32) o_me)
  else
  (bk_X9_be_126  rec_76_0 v1 v3 v4 v5 v6 v7 v8 o_me)))
  else
  (bk_X9_be_126  rec_76_0 v1 v3 v4 v5 v6 v7 v8 o_me))
def lp_X9_be_76   : Nat → (Int32 × Int32 × Int32 × Int32 × Int32 × Int32 × Int32 × Ob) → Option (Int32 × Ob) := zit (fun rec a => lb_X9_be_76   rec a.1 a.2.1 a.2.2.1 a.2.2.2.1 a.2.2.2.2.1 a.2.2.2.2.2.1 a.2.2.2.2.2.2.1 a.2.2.2.2.2.2.2)
def f_X9_be (o_me : Ob) (p0 : Int32) (p1 : Int32) (p2 : Int32) (p3 : Int32) : Option (Int32 × Ob) :=
  zlt (sI o_me 0 (0 : Int32)) fun o1 =>
  (f_X9_isPerson o1 p0).bind fun z2 =>
  if z2 = (0 : Int32) then
  (some ((-1 : Int32), o1))
  else
  ((f_X9_isRace p1).bind fun z3 =>
  if z3 = (0 : Int32) then
  (some ((-1 : Int32), o1))
  else
  ((f_X9_in p2.toInt64 (1 : Int64) (7 : Int64)).bind fun z4 =>
  if z4 = (0 : Int32) then
  (some ((-1 : Int32), o1))
  else
  ((f_X9_in p3.toInt64 (0 : Int64) (1 : Int64)).bind fun z5 =>
  if z5 = (0 : Int32) then
  (some ((-1 : Int32), o1))
  else
  ((f_X9_isBarred o1 p0 p1).bind fun z6 =>
  if z6.1 = (0 : Int32) then
  ((f_X9_layRuns z6.2 p1).bind fun z7 =>
  (f_X9_enteredBits z7).bind fun z8 =>
  lp_X9_be_76   zfu (p0, p2, p3, z8, (100000000 : Int32), (-1 : Int32), (0 : Int32), z7))
  else
  (some ((-1 : Int32), z6.2))))))
set_option maxHeartbeats 4000000 in
set_option maxRecDepth 100000 in
theorem m_X9_be (l : Launch) (dC : Nat → ClassId) (dI : Nat → Nat → Nat) (sz : Nat) (h_me : Nat) (q_me : Nat → Nat) (k_me : Nat → ClassId) (o_me : Ob) (p0 : Int32) (p1 : Int32) (p2 : Int32) (p3 : Int32) (y : Int32 × Ob) (h : f_X9_be o_me p0 p1 p2 p3 = some y) : CI l yX9_be cX9_be 10 (some .int) ({ frames := 7, cells := 0, slots := 0, locals := 167 } : Room) dC dI sz [.ref h_me, .int p0, .int p1, .int p2, .int p3] [wX9 h_me q_me k_me o_me] [tX9 k_me] y.1 [wX9 h_me q_me k_me y.2] := by
  refine CC_of (by decide) (Nat.le_of_ble_eq_true rfl) ?_
  intro p e s m below meth c A ls hx hb hml hr hlk hnm hown hts hX hK hP hD hA hl
  have hl : lv_has ls 10 [(0, .ref h_me), (1, .int p0), (2, .int p1), (3, .int p2), (4, .int p3)] := hl
  have hown : s.vm.findClass RX9 = some m.cls := hown
  have hw : Wd dC dI A s.heap [wX9 h_me q_me k_me o_me] s.heap [] := ⟨hP, hD, va_S.rf⟩
  generalize hQz : (MQ below (QI dC dI (fun r (_ : Unit) => r = y.1) (fun _ => Jn [wX9 h_me q_me k_me y.2]) (fun _ => Jt [tX9 k_me]) A) ([.ref h_me, .int p0, .int p1, .int p2, .int p3] : List Value).toArray s 0 0 A) = Qz
  clear hP hD hnm
  have bk_178_1 : ∀ (v7 : Int32) (o_me : Ob) (H : Heap) (locs : List Loc) (ls : Array Slot), bk_X9_be_178   v7 o_me = some y → Wd dC dI A s.heap [wX9 h_me q_me k_me o_me] H locs → lv_has ls 10 [(7, .int v7)] → W p l e ({ frames := 7, cells := 0, slots := 0, locals := 167 } : Room) s m ([.ref h_me, .int p0, .int p1, .int p2, .int p3] : List Value).toArray below meth c H locs 0 0 Qz (F0 m 178 ls []) := by
    intro v7 o_me H locs ls h hw hl
    unfold bk_X9_be_178 at h
    refine lv_iload hx hb dX9_be_178 (lv_at hl 0 rfl) ?_
    refine lv_goto (tgt := 185) hx hb dX9_be_180 (by decide) ?_
    have hy := Option.some.inj h
    rw [← hQz, ← hy]
    exact xr_i (v := v7) hx hb hr rfl hlk hK hw dX9_be_185
  have bk_158_5 : ∀ (rec_76_0 : Int32 × Int32 × Int32 × Int32 × Int32 × Int32 × Int32 × Ob → Option (Int32 × Ob)) (hrec_76_0 : ∀ (v1 : Int32) (v3 : Int32) (v4 : Int32) (v5 : Int32) (v6 : Int32) (v7 : Int32) (v8 : Int32) (o_me : Ob) (H : Heap) (locs : List Loc) (ls : Array Slot), rec_76_0 (v1, v3, v4, v5, v6, v7, v8, o_me) = some y → Wd dC dI A s.heap [wX9 h_me q_me k_me o_me] H locs → lv_has ls 10 [(0, .ref h_me), (1, .int v1), (3, .int v3), (4, .int v4), (5, .int v5), (6, .int v6), (7, .int v7), (8, .int v8)] → W p l e ({ frames := 7, cells := 0, slots := 0, locals := 167 } : Room) s m ([.ref h_me, .int p0, .int p1, .int p2, .int p3] : List Value).toArray below meth c H locs 0 0 Qz (F0 m 76 ls [])), ∀ (v1 : Int32) (v3 : Int32) (v4 : Int32) (v5 : Int32) (v7 : Int32) (v8 : Int32) (s0 : Int32) (o_me : Ob) (H : Heap) (locs : List Loc) (ls : Array Slot), bk_X9_be_158  rec_76_0 v1 v3 v4 v5 v7 v8 s0 o_me = some y → Wd dC dI A s.heap [wX9 h_me q_me k_me o_me] H locs → lv_has ls 10 [(0, .ref h_me), (1, .int v1), (3, .int v3), (4, .int v4), (5, .int v5), (7, .int v7), (8, .int v8)] → W p l e ({ frames := 7, cells := 0, slots := 0, locals := 167 } : Room) s m ([.ref h_me, .int p0, .int p1, .int p2, .int p3] : List Value).toArray below meth c H locs 0 0 Qz (F0 m 158 ls [.int s0]) := by
    intro rec_76_0 hrec_76_0
    intro v1 v3 v4 v5 v7 v8 s0 o_me H locs ls h hw hl
    unfold bk_X9_be_158 at h
    refine lv_istore (lv' := [(6, .int s0), (0, .ref h_me), (1, .int v1), (3, .int v3), (4, .int v4), (5, .int v5), (7, .int v7), (8, .int v8)]) hx hb dX9_be_158 hl (by decide) rfl (fun ls hl => ?_)
    obtain ⟨x10, ex10, h⟩ := z_lt h
    refine lv_iinc (v := x10) (lv' := [(8, .int x10), (6, .int s0), (0, .ref h_me), (1, .int v1), (3, .int v3), (4, .int v4), (5, .int v5), (7, .int v7)]) hx hb dX9_be_160 hl (k := 7) rfl ((congrArg (v8 + ·) (show Int32.ofInt 1 = (1 : Int32) from by decide)).trans ex10.symm) (by decide) rfl (fun ls hl => ?_)
    refine lv_goto (tgt := 76) hx hb dX9_be_163 (by decide) ?_
    exact hrec_76_0 v1 v3 v4 v5 s0 v7 x10 o_me _ _ _ h hw (lv_sub hl [2, 3, 4, 5, 6, 1, 7, 0] rfl)
  have bk_141_4 : ∀ (rec_76_0 : Int32 × Int32 × Int32 × Int32 × Int32 × Int32 × Int32 × Ob → Option (Int32 × Ob)) (hrec_76_0 : ∀ (v1 : Int32) (v3 : Int32) (v4 : Int32) (v5 : Int32) (v6 : Int32) (v7 : Int32) (v8 : Int32) (o_me : Ob) (H : Heap) (locs : List Loc) (ls : Array Slot), rec_76_0 (v1, v3, v4, v5, v6, v7, v8, o_me) = some y → Wd dC dI A s.heap [wX9 h_me q_me k_me o_me] H locs → lv_has ls 10 [(0, .ref h_me), (1, .int v1), (3, .int v3), (4, .int v4), (5, .int v5), (6, .int v6), (7, .int v7), (8, .int v8)] → W p l e ({ frames := 7, cells := 0, slots := 0, locals := 167 } : Room) s m ([.ref h_me, .int p0, .int p1, .int p2, .int p3] : List Value).toArray below meth c H locs 0 0 Qz (F0 m 76 ls [])), ∀ (v1 : Int32) (v3 : Int32) (v4 : Int32) (v5 : Int32) (v6 : Int32) (v8 : Int32) (v9 : Int32) (s0 : Int32) (o_me : Ob) (H : Heap) (locs : List Loc) (ls : Array Slot), bk_X9_be_141  rec_76_0 v1 v3 v4 v5 v6 v8 v9 s0 o_me = some y → Wd dC dI A s.heap [wX9 h_me q_me k_me o_me] H locs → lv_has ls 10 [(0, .ref h_me), (1, .int v1), (3, .int v3), (4, .int v4), (5, .int v5), (6, .int v6), (8, .int v8), (9, .int v9)] → W p l e ({ frames := 7, cells := 0, slots := 0, locals := 167 } : Room) s m ([.ref h_me, .int p0, .int p1, .int p2, .int p3] : List Value).toArray below meth c H locs 0 0 Qz (F0 m 141 ls [.int s0]) := by
    intro rec_76_0 hrec_76_0
    intro v1 v3 v4 v5 v6 v8 v9 s0 o_me H locs ls h hw hl
    unfold bk_X9_be_141 at h
    refine lv_istore (lv' := [(7, .int s0), (0, .ref h_me), (1, .int v1), (3, .int v3), (4, .int v4), (5, .int v5), (6, .int v6), (8, .int v8), (9, .int v9)]) hx hb dX9_be_141 hl (by decide) rfl (fun ls hl => ?_)
    refine lv_iload hx hb dX9_be_143 (lv_at hl 8 rfl) ?_
    refine lv_if_eq (tgt := 156) hx hb dX9_be_145 (by decide) (fun c => ?_) (fun c => ?_)
    · have h := z_t h c
      refine lv_iload hx hb dX9_be_156 (lv_at hl 6 rfl) ?_
      exact bk_158_5 rec_76_0 hrec_76_0 v1 v3 v4 v5 s0 v8 v6 o_me _ _ _ h hw (lv_sub hl [1, 2, 3, 4, 5, 0, 7] rfl)
    · have h := z_f h c
      refine lv_iload hx hb dX9_be_148 (lv_at hl 7 rfl) ?_
      obtain ⟨z11, ez11, h⟩ := z_bd h
      refine xj_i (xrS (As := [.int v8]) (rest := []) ⟨hx, hb, hml, hown, hts⟩ (m_X9_ones l dC dI _  v8 z11 ez11) kw1707 kw1705 kw1706 kw120 hd_X9_ones ⟨rfl, rfl⟩ rfl rfl ⟨rfl, rfl⟩ hX hK hw [] (by decide) rfl rfl hl.1 rfl rfl dX9_be_150) hw hA [] (by decide) rfl rfl (fun H locs hw => ?_)
      refine lv_goto (tgt := 158) hx hb dX9_be_153 (by decide) ?_
      exact bk_158_5 rec_76_0 hrec_76_0 v1 v3 v4 v5 s0 v8 z11 o_me _ _ _ h hw (lv_sub hl [1, 2, 3, 4, 5, 0, 7] rfl)
  have bk_127_3 : ∀ (rec_76_0 : Int32 × Int32 × Int32 × Int32 × Int32 × Int32 × Int32 × Ob → Option (Int32 × Ob)) (hrec_76_0 : ∀ (v1 : Int32) (v3 : Int32) (v4 : Int32) (v5 : Int32) (v6 : Int32) (v7 : Int32) (v8 : Int32) (o_me : Ob) (H : Heap) (locs : List Loc) (ls : Array Slot), rec_76_0 (v1, v3, v4, v5, v6, v7, v8, o_me) = some y → Wd dC dI A s.heap [wX9 h_me q_me k_me o_me] H locs → lv_has ls 10 [(0, .ref h_me), (1, .int v1), (3, .int v3), (4, .int v4), (5, .int v5), (6, .int v6), (7, .int v7), (8, .int v8)] → W p l e ({ frames := 7, cells := 0, slots := 0, locals := 167 } : Room) s m ([.ref h_me, .int p0, .int p1, .int p2, .int p3] : List Value).toArray below meth c H locs 0 0 Qz (F0 m 76 ls [])), ∀ (v1 : Int32) (v3 : Int32) (v4 : Int32) (v5 : Int32) (v6 : Int32) (v7 : Int32) (v8 : Int32) (s0 : Int32) (o_me : Ob) (H : Heap) (locs : List Loc) (ls : Array Slot), bk_X9_be_127  rec_76_0 v1 v3 v4 v5 v6 v7 v8 s0 o_me = some y → Wd dC dI A s.heap [wX9 h_me q_me k_me o_me] H locs → lv_has ls 10 [(0, .ref h_me), (1, .int v1), (3, .int v3), (4, .int v4), (5, .int v5), (6, .int v6), (7, .int v7), (8, .int v8)] → W p l e ({ frames := 7, cells := 0, slots := 0, locals := 167 } : Room) s m ([.ref h_me, .int p0, .int p1, .int p2, .int p3] : List Value).toArray below meth c H locs 0 0 Qz (F0 m 127 ls [.int s0]) := by
    intro rec_76_0 hrec_76_0
    intro v1 v3 v4 v5 v6 v7 v8 s0 o_me H locs ls h hw hl
    unfold bk_X9_be_127 at h
    refine lv_istore (lv' := [(9, .int s0), (0, .ref h_me), (1, .int v1), (3, .int v3), (4, .int v4), (5, .int v5), (6, .int v6), (7, .int v7), (8, .int v8)]) hx hb dX9_be_127 hl (by decide) rfl (fun ls hl => ?_)
    refine lv_iload hx hb dX9_be_129 (lv_at hl 0 rfl) ?_
    refine lv_if_eq (tgt := 139) hx hb dX9_be_131 (by decide) (fun c => ?_) (fun c => ?_)
    · have h := z_t h c
      refine lv_iload hx hb dX9_be_139 (lv_at hl 7 rfl) ?_
      exact bk_141_4 rec_76_0 hrec_76_0 v1 v3 v4 v5 v6 v8 s0 v7 o_me _ _ _ h hw (lv_sub hl [1, 2, 3, 4, 5, 6, 8, 0] rfl)
    · have h := z_f h c
      refine lv_iload hx hb dX9_be_134 (lv_at hl 8 rfl) ?_
      refine lv_goto (tgt := 141) hx hb dX9_be_136 (by decide) ?_
      exact bk_141_4 rec_76_0 hrec_76_0 v1 v3 v4 v5 v6 v8 s0 v8 o_me _ _ _ h hw (lv_sub hl [1, 2, 3, 4, 5, 6, 8, 0] rfl)
  have bk_126_2 : ∀ (rec_76_0 : Int32 × Int32 × Int32 × Int32 × Int32 × Int32 × Int32 × Ob → Option (Int32 × Ob)) (hrec_76_0 : ∀ (v1 : Int32) (v3 : Int32) (v4 : Int32) (v5 : Int32) (v6 : Int32) (v7 : Int32) (v8 : Int32) (o_me : Ob) (H : Heap) (locs : List Loc) (ls : Array Slot), rec_76_0 (v1, v3, v4, v5, v6, v7, v8, o_me) = some y → Wd dC dI A s.heap [wX9 h_me q_me k_me o_me] H locs → lv_has ls 10 [(0, .ref h_me), (1, .int v1), (3, .int v3), (4, .int v4), (5, .int v5), (6, .int v6), (7, .int v7), (8, .int v8)] → W p l e ({ frames := 7, cells := 0, slots := 0, locals := 167 } : Room) s m ([.ref h_me, .int p0, .int p1, .int p2, .int p3] : List Value).toArray below meth c H locs 0 0 Qz (F0 m 76 ls [])), ∀ (v1 : Int32) (v3 : Int32) (v4 : Int32) (v5 : Int32) (v6 : Int32) (v7 : Int32) (v8 : Int32) (o_me : Ob) (H : Heap) (locs : List Loc) (ls : Array Slot), bk_X9_be_126  rec_76_0 v1 v3 v4 v5 v6 v7 v8 o_me = some y → Wd dC dI A s.heap [wX9 h_me q_me k_me o_me] H locs → lv_has ls 10 [(0, .ref h_me), (1, .int v1), (3, .int v3), (4, .int v4), (5, .int v5), (6, .int v6), (7, .int v7), (8, .int v8)] → W p l e ({ frames := 7, cells := 0, slots := 0, locals := 167 } : Room) s m ([.ref h_me, .int p0, .int p1, .int p2, .int p3] : List Value).toArray below meth c H locs 0 0 Qz (F0 m 126 ls []) := by
    intro rec_76_0 hrec_76_0
    intro v1 v3 v4 v5 v6 v7 v8 o_me H locs ls h hw hl
    unfold bk_X9_be_126 at h
    refine lv_iconst (v := 0) hx hb dX9_be_126 (by decide) ?_
    exact bk_127_3 rec_76_0 hrec_76_0 v1 v3 v4 v5 v6 v7 v8 (0 : Int32) o_me _ _ _ h hw (lv_sub hl [0, 1, 2, 3, 4, 5, 6, 7] rfl)
  have lp_76_0 : ∀ (N : Nat), ∀ (v1 : Int32) (v3 : Int32) (v4 : Int32) (v5 : Int32) (v6 : Int32) (v7 : Int32) (v8 : Int32) (o_me : Ob) (H : Heap) (locs : List Loc) (ls : Array Slot), lp_X9_be_76   N (v1, v3, v4, v5, v6, v7, v8, o_me) = some y → Wd dC dI A s.heap [wX9 h_me q_me k_me o_me] H locs → lv_has ls 10 [(0, .ref h_me), (1, .int v1), (3, .int v3), (4, .int v4), (5, .int v5), (6, .int v6), (7, .int v7), (8, .int v8)] → W p l e ({ frames := 7, cells := 0, slots := 0, locals := 167 } : Room) s m ([.ref h_me, .int p0, .int p1, .int p2, .int p3] : List Value).toArray below meth c H locs 0 0 Qz (F0 m 76 ls []) := by
    intro N
    induction N with
    | zero =>
      intro v1 v3 v4 v5 v6 v7 v8 o_me H locs ls h hw hl
      exact absurd (show (none : Option (Int32 × Ob)) = some y from h) (by simp)
    | succ N ih =>
      intro v1 v3 v4 v5 v6 v7 v8 o_me H locs ls h hw hl
      have h : lb_X9_be_76   (lp_X9_be_76   N) v1 v3 v4 v5 v6 v7 v8 o_me = some y := h
      unfold lb_X9_be_76 at h
      refine lv_iload hx hb dX9_be_76 (lv_at hl 7 rfl) ?_
      refine lv_iconst (v := 1) hx hb dX9_be_78 (by decide) ?_
      refine lv_aload_n hx hb dX9_be_79 rfl (lv_at hl 0 rfl) ?_
      refine fgX9_3 hx hb hts hown hK hw 0 rfl kw1179 dX9_be_80 ?_
      refine lv_iconst (v := 0) hx hb dX9_be_83 (by decide) ?_
      refine faX9_3 hx hb hK hw 0 rfl rfl (by decide) dX9_be_84 ?_
      refine lv_ishl hx hb dX9_be_85 ?_
      refine lv_icmp_ge (tgt := 166) hx hb dX9_be_86 (by decide) (fun c => ?_) (fun c => ?_)
      · have h := z_t h c
        refine lv_iload hx hb dX9_be_166 (lv_at hl 6 rfl) ?_
        refine lv_iconst (v := (-1)) hx hb dX9_be_168 (by decide) ?_
        refine lv_icmp_eq (tgt := 178) hx hb dX9_be_169 (by decide) (fun c => ?_) (fun c => ?_)
        · have h := z_t h c
          exact bk_178_1  v7 o_me _ _ _ h hw (lv_sub hl [6] rfl)
        · have h := z_f h c
          refine lv_iload hx hb dX9_be_172 (lv_at hl 3 rfl) ?_
          refine lv_iconst (v := 1) hx hb dX9_be_174 (by decide) ?_
          refine lv_icmp_ne (tgt := 183) hx hb dX9_be_175 (by decide) (fun c => ?_) (fun c => ?_)
          · have h := z_f h c
            refine lv_iload hx hb dX9_be_183 (lv_at hl 5 rfl) ?_
            have hy := Option.some.inj h
            rw [← hQz, ← hy]
            exact xr_i (v := v6) hx hb hr rfl hlk hK hw dX9_be_185
          · have h := z_t h c
            exact bk_178_1  v7 o_me _ _ _ h hw (lv_sub hl [6] rfl)
      · have h := z_f h c
        refine lv_iload hx hb dX9_be_89 (lv_at hl 7 rfl) ?_
        refine lv_iload_n hx hb dX9_be_91 rfl (lv_at hl 1 rfl) ?_
        obtain ⟨z9, ez9, h⟩ := z_bd h
        refine xj_i (xrS (As := [.int v8, .int v1]) (rest := []) ⟨hx, hb, hml, hown, hts⟩ (m_X9_is l dC dI _  v8 v1 z9 ez9) kw1704 kw1702 kw1703 kw120 hd_X9_is ⟨rfl, rfl⟩ rfl rfl ⟨rfl, rfl⟩ hX hK hw [] (by decide) rfl rfl hl.1 rfl rfl dX9_be_92) hw hA [] (by decide) rfl rfl (fun H locs hw => ?_)
        refine lv_if_ne (tgt := 126) hx hb dX9_be_95 (by decide) (fun c => ?_) (fun c => ?_)
        · have h := z_f h c
          exact bk_126_2 (lp_X9_be_76   N) ih v1 v3 v4 v5 v6 v7 v8 o_me _ _ _ h hw (lv_sub hl [0, 1, 2, 3, 4, 5, 6, 7] rfl)
        · have h := z_t h c
          refine lv_iload hx hb dX9_be_98 (lv_at hl 7 rfl) ?_
          obtain ⟨z12, ez12, h⟩ := z_bd h
          refine xj_i (xrS (As := [.int v8]) (rest := []) ⟨hx, hb, hml, hown, hts⟩ (m_X9_ones l dC dI _  v8 z12 ez12) kw1707 kw1705 kw1706 kw120 hd_X9_ones ⟨rfl, rfl⟩ rfl rfl ⟨rfl, rfl⟩ hX hK hw [] (by decide) rfl rfl hl.1 rfl rfl dX9_be_100) hw hA [] (by decide) rfl rfl (fun H locs hw => ?_)
          refine lv_iload hx hb dX9_be_103 (lv_at hl 5 rfl) ?_
          refine lv_icmp_ge (tgt := 126) hx hb dX9_be_105 (by decide) (fun c => ?_) (fun c => ?_)
          · have h := z_t h c
            exact bk_126_2 (lp_X9_be_76   N) ih v1 v3 v4 v5 v6 v7 v8 o_me _ _ _ h hw (lv_sub hl [0, 1, 2, 3, 4, 5, 6, 7] rfl)
          · have h := z_f h c
            refine lv_aload_n hx hb dX9_be_108 rfl (lv_at hl 0 rfl) ?_
            refine lv_iload_n hx hb dX9_be_109 rfl (lv_at hl 1 rfl) ?_
            refine lv_iload hx hb dX9_be_110 (lv_at hl 4 rfl) ?_
            refine lv_iload hx hb dX9_be_112 (lv_at hl 7 rfl) ?_
            refine lv_ixor hx hb dX9_be_114 ?_
            obtain ⟨z13, ez13, h⟩ := z_bd h
            refine xj_i (xrV (As := [.int v1, .int (v5 ^^^ v8)]) (rest := []) ⟨hx, hb, hml, hown, hts⟩ (m_X9_placeOf l dC dI _ h_me q_me k_me o_me v1 (v5 ^^^ v8) z13 ez13) kw1711 kw1708 kw1710 kw91 kw120 hd_X9_placeOf ⟨rfl, rfl⟩ rfl rfl ⟨rfl, rfl⟩ hX hK hw [0] (by decide) rfl rfl rfl rfl rfl hl.1 rfl rfl dX9_be_115) hw hA [0] (by decide) rfl rfl (fun H locs hw => ?_)
            have hw : Wd dC dI A s.heap [wX9 h_me q_me k_me o_me] H locs := hw
            refine lv_iload_n hx hb dX9_be_118 rfl (lv_at hl 2 rfl) ?_
            refine lv_icmp_ne (tgt := 126) hx hb dX9_be_119 (by decide) (fun c => ?_) (fun c => ?_)
            · have h := z_f h c
              exact bk_126_2 (lp_X9_be_76   N) ih v1 v3 v4 v5 v6 v7 v8 o_me _ _ _ h hw (lv_sub hl [0, 1, 2, 3, 4, 5, 6, 7] rfl)
            · have h := z_t h c
              refine lv_iconst (v := 1) hx hb dX9_be_122 (by decide) ?_
              refine lv_goto (tgt := 127) hx hb dX9_be_123 (by decide) ?_
              exact bk_127_3 (lp_X9_be_76   N) ih v1 v3 v4 v5 v6 v7 v8 (1 : Int32) o_me _ _ _ h hw (lv_sub hl [0, 1, 2, 3, 4, 5, 6, 7] rfl)
  unfold f_X9_be at h
  refine lv_aload_n hx hb dX9_be_0 rfl (lv_at hl 0 rfl) ?_
  refine lv_iconst (v := 0) hx hb dX9_be_1 (by decide) ?_
  refine fpX9_0 hx hb hts hown hK hw 0 rfl kw1176 dX9_be_2 (fun H locs hw => ?_)
  obtain ⟨o1, eo1, h⟩ := z_lt h
  have hw : Wd dC dI A s.heap [wX9 h_me q_me k_me o1] H locs := by rw [eo1]; exact hw
  refine lv_aload_n hx hb dX9_be_5 rfl (lv_at hl 0 rfl) ?_
  refine lv_iload_n hx hb dX9_be_6 rfl (lv_at hl 1 rfl) ?_
  obtain ⟨z2, ez2, h⟩ := z_bd h
  refine xj_i (xrV (As := [.int p0]) (rest := []) ⟨hx, hb, hml, hown, hts⟩ (m_X9_isPerson l dC dI _ h_me q_me k_me o1 p0 z2 ez2) kw1402 kw1399 kw1401 kw42 kw120 hd_X9_isPerson ⟨rfl, rfl⟩ rfl rfl ⟨rfl, rfl⟩ hX hK hw [0] (by decide) rfl rfl rfl rfl rfl hl.1 rfl rfl dX9_be_7) hw hA [0] (by decide) rfl rfl (fun H locs hw => ?_)
  have hw : Wd dC dI A s.heap [wX9 h_me q_me k_me o1] H locs := hw
  refine lv_if_eq (tgt := 52) hx hb dX9_be_10 (by decide) (fun c => ?_) (fun c => ?_)
  · have h := z_t h c
    refine lv_iconst (v := (-1)) hx hb dX9_be_52 (by decide) ?_
    have hy := Option.some.inj h
    rw [← hQz, ← hy]
    exact xr_i (v := (-1 : Int32)) hx hb hr rfl hlk hK hw dX9_be_53
  · have h := z_f h c
    refine lv_iload_n hx hb dX9_be_13 rfl (lv_at hl 2 rfl) ?_
    obtain ⟨z3, ez3, h⟩ := z_bd h
    refine xj_i (xrS (As := [.int p1]) (rest := []) ⟨hx, hb, hml, hown, hts⟩ (m_X9_isRace l dC dI _  p1 z3 ez3) kw1444 kw1442 kw1443 kw120 hd_X9_isRace ⟨rfl, rfl⟩ rfl rfl ⟨rfl, rfl⟩ hX hK hw [] (by decide) rfl rfl hl.1 rfl rfl dX9_be_14) hw hA [] (by decide) rfl rfl (fun H locs hw => ?_)
    refine lv_if_eq (tgt := 52) hx hb dX9_be_17 (by decide) (fun c => ?_) (fun c => ?_)
    · have h := z_t h c
      refine lv_iconst (v := (-1)) hx hb dX9_be_52 (by decide) ?_
      have hy := Option.some.inj h
      rw [← hQz, ← hy]
      exact xr_i (v := (-1 : Int32)) hx hb hr rfl hlk hK hw dX9_be_53
    · have h := z_f h c
      refine lv_iload_n hx hb dX9_be_20 rfl (lv_at hl 3 rfl) ?_
      refine lv_i2l hx hb dX9_be_21 rfl ?_
      refine lv_lconst (v := 1) hx hb dX9_be_22 (by decide) ?_
      refine lv_ldc2 (v := 7) hx hb hown (hts _ kw1458) dX9_be_23 ?_
      obtain ⟨z4, ez4, h⟩ := z_bd h
      refine xj_i (xrS (As := [.long p2.toInt64, .long (1 : Int64), .long (7 : Int64)]) (rest := []) ⟨hx, hb, hml, hown, hts⟩ (m_X9_in l dC dI _  p2.toInt64 (1 : Int64) (7 : Int64) z4 ez4) kw1385 kw1383 kw1384 kw120 hd_X9_in ⟨rfl, rfl⟩ rfl rfl ⟨rfl, rfl⟩ hX hK hw [] (by decide) rfl rfl hl.1 rfl rfl dX9_be_26) hw hA [] (by decide) rfl rfl (fun H locs hw => ?_)
      refine lv_if_eq (tgt := 52) hx hb dX9_be_29 (by decide) (fun c => ?_) (fun c => ?_)
      · have h := z_t h c
        refine lv_iconst (v := (-1)) hx hb dX9_be_52 (by decide) ?_
        have hy := Option.some.inj h
        rw [← hQz, ← hy]
        exact xr_i (v := (-1 : Int32)) hx hb hr rfl hlk hK hw dX9_be_53
      · have h := z_f h c
        refine lv_iload hx hb dX9_be_32 (lv_at hl 4 rfl) ?_
        refine lv_i2l hx hb dX9_be_34 rfl ?_
        refine lv_lconst (v := 0) hx hb dX9_be_35 (by decide) ?_
        refine lv_lconst (v := 1) hx hb dX9_be_36 (by decide) ?_
        obtain ⟨z5, ez5, h⟩ := z_bd h
        refine xj_i (xrS (As := [.long p3.toInt64, .long (0 : Int64), .long (1 : Int64)]) (rest := []) ⟨hx, hb, hml, hown, hts⟩ (m_X9_in l dC dI _  p3.toInt64 (0 : Int64) (1 : Int64) z5 ez5) kw1385 kw1383 kw1384 kw120 hd_X9_in ⟨rfl, rfl⟩ rfl rfl ⟨rfl, rfl⟩ hX hK hw [] (by decide) rfl rfl hl.1 rfl rfl dX9_be_37) hw hA [] (by decide) rfl rfl (fun H locs hw => ?_)
        refine lv_if_eq (tgt := 52) hx hb dX9_be_40 (by decide) (fun c => ?_) (fun c => ?_)
        · have h := z_t h c
          refine lv_iconst (v := (-1)) hx hb dX9_be_52 (by decide) ?_
          have hy := Option.some.inj h
          rw [← hQz, ← hy]
          exact xr_i (v := (-1 : Int32)) hx hb hr rfl hlk hK hw dX9_be_53
        · have h := z_f h c
          refine lv_aload_n hx hb dX9_be_43 rfl (lv_at hl 0 rfl) ?_
          refine lv_iload_n hx hb dX9_be_44 rfl (lv_at hl 1 rfl) ?_
          refine lv_iload_n hx hb dX9_be_45 rfl (lv_at hl 2 rfl) ?_
          obtain ⟨z6, ez6, h⟩ := z_bd h
          refine xj_i (xrV (As := [.int p0, .int p1]) (rest := []) ⟨hx, hb, hml, hown, hts⟩ (m_X9_isBarred l dC dI _ h_me q_me k_me o1 p0 p1 z6 ez6) kw1437 kw1434 kw1436 kw48 kw120 hd_X9_isBarred ⟨rfl, rfl⟩ rfl rfl ⟨rfl, rfl⟩ hX hK hw [0] (by decide) rfl rfl rfl rfl rfl hl.1 rfl rfl dX9_be_46) hw hA [0] (by decide) rfl rfl (fun H locs hw => ?_)
          have hw : Wd dC dI A s.heap [wX9 h_me q_me k_me z6.2] H locs := hw
          refine lv_if_eq (tgt := 54) hx hb dX9_be_49 (by decide) (fun c => ?_) (fun c => ?_)
          · have h := z_t h c
            refine lv_aload_n hx hb dX9_be_54 rfl (lv_at hl 0 rfl) ?_
            refine lv_iload_n hx hb dX9_be_55 rfl (lv_at hl 2 rfl) ?_
            obtain ⟨z7, ez7, h⟩ := z_bd h
            refine xj_v (xrV (As := [.int p1]) (rest := []) ⟨hx, hb, hml, hown, hts⟩ (m_X9_layRuns l dC dI _ h_me q_me k_me z6.2 p1 z7 ez7) kw1696 kw1693 kw1695 kw89 kw120 hd_X9_layRuns ⟨rfl, rfl⟩ rfl rfl ⟨rfl, rfl⟩ hX hK hw [0] (by decide) rfl rfl rfl rfl rfl hl.1 rfl rfl dX9_be_56) hw hA [0] (by decide) rfl rfl (fun H locs hw => ?_)
            have hw : Wd dC dI A s.heap [wX9 h_me q_me k_me z7] H locs := hw
            refine lv_aload_n hx hb dX9_be_59 rfl (lv_at hl 0 rfl) ?_
            obtain ⟨z8, ez8, h⟩ := z_bd h
            refine xj_i (xrV (As := []) (rest := []) ⟨hx, hb, hml, hown, hts⟩ (m_X9_enteredBits l dC dI _ h_me q_me k_me z7 z8 ez8) kw1700 kw1697 kw1699 kw90 kw120 hd_X9_enteredBits ⟨rfl, rfl⟩ rfl rfl ⟨rfl, rfl⟩ hX hK hw [0] (by decide) rfl rfl rfl rfl rfl hl.1 rfl rfl dX9_be_60) hw hA [0] (by decide) rfl rfl (fun H locs hw => ?_)
            have hw : Wd dC dI A s.heap [wX9 h_me q_me k_me z7] H locs := hw
            refine lv_istore (lv' := [(5, .int z8), (0, .ref h_me), (1, .int p0), (2, .int p1), (3, .int p2), (4, .int p3)]) hx hb dX9_be_63 hl (by decide) rfl (fun ls hl => ?_)
            refine lv_ldcw (v := 100000000) hx hb hown (hts _ kw1701) dX9_be_65 ?_
            refine lv_istore (lv' := [(6, .int (100000000 : Int32)), (5, .int z8), (0, .ref h_me), (1, .int p0), (2, .int p1), (3, .int p2), (4, .int p3)]) hx hb dX9_be_68 hl (by decide) rfl (fun ls hl => ?_)
            refine lv_iconst (v := (-1)) hx hb dX9_be_70 (by decide) ?_
            refine lv_istore (lv' := [(7, .int (-1 : Int32)), (6, .int (100000000 : Int32)), (5, .int z8), (0, .ref h_me), (1, .int p0), (2, .int p1), (3, .int p2), (4, .int p3)]) hx hb dX9_be_71 hl (by decide) rfl (fun ls hl => ?_)
            refine lv_iconst (v := 0) hx hb dX9_be_73 (by decide) ?_
            refine lv_istore (lv' := [(8, .int (0 : Int32)), (7, .int (-1 : Int32)), (6, .int (100000000 : Int32)), (5, .int z8), (0, .ref h_me), (1, .int p0), (2, .int p1), (3, .int p2), (4, .int p3)]) hx hb dX9_be_74 hl (by decide) rfl (fun ls hl => ?_)
            exact lp_76_0  zfu p0 p2 p3 z8 (100000000 : Int32) (-1 : Int32) (0 : Int32) z7 _ _ _ h hw (lv_sub hl [4, 5, 7, 8, 3, 2, 1, 0] rfl)
          · have h := z_f h c
            refine lv_iconst (v := (-1)) hx hb dX9_be_52 (by decide) ?_
            have hy := Option.some.inj h
            rw [← hQz, ← hy]
            exact xr_i (v := (-1 : Int32)) hx hb hr rfl hlk hK hw dX9_be_53

def bk_X9_beats_20   (o_me : Ob) : Option (Int32 × Ob) :=
  (f_X9_tell o_me (-1 : Int32)).bind fun z2 =>
  some (z2.1, z2.2)
def bk_X9_beats_42   (o_me : Ob) : Option (Int32 × Ob) :=
  (f_X9_tell o_me (-2 : Int32)).bind fun z5 =>
  some (z5.1, z5.2)
def bk_X9_beats_87   (v4 : Int32) (s0 : Int32) (s1 : Int32) (s2 : Int32) (o_me : Ob) : Option (Int32 × Ob) :=
  zgd (zin s2 5484) <|
  zlt (tA o_me 3 s2.toNatClampNeg (s1 ^^^ s0)) fun o12 =>
  (f_X9_tell o12 v4).bind fun z13 =>
  some (z13.1, z13.2)
def f_X9_beats (o_me : Ob) (p0 : Int32) (p1 : Int32) (p2 : Int32) : Option (Int32 × Ob) :=
  zlt (sI o_me 0 (0 : Int32)) fun o1 =>
  if p0 = p1 then
  (bk_X9_beats_20   o1)
  else
  ((f_X9_in p2.toInt64 (0 : Int64) (1 : Int64)).bind fun z3 =>
  if z3 = (0 : Int32) then
  (bk_X9_beats_20   o1)
  else
  ((f_X9_isPerson o1 p0).bind fun z4 =>
  if z4 = (0 : Int32) then
  (bk_X9_beats_42   o1)
  else
  ((f_X9_isPerson o1 p1).bind fun z6 =>
  if z6 = (0 : Int32) then
  (bk_X9_beats_42   o1)
  else
  (zgd (zin ((64 : Int32) + p0) 5484) <|
  zlt (((gA o1 3 ((64 : Int32) + p0).toNatClampNeg) >>> (p1 &&& 31)) &&& (1 : Int32)) fun x8 =>
  zlt ((64 : Int32) + p0) fun x9 =>
  zgd (zin x9 5484) <|
  if x8 = p2 then
  (bk_X9_beats_87   x8 (0 : Int32) (gA o1 3 x9.toNatClampNeg) x9 o1)
  else
  (bk_X9_beats_87   x8 ((1 : Int32) <<< (p1 &&& 31)) (gA o1 3 x9.toNatClampNeg) x9 o1)))))
set_option maxHeartbeats 4000000 in
set_option maxRecDepth 100000 in
theorem m_X9_beats (l : Launch) (dC : Nat → ClassId) (dI : Nat → Nat → Nat) (sz : Nat) (h_me : Nat) (q_me : Nat → Nat) (k_me : Nat → ClassId) (o_me : Ob) (p0 : Int32) (p1 : Int32) (p2 : Int32) (y : Int32 × Ob) (h : f_X9_beats o_me p0 p1 p2 = some y) : CI l yX9_beats cX9_beats 5 (some .int) ({ frames := 2, cells := 0, slots := 0, locals := 46 } : Room) dC dI sz [.ref h_me, .int p0, .int p1, .int p2] [wX9 h_me q_me k_me o_me] [tX9 k_me] y.1 [wX9 h_me q_me k_me y.2] := by
  refine CC_of (by decide) (Nat.le_of_ble_eq_true rfl) ?_
  intro p e s m below meth c A ls hx hb hml hr hlk hnm hown hts hX hK hP hD hA hl
  have hl : lv_has ls 5 [(0, .ref h_me), (1, .int p0), (2, .int p1), (3, .int p2)] := hl
  have hown : s.vm.findClass RX9 = some m.cls := hown
  have hw : Wd dC dI A s.heap [wX9 h_me q_me k_me o_me] s.heap [] := ⟨hP, hD, va_S.rf⟩
  generalize hQz : (MQ below (QI dC dI (fun r (_ : Unit) => r = y.1) (fun _ => Jn [wX9 h_me q_me k_me y.2]) (fun _ => Jt [tX9 k_me]) A) ([.ref h_me, .int p0, .int p1, .int p2] : List Value).toArray s 0 0 A) = Qz
  clear hP hD hnm
  have bk_20_0 : ∀ (o_me : Ob) (H : Heap) (locs : List Loc) (ls : Array Slot), bk_X9_beats_20   o_me = some y → Wd dC dI A s.heap [wX9 h_me q_me k_me o_me] H locs → lv_has ls 5 [(0, .ref h_me)] → W p l e ({ frames := 2, cells := 0, slots := 0, locals := 46 } : Room) s m ([.ref h_me, .int p0, .int p1, .int p2] : List Value).toArray below meth c H locs 0 0 Qz (F0 m 20 ls []) := by
    intro o_me H locs ls h hw hl
    unfold bk_X9_beats_20 at h
    refine lv_aload_n hx hb dX9_beats_20 rfl (lv_at hl 0 rfl) ?_
    refine lv_iconst (v := (-1)) hx hb dX9_beats_21 (by decide) ?_
    obtain ⟨z2, ez2, h⟩ := z_bd h
    refine xj_i (xrV (As := [.int (-1 : Int32)]) (rest := []) ⟨hx, hb, hml, hown, hts⟩ (m_X9_tell l dC dI _ h_me q_me k_me o_me (-1 : Int32) z2 ez2) kw1374 kw1371 kw1373 kw39 kw120 hd_X9_tell ⟨rfl, rfl⟩ rfl rfl ⟨rfl, rfl⟩ hX hK hw [0] (by decide) rfl rfl rfl rfl rfl hl.1 rfl rfl dX9_beats_22) hw hA [0] (by decide) rfl rfl (fun H locs hw => ?_)
    have hw : Wd dC dI A s.heap [wX9 h_me q_me k_me z2.2] H locs := hw
    have hy := Option.some.inj h
    rw [← hQz, ← hy]
    exact xr_i (v := z2.1) hx hb hr rfl hlk hK hw dX9_beats_25
  have bk_42_1 : ∀ (o_me : Ob) (H : Heap) (locs : List Loc) (ls : Array Slot), bk_X9_beats_42   o_me = some y → Wd dC dI A s.heap [wX9 h_me q_me k_me o_me] H locs → lv_has ls 5 [(0, .ref h_me)] → W p l e ({ frames := 2, cells := 0, slots := 0, locals := 46 } : Room) s m ([.ref h_me, .int p0, .int p1, .int p2] : List Value).toArray below meth c H locs 0 0 Qz (F0 m 42 ls []) := by
    intro o_me H locs ls h hw hl
    unfold bk_X9_beats_42 at h
    refine lv_aload_n hx hb dX9_beats_42 rfl (lv_at hl 0 rfl) ?_
    refine lv_bipush (v := (-2)) hx hb dX9_beats_43 (by decide) ?_
    obtain ⟨z5, ez5, h⟩ := z_bd h
    refine xj_i (xrV (As := [.int (-2 : Int32)]) (rest := []) ⟨hx, hb, hml, hown, hts⟩ (m_X9_tell l dC dI _ h_me q_me k_me o_me (-2 : Int32) z5 ez5) kw1374 kw1371 kw1373 kw39 kw120 hd_X9_tell ⟨rfl, rfl⟩ rfl rfl ⟨rfl, rfl⟩ hX hK hw [0] (by decide) rfl rfl rfl rfl rfl hl.1 rfl rfl dX9_beats_45) hw hA [0] (by decide) rfl rfl (fun H locs hw => ?_)
    have hw : Wd dC dI A s.heap [wX9 h_me q_me k_me z5.2] H locs := hw
    have hy := Option.some.inj h
    rw [← hQz, ← hy]
    exact xr_i (v := z5.1) hx hb hr rfl hlk hK hw dX9_beats_48
  have bk_87_2 : ∀ (v4 : Int32) (s0 : Int32) (s1 : Int32) (s2 : Int32) (o_me : Ob) (H : Heap) (locs : List Loc) (ls : Array Slot), bk_X9_beats_87   v4 s0 s1 s2 o_me = some y → Wd dC dI A s.heap [wX9 h_me q_me k_me o_me] H locs → lv_has ls 5 [(0, .ref h_me), (4, .int v4)] → W p l e ({ frames := 2, cells := 0, slots := 0, locals := 46 } : Room) s m ([.ref h_me, .int p0, .int p1, .int p2] : List Value).toArray below meth c H locs 0 0 Qz (F0 m 87 ls [.int s0, .int s1, .int s2, .ref (q_me 3)]) := by
    intro v4 s0 s1 s2 o_me H locs ls h hw hl
    unfold bk_X9_beats_87 at h
    refine lv_ixor hx hb dX9_beats_87 ?_
    obtain ⟨g11, h⟩ := z_gd h
    refine fbX9_3 hx hb hK hw 0 rfl rfl g11 dX9_beats_88 (fun H locs hw => ?_)
    obtain ⟨o12, eo12, h⟩ := z_lt h
    have hw : Wd dC dI A s.heap [wX9 h_me q_me k_me o12] H locs := by rw [eo12]; exact hw
    refine lv_aload_n hx hb dX9_beats_89 rfl (lv_at hl 0 rfl) ?_
    refine lv_iload hx hb dX9_beats_90 (lv_at hl 1 rfl) ?_
    obtain ⟨z13, ez13, h⟩ := z_bd h
    refine xj_i (xrV (As := [.int v4]) (rest := []) ⟨hx, hb, hml, hown, hts⟩ (m_X9_tell l dC dI _ h_me q_me k_me o12 v4 z13 ez13) kw1374 kw1371 kw1373 kw39 kw120 hd_X9_tell ⟨rfl, rfl⟩ rfl rfl ⟨rfl, rfl⟩ hX hK hw [0] (by decide) rfl rfl rfl rfl rfl hl.1 rfl rfl dX9_beats_92) hw hA [0] (by decide) rfl rfl (fun H locs hw => ?_)
    have hw : Wd dC dI A s.heap [wX9 h_me q_me k_me z13.2] H locs := hw
    have hy := Option.some.inj h
    rw [← hQz, ← hy]
    exact xr_i (v := z13.1) hx hb hr rfl hlk hK hw dX9_beats_95
  unfold f_X9_beats at h
  refine lv_aload_n hx hb dX9_beats_0 rfl (lv_at hl 0 rfl) ?_
  refine lv_iconst (v := 0) hx hb dX9_beats_1 (by decide) ?_
  refine fpX9_0 hx hb hts hown hK hw 0 rfl kw1176 dX9_beats_2 (fun H locs hw => ?_)
  obtain ⟨o1, eo1, h⟩ := z_lt h
  have hw : Wd dC dI A s.heap [wX9 h_me q_me k_me o1] H locs := by rw [eo1]; exact hw
  refine lv_iload_n hx hb dX9_beats_5 rfl (lv_at hl 1 rfl) ?_
  refine lv_iload_n hx hb dX9_beats_6 rfl (lv_at hl 2 rfl) ?_
  refine lv_icmp_eq (tgt := 20) hx hb dX9_beats_7 (by decide) (fun c => ?_) (fun c => ?_)
  · have h := z_t h c
    exact bk_20_0  o1 _ _ _ h hw (lv_sub hl [0] rfl)
  · have h := z_f h c
    refine lv_iload_n hx hb dX9_beats_10 rfl (lv_at hl 3 rfl) ?_
    refine lv_i2l hx hb dX9_beats_11 rfl ?_
    refine lv_lconst (v := 0) hx hb dX9_beats_12 (by decide) ?_
    refine lv_lconst (v := 1) hx hb dX9_beats_13 (by decide) ?_
    obtain ⟨z3, ez3, h⟩ := z_bd h
    refine xj_i (xrS (As := [.long p2.toInt64, .long (0 : Int64), .long (1 : Int64)]) (rest := []) ⟨hx, hb, hml, hown, hts⟩ (m_X9_in l dC dI _  p2.toInt64 (0 : Int64) (1 : Int64) z3 ez3) kw1385 kw1383 kw1384 kw120 hd_X9_in ⟨rfl, rfl⟩ rfl rfl ⟨rfl, rfl⟩ hX hK hw [] (by decide) rfl rfl hl.1 rfl rfl dX9_beats_14) hw hA [] (by decide) rfl rfl (fun H locs hw => ?_)
    refine lv_if_ne (tgt := 26) hx hb dX9_beats_17 (by decide) (fun c => ?_) (fun c => ?_)
    · have h := z_f h c
      refine lv_aload_n hx hb dX9_beats_26 rfl (lv_at hl 0 rfl) ?_
      refine lv_iload_n hx hb dX9_beats_27 rfl (lv_at hl 1 rfl) ?_
      obtain ⟨z4, ez4, h⟩ := z_bd h
      refine xj_i (xrV (As := [.int p0]) (rest := []) ⟨hx, hb, hml, hown, hts⟩ (m_X9_isPerson l dC dI _ h_me q_me k_me o1 p0 z4 ez4) kw1402 kw1399 kw1401 kw42 kw120 hd_X9_isPerson ⟨rfl, rfl⟩ rfl rfl ⟨rfl, rfl⟩ hX hK hw [0] (by decide) rfl rfl rfl rfl rfl hl.1 rfl rfl dX9_beats_28) hw hA [0] (by decide) rfl rfl (fun H locs hw => ?_)
      have hw : Wd dC dI A s.heap [wX9 h_me q_me k_me o1] H locs := hw
      refine lv_if_eq (tgt := 42) hx hb dX9_beats_31 (by decide) (fun c => ?_) (fun c => ?_)
      · have h := z_t h c
        exact bk_42_1  o1 _ _ _ h hw (lv_sub hl [0] rfl)
      · have h := z_f h c
        refine lv_aload_n hx hb dX9_beats_34 rfl (lv_at hl 0 rfl) ?_
        refine lv_iload_n hx hb dX9_beats_35 rfl (lv_at hl 2 rfl) ?_
        obtain ⟨z6, ez6, h⟩ := z_bd h
        refine xj_i (xrV (As := [.int p1]) (rest := []) ⟨hx, hb, hml, hown, hts⟩ (m_X9_isPerson l dC dI _ h_me q_me k_me o1 p1 z6 ez6) kw1402 kw1399 kw1401 kw42 kw120 hd_X9_isPerson ⟨rfl, rfl⟩ rfl rfl ⟨rfl, rfl⟩ hX hK hw [0] (by decide) rfl rfl rfl rfl rfl hl.1 rfl rfl dX9_beats_36) hw hA [0] (by decide) rfl rfl (fun H locs hw => ?_)
        have hw : Wd dC dI A s.heap [wX9 h_me q_me k_me o1] H locs := hw
        refine lv_if_ne (tgt := 49) hx hb dX9_beats_39 (by decide) (fun c => ?_) (fun c => ?_)
        · have h := z_f h c
          refine lv_aload_n hx hb dX9_beats_49 rfl (lv_at hl 0 rfl) ?_
          refine fgX9_3 hx hb hts hown hK hw 0 rfl kw1179 dX9_beats_50 ?_
          refine lv_bipush (v := 64) hx hb dX9_beats_53 (by decide) ?_
          refine lv_iload_n hx hb dX9_beats_55 rfl (lv_at hl 1 rfl) ?_
          refine lv_iadd hx hb dX9_beats_56 ?_
          obtain ⟨g7, h⟩ := z_gd h
          refine faX9_3 hx hb hK hw 0 rfl rfl g7 dX9_beats_57 ?_
          refine lv_iload_n hx hb dX9_beats_58 rfl (lv_at hl 2 rfl) ?_
          refine lv_ishr hx hb dX9_beats_59 ?_
          refine lv_iconst (v := 1) hx hb dX9_beats_60 (by decide) ?_
          refine lv_iand hx hb dX9_beats_61 ?_
          obtain ⟨x8, ex8, h⟩ := z_lt h
          refine lv_fi (v := x8) ex8.symm ?_
          refine lv_istore (lv' := [(4, .int x8), (0, .ref h_me), (1, .int p0), (2, .int p1), (3, .int p2)]) hx hb dX9_beats_62 hl (by decide) rfl (fun ls hl => ?_)
          refine lv_aload_n hx hb dX9_beats_64 rfl (lv_at hl 1 rfl) ?_
          refine fgX9_3 hx hb hts hown hK hw 0 rfl kw1179 dX9_beats_65 ?_
          refine lv_bipush (v := 64) hx hb dX9_beats_68 (by decide) ?_
          refine lv_iload_n hx hb dX9_beats_70 rfl (lv_at hl 2 rfl) ?_
          refine lv_iadd hx hb dX9_beats_71 ?_
          obtain ⟨x9, ex9, h⟩ := z_lt h
          refine lv_fi (v := x9) ex9.symm ?_
          refine lv_dup2_11 hx hb dX9_beats_72 rfl rfl ?_
          obtain ⟨g10, h⟩ := z_gd h
          refine faX9_3 hx hb hK hw 0 rfl rfl g10 dX9_beats_73 ?_
          refine lv_iload hx hb dX9_beats_74 (lv_at hl 0 rfl) ?_
          refine lv_iload_n hx hb dX9_beats_76 rfl (lv_at hl 4 rfl) ?_
          refine lv_icmp_ne (tgt := 84) hx hb dX9_beats_77 (by decide) (fun c => ?_) (fun c => ?_)
          · have h := z_f h c
            refine lv_iconst (v := 1) hx hb dX9_beats_84 (by decide) ?_
            refine lv_iload_n hx hb dX9_beats_85 rfl (lv_at hl 3 rfl) ?_
            refine lv_ishl hx hb dX9_beats_86 ?_
            exact bk_87_2  x8 ((1 : Int32) <<< (p1 &&& 31)) (gA o1 3 x9.toNatClampNeg) x9 o1 _ _ _ h hw (lv_sub hl [1, 0] rfl)
          · have h := z_t h c
            refine lv_iconst (v := 0) hx hb dX9_beats_80 (by decide) ?_
            refine lv_goto (tgt := 87) hx hb dX9_beats_81 (by decide) ?_
            exact bk_87_2  x8 (0 : Int32) (gA o1 3 x9.toNatClampNeg) x9 o1 _ _ _ h hw (lv_sub hl [1, 0] rfl)
        · have h := z_t h c
          exact bk_42_1  o1 _ _ _ h hw (lv_sub hl [0] rfl)
    · have h := z_t h c
      exact bk_20_0  o1 _ _ _ h hw (lv_sub hl [0] rfl)

def f_X9_isSmall (p0 : Int32) : Option (Int32) :=
  if p0 < (97 : Int32) then
  (some (0 : Int32))
  else
  (if (122 : Int32) < p0 then
  (some (0 : Int32))
  else
  (some (1 : Int32)))
set_option maxHeartbeats 4000000 in
set_option maxRecDepth 100000 in
theorem m_X9_isSmall (l : Launch) (dC : Nat → ClassId) (dI : Nat → Nat → Nat) (sz : Nat)  (p0 : Int32) (y : Int32) (h : f_X9_isSmall p0 = some y) : CI l yX9_isSmall cX9_isSmall 1 (some .boolean) ({ frames := 0, cells := 0, slots := 0, locals := 0 } : Room) dC dI sz [.int p0] [] [] y [] := by
  refine CC_of (by decide) (Nat.le_of_ble_eq_true rfl) ?_
  intro p e s m below meth c A ls hx hb hml hr hlk hnm hown hts hX hK hP hD hA hl
  have hl : lv_has ls 1 [(0, .int p0)] := hl
  have hown : s.vm.findClass RX9 = some m.cls := hown
  have hw : Wd dC dI A s.heap [] s.heap [] := ⟨hP, hD, va_S.rf⟩
  generalize hQz : (MQ below (QI dC dI (fun r (_ : Unit) => r = y) (fun _ => Jn []) (fun _ => Jt []) A) ([.int p0] : List Value).toArray s 0 0 A) = Qz
  clear hP hD hnm
  unfold f_X9_isSmall at h
  refine lv_iload_n hx hb dX9_isSmall_0 rfl (lv_at hl 0 rfl) ?_
  refine lv_bipush (v := 97) hx hb dX9_isSmall_1 (by decide) ?_
  refine lv_icmp_lt (tgt := 16) hx hb dX9_isSmall_3 (by decide) (fun c => ?_) (fun c => ?_)
  · have h := z_t h c
    refine lv_iconst (v := 0) hx hb dX9_isSmall_16 (by decide) ?_
    have hy := Option.some.inj h
    rw [← hQz, ← hy]
    exact xr_i (v := (0 : Int32)) hx hb hr rfl hlk hK hw dX9_isSmall_17
  · have h := z_f h c
    refine lv_iload_n hx hb dX9_isSmall_6 rfl (lv_at hl 0 rfl) ?_
    refine lv_bipush (v := 122) hx hb dX9_isSmall_7 (by decide) ?_
    refine lv_icmp_gt (tgt := 16) hx hb dX9_isSmall_9 (by decide) (fun c => ?_) (fun c => ?_)
    · have h := z_t h c
      refine lv_iconst (v := 0) hx hb dX9_isSmall_16 (by decide) ?_
      have hy := Option.some.inj h
      rw [← hQz, ← hy]
      exact xr_i (v := (0 : Int32)) hx hb hr rfl hlk hK hw dX9_isSmall_17
    · have h := z_f h c
      refine lv_iconst (v := 1) hx hb dX9_isSmall_12 (by decide) ?_
      refine lv_goto (tgt := 17) hx hb dX9_isSmall_13 (by decide) ?_
      have hy := Option.some.inj h
      rw [← hQz, ← hy]
      exact xr_i (v := (1 : Int32)) hx hb hr rfl hlk hK hw dX9_isSmall_17

def f_X9_isDigit (p0 : Int32) : Option (Int32) :=
  if p0 < (48 : Int32) then
  (some (0 : Int32))
  else
  (if (57 : Int32) < p0 then
  (some (0 : Int32))
  else
  (some (1 : Int32)))
set_option maxHeartbeats 4000000 in
set_option maxRecDepth 100000 in
theorem m_X9_isDigit (l : Launch) (dC : Nat → ClassId) (dI : Nat → Nat → Nat) (sz : Nat)  (p0 : Int32) (y : Int32) (h : f_X9_isDigit p0 = some y) : CI l yX9_isDigit cX9_isDigit 1 (some .boolean) ({ frames := 0, cells := 0, slots := 0, locals := 0 } : Room) dC dI sz [.int p0] [] [] y [] := by
  refine CC_of (by decide) (Nat.le_of_ble_eq_true rfl) ?_
  intro p e s m below meth c A ls hx hb hml hr hlk hnm hown hts hX hK hP hD hA hl
  have hl : lv_has ls 1 [(0, .int p0)] := hl
  have hown : s.vm.findClass RX9 = some m.cls := hown
  have hw : Wd dC dI A s.heap [] s.heap [] := ⟨hP, hD, va_S.rf⟩
  generalize hQz : (MQ below (QI dC dI (fun r (_ : Unit) => r = y) (fun _ => Jn []) (fun _ => Jt []) A) ([.int p0] : List Value).toArray s 0 0 A) = Qz
  clear hP hD hnm
  unfold f_X9_isDigit at h
  refine lv_iload_n hx hb dX9_isDigit_0 rfl (lv_at hl 0 rfl) ?_
  refine lv_bipush (v := 48) hx hb dX9_isDigit_1 (by decide) ?_
  refine lv_icmp_lt (tgt := 16) hx hb dX9_isDigit_3 (by decide) (fun c => ?_) (fun c => ?_)
  · have h := z_t h c
    refine lv_iconst (v := 0) hx hb dX9_isDigit_16 (by decide) ?_
    have hy := Option.some.inj h
    rw [← hQz, ← hy]
    exact xr_i (v := (0 : Int32)) hx hb hr rfl hlk hK hw dX9_isDigit_17
  · have h := z_f h c
    refine lv_iload_n hx hb dX9_isDigit_6 rfl (lv_at hl 0 rfl) ?_
    refine lv_bipush (v := 57) hx hb dX9_isDigit_7 (by decide) ?_
    refine lv_icmp_gt (tgt := 16) hx hb dX9_isDigit_9 (by decide) (fun c => ?_) (fun c => ?_)
    · have h := z_t h c
      refine lv_iconst (v := 0) hx hb dX9_isDigit_16 (by decide) ?_
      have hy := Option.some.inj h
      rw [← hQz, ← hy]
      exact xr_i (v := (0 : Int32)) hx hb hr rfl hlk hK hw dX9_isDigit_17
    · have h := z_f h c
      refine lv_iconst (v := 1) hx hb dX9_isDigit_12 (by decide) ?_
      refine lv_goto (tgt := 17) hx hb dX9_isDigit_13 (by decide) ?_
      have hy := Option.some.inj h
      rw [← hQz, ← hy]
      exact xr_i (v := (1 : Int32)) hx hb hr rfl hlk hK hw dX9_isDigit_17

def bk_X9_next_319  (rec_243_4 : Ob → Option (Ob)) (s0 : Int64) (o_me : Ob) : Option (Ob) :=
  zlt (sL o_me 17 s0) fun o12 =>
  zlt (sI o12 15 ((gI o12 15) + (1 : Int32))) fun o13 =>
  rec_243_4 o13
def lb_X9_next_243   (rec_243_4 : Ob → Option (Ob)) (o_me : Ob) : Option (Ob) :=
  if (gI o_me 16) = (2 : Int32) then
  (if (gI o_me 13) ≤ (gI o_me 15) then
  (some o_me)
  else
  (zgd (zin (gI o_me 15) 400) <|
  (f_X9_isDigit (gA o_me 12 (gI o_me 15).toNatClampNeg)).bind fun z10 =>
  if z10 = (0 : Int32) then
  (some o_me)
  else
  (if (lg_cmp (gL o_me 17) (1000000 : Int64)) ≤ (0 : Int32) then
  (zgd (zin (gI o_me 15) 400) <|
  bk_X9_next_319  rec_243_4 ((((gL o_me 17) * (10 : Int64)) + ((gA o_me 12 (gI o_me 15).toNatClampNeg).toInt64)) - (48 : Int64)) o_me)
  else
  (bk_X9_next_319  rec_243_4 (gL o_me 17) o_me))))
  else
  (some o_me)
def lp_X9_next_243   : Nat → Ob → Option (Ob) := zit (fun rec a => lb_X9_next_243   rec a)
def bk_X9_next_227  (rec_149_3 : Ob → Option (Ob)) (s0 : Int64) (o_me : Ob) : Option (Ob) :=
  zlt (sL o_me 17 s0) fun o16 =>
  zlt (sI o16 15 ((gI o16 15) + (1 : Int32))) fun o17 =>
  rec_149_3 o17
def lb_X9_next_149   (rec_149_3 : Ob → Option (Ob)) (o_me : Ob) : Option (Ob) :=
  if (gI o_me 16) = (1 : Int32) then
  (if (gI o_me 13) ≤ (gI o_me 15) then
  (lp_X9_next_243   zfu o_me)
  else
  (zgd (zin (gI o_me 15) 400) <|
  (f_X9_isSmall (gA o_me 12 (gI o_me 15).toNatClampNeg)).bind fun z15 =>
  if z15 = (0 : Int32) then
  (lp_X9_next_243   zfu o_me)
  else
  (if (10 : Int32) ≤ ((gI o_me 15) - (gI o_me 14)) then
  (bk_X9_next_227  rec_149_3 (-1 : Int64) o_me)
  else
  (zgd (zin (gI o_me 15) 400) <|
  bk_X9_next_227  rec_149_3 ((((gL o_me 17) * (32 : Int64)) + ((gA o_me 12 (gI o_me 15).toNatClampNeg).toInt64)) - (96 : Int64)) o_me))))
  else
  (lp_X9_next_243   zfu o_me)
def lp_X9_next_149   : Nat → Ob → Option (Ob) := zit (fun rec a => lb_X9_next_149   rec a)
def bk_X9_next_114   (s0 : Int32) (o_me : Ob) : Option (Ob) :=
  zlt (sI o_me 16 s0) fun o8 =>
  if (gI o8 16) = (3 : Int32) then
  (zgd (zin (gI o8 14) 400) <|
  zlt (sL o8 17 ((gA o8 12 (gI o8 14).toNatClampNeg).toInt64)) fun o20 =>
  zlt (sI o20 15 ((gI o20 15) + (1 : Int32))) fun o21 =>
  lp_X9_next_149   zfu o21)
  else
  (lp_X9_next_149   zfu o8)
def bk_X9_next_46   (o_me : Ob) : Option (Ob) :=
  zlt (sI o_me 15 (gI o_me 14)) fun o2 =>
  zlt (sL o2 17 (0 : Int64)) fun o3 =>
  if (gI o3 14) = (gI o3 13) then
  (bk_X9_next_114   (0 : Int32) o3)
  else
  (zgd (zin (gI o3 14) 400) <|
  (f_X9_isSmall (gA o3 12 (gI o3 14).toNatClampNeg)).bind fun z5 =>
  if z5 = (0 : Int32) then
  (zgd (zin (gI o3 14) 400) <|
  (f_X9_isDigit (gA o3 12 (gI o3 14).toNatClampNeg)).bind fun z7 =>
  if z7 = (0 : Int32) then
  (bk_X9_next_114   (3 : Int32) o3)
  else
  (bk_X9_next_114   (2 : Int32) o3))
  else
  (bk_X9_next_114   (1 : Int32) o3))
def lb_X9_next_8   (rec_8_0 : Ob → Option (Ob)) (o_me : Ob) : Option (Ob) :=
  if (gI o_me 13) ≤ (gI o_me 14) then
  (bk_X9_next_46   o_me)
  else
  (zgd (zin (gI o_me 14) 400) <|
  if (gA o_me 12 (gI o_me 14).toNatClampNeg) = (32 : Int32) then
  (zlt (sI o_me 14 ((gI o_me 14) + (1 : Int32))) fun o23 =>
  rec_8_0 o23)
  else
  (bk_X9_next_46   o_me))
def lp_X9_next_8   : Nat → Ob → Option (Ob) := zit (fun rec a => lb_X9_next_8   rec a)
def f_X9_next (o_me : Ob) : Option (Ob) :=
  zlt (sI o_me 14 (gI o_me 15)) fun o1 =>
  lp_X9_next_8   zfu o1
set_option maxHeartbeats 4000000 in
set_option maxRecDepth 100000 in
theorem m_X9_next (l : Launch) (dC : Nat → ClassId) (dI : Nat → Nat → Nat) (sz : Nat) (h_me : Nat) (q_me : Nat → Nat) (k_me : Nat → ClassId) (o_me : Ob) (y : Ob) (h : f_X9_next o_me = some y) : CV l yX9_next cX9_next 1 none ({ frames := 1, cells := 0, slots := 0, locals := 20 } : Room) dC dI sz [.ref h_me] [wX9 h_me q_me k_me o_me] [tX9 k_me] [wX9 h_me q_me k_me y] := by
  refine CC_of (by decide) (Nat.le_of_ble_eq_true rfl) ?_
  intro p e s m below meth c A ls hx hb hml hr hlk hnm hown hts hX hK hP hD hA hl
  have hl : lv_has ls 1 [(0, .ref h_me)] := hl
  have hown : s.vm.findClass RX9 = some m.cls := hown
  have hw : Wd dC dI A s.heap [wX9 h_me q_me k_me o_me] s.heap [] := ⟨hP, hD, va_S.rf⟩
  generalize hQz : (MQ below (QV dC dI (fun (_ : Unit) => True) (fun _ => Jn [wX9 h_me q_me k_me y]) (fun _ => Jt [tX9 k_me]) A) ([.ref h_me] : List Value).toArray s 0 0 A) = Qz
  clear hP hD hnm
  have bk_319_5 : ∀ (rec_243_4 : Ob → Option (Ob)) (hrec_243_4 : ∀ (o_me : Ob) (H : Heap) (locs : List Loc) (ls : Array Slot), rec_243_4 o_me = some y → Wd dC dI A s.heap [wX9 h_me q_me k_me o_me] H locs → lv_has ls 1 [(0, .ref h_me)] → W p l e ({ frames := 1, cells := 0, slots := 0, locals := 20 } : Room) s m ([.ref h_me] : List Value).toArray below meth c H locs 0 0 Qz (F0 m 243 ls [])), ∀ (s0 : Int64) (o_me : Ob) (H : Heap) (locs : List Loc) (ls : Array Slot), bk_X9_next_319  rec_243_4 s0 o_me = some y → Wd dC dI A s.heap [wX9 h_me q_me k_me o_me] H locs → lv_has ls 1 [(0, .ref h_me)] → W p l e ({ frames := 1, cells := 0, slots := 0, locals := 20 } : Room) s m ([.ref h_me] : List Value).toArray below meth c H locs 0 0 Qz (F0 m 319 ls [.long s0, .ref h_me]) := by
    intro rec_243_4 hrec_243_4
    intro s0 o_me H locs ls h hw hl
    unfold bk_X9_next_319 at h
    refine fpX9_17 hx hb hts hown hK hw 0 rfl kw1193 dX9_next_319 (fun H locs hw => ?_)
    obtain ⟨o12, eo12, h⟩ := z_lt h
    have hw : Wd dC dI A s.heap [wX9 h_me q_me k_me o12] H locs := by rw [eo12]; exact hw
    refine lv_aload_n hx hb dX9_next_322 rfl (lv_at hl 0 rfl) ?_
    refine lv_dup hx hb dX9_next_323 rfl ?_
    refine fgX9_15 hx hb hts hown hK hw 0 rfl kw1191 dX9_next_324 ?_
    refine lv_iconst (v := 1) hx hb dX9_next_327 (by decide) ?_
    refine lv_iadd hx hb dX9_next_328 ?_
    refine fpX9_15 hx hb hts hown hK hw 0 rfl kw1191 dX9_next_329 (fun H locs hw => ?_)
    obtain ⟨o13, eo13, h⟩ := z_lt h
    have hw : Wd dC dI A s.heap [wX9 h_me q_me k_me o13] H locs := by rw [eo13]; exact hw
    refine lv_goto (tgt := 243) hx hb dX9_next_332 (by decide) ?_
    exact hrec_243_4 o13 _ _ _ h hw (lv_sub hl [0] rfl)
  have lp_243_4 : ∀ (N : Nat), ∀ (o_me : Ob) (H : Heap) (locs : List Loc) (ls : Array Slot), lp_X9_next_243   N o_me = some y → Wd dC dI A s.heap [wX9 h_me q_me k_me o_me] H locs → lv_has ls 1 [(0, .ref h_me)] → W p l e ({ frames := 1, cells := 0, slots := 0, locals := 20 } : Room) s m ([.ref h_me] : List Value).toArray below meth c H locs 0 0 Qz (F0 m 243 ls []) := by
    intro N
    induction N with
    | zero =>
      intro o_me H locs ls h hw hl
      exact absurd (show (none : Option (Ob)) = some y from h) (by simp)
    | succ N ih =>
      intro o_me H locs ls h hw hl
      have h : lb_X9_next_243   (lp_X9_next_243   N) o_me = some y := h
      unfold lb_X9_next_243 at h
      refine lv_aload_n hx hb dX9_next_243 rfl (lv_at hl 0 rfl) ?_
      refine fgX9_16 hx hb hts hown hK hw 0 rfl kw1192 dX9_next_244 ?_
      refine lv_iconst (v := 2) hx hb dX9_next_247 (by decide) ?_
      refine lv_icmp_ne (tgt := 335) hx hb dX9_next_248 (by decide) (fun c => ?_) (fun c => ?_)
      · have h := z_f h c
        have hy := Option.some.inj h
        rw [← hQz, ← hy]
        exact xr_v hx hb hr hlk hK hw dX9_next_335
      · have h := z_t h c
        refine lv_aload_n hx hb dX9_next_251 rfl (lv_at hl 0 rfl) ?_
        refine fgX9_15 hx hb hts hown hK hw 0 rfl kw1191 dX9_next_252 ?_
        refine lv_aload_n hx hb dX9_next_255 rfl (lv_at hl 0 rfl) ?_
        refine fgX9_13 hx hb hts hown hK hw 0 rfl kw1189 dX9_next_256 ?_
        refine lv_icmp_ge (tgt := 335) hx hb dX9_next_259 (by decide) (fun c => ?_) (fun c => ?_)
        · have h := z_t h c
          have hy := Option.some.inj h
          rw [← hQz, ← hy]
          exact xr_v hx hb hr hlk hK hw dX9_next_335
        · have h := z_f h c
          refine lv_aload_n hx hb dX9_next_262 rfl (lv_at hl 0 rfl) ?_
          refine fgX9_12 hx hb hts hown hK hw 0 rfl kw1188 dX9_next_263 ?_
          refine lv_aload_n hx hb dX9_next_266 rfl (lv_at hl 0 rfl) ?_
          refine fgX9_15 hx hb hts hown hK hw 0 rfl kw1191 dX9_next_267 ?_
          obtain ⟨g9, h⟩ := z_gd h
          refine faX9_12 hx hb hK hw 0 rfl rfl g9 dX9_next_270 ?_
          obtain ⟨z10, ez10, h⟩ := z_bd h
          refine xj_i (xrS (As := [.int (gA o_me 12 (gI o_me 15).toNatClampNeg)]) (rest := []) ⟨hx, hb, hml, hown, hts⟩ (m_X9_isDigit l dC dI _  (gA o_me 12 (gI o_me 15).toNatClampNeg) z10 ez10) kw1518 kw1516 kw1517 kw120 hd_X9_isDigit ⟨rfl, rfl⟩ rfl rfl ⟨rfl, rfl⟩ hX hK hw [] (by decide) rfl rfl hl.1 rfl rfl dX9_next_271) hw hA [] (by decide) rfl rfl (fun H locs hw => ?_)
          refine lv_if_eq (tgt := 335) hx hb dX9_next_274 (by decide) (fun c => ?_) (fun c => ?_)
          · have h := z_t h c
            have hy := Option.some.inj h
            rw [← hQz, ← hy]
            exact xr_v hx hb hr hlk hK hw dX9_next_335
          · have h := z_f h c
            refine lv_aload_n hx hb dX9_next_277 rfl (lv_at hl 0 rfl) ?_
            refine lv_aload_n hx hb dX9_next_278 rfl (lv_at hl 0 rfl) ?_
            refine fgX9_17 hx hb hts hown hK hw 0 rfl kw1193 dX9_next_279 ?_
            refine lv_ldc2 (v := 1000000) hx hb hown (hts _ kw1521) dX9_next_282 ?_
            refine W.lcmp hx hb dX9_next_285 ?_
            refine lv_if_le (tgt := 296) hx hb dX9_next_286 (by decide) (fun c => ?_) (fun c => ?_)
            · have h := z_t h c
              refine lv_aload_n hx hb dX9_next_296 rfl (lv_at hl 0 rfl) ?_
              refine fgX9_17 hx hb hts hown hK hw 0 rfl kw1193 dX9_next_297 ?_
              refine lv_ldc2 (v := 10) hx hb hown (hts _ kw1468) dX9_next_300 ?_
              refine lv_lmul hx hb dX9_next_303 ?_
              refine lv_aload_n hx hb dX9_next_304 rfl (lv_at hl 0 rfl) ?_
              refine fgX9_12 hx hb hts hown hK hw 0 rfl kw1188 dX9_next_305 ?_
              refine lv_aload_n hx hb dX9_next_308 rfl (lv_at hl 0 rfl) ?_
              refine fgX9_15 hx hb hts hown hK hw 0 rfl kw1191 dX9_next_309 ?_
              obtain ⟨g11, h⟩ := z_gd h
              refine faX9_12 hx hb hK hw 0 rfl rfl g11 dX9_next_312 ?_
              refine lv_i2l hx hb dX9_next_313 rfl ?_
              refine lv_ladd hx hb dX9_next_314 ?_
              refine lv_ldc2 (v := 48) hx hb hown (hts _ kw1522) dX9_next_315 ?_
              refine lv_lsub hx hb dX9_next_318 ?_
              exact bk_319_5 (lp_X9_next_243   N) ih ((((gL o_me 17) * (10 : Int64)) + ((gA o_me 12 (gI o_me 15).toNatClampNeg).toInt64)) - (48 : Int64)) o_me _ _ _ h hw (lv_sub hl [0] rfl)
            · have h := z_f h c
              refine lv_aload_n hx hb dX9_next_289 rfl (lv_at hl 0 rfl) ?_
              refine fgX9_17 hx hb hts hown hK hw 0 rfl kw1193 dX9_next_290 ?_
              refine lv_goto (tgt := 319) hx hb dX9_next_293 (by decide) ?_
              exact bk_319_5 (lp_X9_next_243   N) ih (gL o_me 17) o_me _ _ _ h hw (lv_sub hl [0] rfl)
  have bk_227_6 : ∀ (rec_149_3 : Ob → Option (Ob)) (hrec_149_3 : ∀ (o_me : Ob) (H : Heap) (locs : List Loc) (ls : Array Slot), rec_149_3 o_me = some y → Wd dC dI A s.heap [wX9 h_me q_me k_me o_me] H locs → lv_has ls 1 [(0, .ref h_me)] → W p l e ({ frames := 1, cells := 0, slots := 0, locals := 20 } : Room) s m ([.ref h_me] : List Value).toArray below meth c H locs 0 0 Qz (F0 m 149 ls [])), ∀ (s0 : Int64) (o_me : Ob) (H : Heap) (locs : List Loc) (ls : Array Slot), bk_X9_next_227  rec_149_3 s0 o_me = some y → Wd dC dI A s.heap [wX9 h_me q_me k_me o_me] H locs → lv_has ls 1 [(0, .ref h_me)] → W p l e ({ frames := 1, cells := 0, slots := 0, locals := 20 } : Room) s m ([.ref h_me] : List Value).toArray below meth c H locs 0 0 Qz (F0 m 227 ls [.long s0, .ref h_me]) := by
    intro rec_149_3 hrec_149_3
    intro s0 o_me H locs ls h hw hl
    unfold bk_X9_next_227 at h
    refine fpX9_17 hx hb hts hown hK hw 0 rfl kw1193 dX9_next_227 (fun H locs hw => ?_)
    obtain ⟨o16, eo16, h⟩ := z_lt h
    have hw : Wd dC dI A s.heap [wX9 h_me q_me k_me o16] H locs := by rw [eo16]; exact hw
    refine lv_aload_n hx hb dX9_next_230 rfl (lv_at hl 0 rfl) ?_
    refine lv_dup hx hb dX9_next_231 rfl ?_
    refine fgX9_15 hx hb hts hown hK hw 0 rfl kw1191 dX9_next_232 ?_
    refine lv_iconst (v := 1) hx hb dX9_next_235 (by decide) ?_
    refine lv_iadd hx hb dX9_next_236 ?_
    refine fpX9_15 hx hb hts hown hK hw 0 rfl kw1191 dX9_next_237 (fun H locs hw => ?_)
    obtain ⟨o17, eo17, h⟩ := z_lt h
    have hw : Wd dC dI A s.heap [wX9 h_me q_me k_me o17] H locs := by rw [eo17]; exact hw
    refine lv_goto (tgt := 149) hx hb dX9_next_240 (by decide) ?_
    exact hrec_149_3 o17 _ _ _ h hw (lv_sub hl [0] rfl)
  have lp_149_3 : ∀ (N : Nat), ∀ (o_me : Ob) (H : Heap) (locs : List Loc) (ls : Array Slot), lp_X9_next_149   N o_me = some y → Wd dC dI A s.heap [wX9 h_me q_me k_me o_me] H locs → lv_has ls 1 [(0, .ref h_me)] → W p l e ({ frames := 1, cells := 0, slots := 0, locals := 20 } : Room) s m ([.ref h_me] : List Value).toArray below meth c H locs 0 0 Qz (F0 m 149 ls []) := by
    intro N
    induction N with
    | zero =>
      intro o_me H locs ls h hw hl
      exact absurd (show (none : Option (Ob)) = some y from h) (by simp)
    | succ N ih =>
      intro o_me H locs ls h hw hl
      have h : lb_X9_next_149   (lp_X9_next_149   N) o_me = some y := h
      unfold lb_X9_next_149 at h
      refine lv_aload_n hx hb dX9_next_149 rfl (lv_at hl 0 rfl) ?_
      refine fgX9_16 hx hb hts hown hK hw 0 rfl kw1192 dX9_next_150 ?_
      refine lv_iconst (v := 1) hx hb dX9_next_153 (by decide) ?_
      refine lv_icmp_ne (tgt := 243) hx hb dX9_next_154 (by decide) (fun c => ?_) (fun c => ?_)
      · have h := z_f h c
        exact lp_243_4  zfu o_me _ _ _ h hw (lv_sub hl [0] rfl)
      · have h := z_t h c
        refine lv_aload_n hx hb dX9_next_157 rfl (lv_at hl 0 rfl) ?_
        refine fgX9_15 hx hb hts hown hK hw 0 rfl kw1191 dX9_next_158 ?_
        refine lv_aload_n hx hb dX9_next_161 rfl (lv_at hl 0 rfl) ?_
        refine fgX9_13 hx hb hts hown hK hw 0 rfl kw1189 dX9_next_162 ?_
        refine lv_icmp_ge (tgt := 243) hx hb dX9_next_165 (by decide) (fun c => ?_) (fun c => ?_)
        · have h := z_t h c
          exact lp_243_4  zfu o_me _ _ _ h hw (lv_sub hl [0] rfl)
        · have h := z_f h c
          refine lv_aload_n hx hb dX9_next_168 rfl (lv_at hl 0 rfl) ?_
          refine fgX9_12 hx hb hts hown hK hw 0 rfl kw1188 dX9_next_169 ?_
          refine lv_aload_n hx hb dX9_next_172 rfl (lv_at hl 0 rfl) ?_
          refine fgX9_15 hx hb hts hown hK hw 0 rfl kw1191 dX9_next_173 ?_
          obtain ⟨g14, h⟩ := z_gd h
          refine faX9_12 hx hb hK hw 0 rfl rfl g14 dX9_next_176 ?_
          obtain ⟨z15, ez15, h⟩ := z_bd h
          refine xj_i (xrS (As := [.int (gA o_me 12 (gI o_me 15).toNatClampNeg)]) (rest := []) ⟨hx, hb, hml, hown, hts⟩ (m_X9_isSmall l dC dI _  (gA o_me 12 (gI o_me 15).toNatClampNeg) z15 ez15) kw1515 kw1513 kw1514 kw120 hd_X9_isSmall ⟨rfl, rfl⟩ rfl rfl ⟨rfl, rfl⟩ hX hK hw [] (by decide) rfl rfl hl.1 rfl rfl dX9_next_177) hw hA [] (by decide) rfl rfl (fun H locs hw => ?_)
          refine lv_if_eq (tgt := 243) hx hb dX9_next_180 (by decide) (fun c => ?_) (fun c => ?_)
          · have h := z_t h c
            exact lp_243_4  zfu o_me _ _ _ h hw (lv_sub hl [0] rfl)
          · have h := z_f h c
            refine lv_aload_n hx hb dX9_next_183 rfl (lv_at hl 0 rfl) ?_
            refine lv_aload_n hx hb dX9_next_184 rfl (lv_at hl 0 rfl) ?_
            refine fgX9_15 hx hb hts hown hK hw 0 rfl kw1191 dX9_next_185 ?_
            refine lv_aload_n hx hb dX9_next_188 rfl (lv_at hl 0 rfl) ?_
            refine fgX9_14 hx hb hts hown hK hw 0 rfl kw1190 dX9_next_189 ?_
            refine lv_isub hx hb dX9_next_192 ?_
            refine lv_bipush (v := 10) hx hb dX9_next_193 (by decide) ?_
            refine lv_icmp_ge (tgt := 224) hx hb dX9_next_195 (by decide) (fun c => ?_) (fun c => ?_)
            · have h := z_t h c
              refine lv_ldc2 (v := (-1)) hx hb hown (hts _ kw1424) dX9_next_224 ?_
              exact bk_227_6 (lp_X9_next_149   N) ih (-1 : Int64) o_me _ _ _ h hw (lv_sub hl [0] rfl)
            · have h := z_f h c
              refine lv_aload_n hx hb dX9_next_198 rfl (lv_at hl 0 rfl) ?_
              refine fgX9_17 hx hb hts hown hK hw 0 rfl kw1193 dX9_next_199 ?_
              refine lv_ldc2 (v := 32) hx hb hown (hts _ kw1519) dX9_next_202 ?_
              refine lv_lmul hx hb dX9_next_205 ?_
              refine lv_aload_n hx hb dX9_next_206 rfl (lv_at hl 0 rfl) ?_
              refine fgX9_12 hx hb hts hown hK hw 0 rfl kw1188 dX9_next_207 ?_
              refine lv_aload_n hx hb dX9_next_210 rfl (lv_at hl 0 rfl) ?_
              refine fgX9_15 hx hb hts hown hK hw 0 rfl kw1191 dX9_next_211 ?_
              obtain ⟨g18, h⟩ := z_gd h
              refine faX9_12 hx hb hK hw 0 rfl rfl g18 dX9_next_214 ?_
              refine lv_i2l hx hb dX9_next_215 rfl ?_
              refine lv_ladd hx hb dX9_next_216 ?_
              refine lv_ldc2 (v := 96) hx hb hown (hts _ kw1520) dX9_next_217 ?_
              refine lv_lsub hx hb dX9_next_220 ?_
              refine lv_goto (tgt := 227) hx hb dX9_next_221 (by decide) ?_
              exact bk_227_6 (lp_X9_next_149   N) ih ((((gL o_me 17) * (32 : Int64)) + ((gA o_me 12 (gI o_me 15).toNatClampNeg).toInt64)) - (96 : Int64)) o_me _ _ _ h hw (lv_sub hl [0] rfl)
  have bk_114_2 : ∀ (s0 : Int32) (o_me : Ob) (H : Heap) (locs : List Loc) (ls : Array Slot), bk_X9_next_114   s0 o_me = some y → Wd dC dI A s.heap [wX9 h_me q_me k_me o_me] H locs → lv_has ls 1 [(0, .ref h_me)] → W p l e ({ frames := 1, cells := 0, slots := 0, locals := 20 } : Room) s m ([.ref h_me] : List Value).toArray below meth c H locs 0 0 Qz (F0 m 114 ls [.int s0, .ref h_me]) := by
    intro s0 o_me H locs ls h hw hl
    unfold bk_X9_next_114 at h
    refine fpX9_16 hx hb hts hown hK hw 0 rfl kw1192 dX9_next_114 (fun H locs hw => ?_)
    obtain ⟨o8, eo8, h⟩ := z_lt h
    have hw : Wd dC dI A s.heap [wX9 h_me q_me k_me o8] H locs := by rw [eo8]; exact hw
    refine lv_aload_n hx hb dX9_next_117 rfl (lv_at hl 0 rfl) ?_
    refine fgX9_16 hx hb hts hown hK hw 0 rfl kw1192 dX9_next_118 ?_
    refine lv_iconst (v := 3) hx hb dX9_next_121 (by decide) ?_
    refine lv_icmp_ne (tgt := 149) hx hb dX9_next_122 (by decide) (fun c => ?_) (fun c => ?_)
    · have h := z_f h c
      exact lp_149_3  zfu o8 _ _ _ h hw (lv_sub hl [0] rfl)
    · have h := z_t h c
      refine lv_aload_n hx hb dX9_next_125 rfl (lv_at hl 0 rfl) ?_
      refine lv_aload_n hx hb dX9_next_126 rfl (lv_at hl 0 rfl) ?_
      refine fgX9_12 hx hb hts hown hK hw 0 rfl kw1188 dX9_next_127 ?_
      refine lv_aload_n hx hb dX9_next_130 rfl (lv_at hl 0 rfl) ?_
      refine fgX9_14 hx hb hts hown hK hw 0 rfl kw1190 dX9_next_131 ?_
      obtain ⟨g19, h⟩ := z_gd h
      refine faX9_12 hx hb hK hw 0 rfl rfl g19 dX9_next_134 ?_
      refine lv_i2l hx hb dX9_next_135 rfl ?_
      refine fpX9_17 hx hb hts hown hK hw 0 rfl kw1193 dX9_next_136 (fun H locs hw => ?_)
      obtain ⟨o20, eo20, h⟩ := z_lt h
      have hw : Wd dC dI A s.heap [wX9 h_me q_me k_me o20] H locs := by rw [eo20]; exact hw
      refine lv_aload_n hx hb dX9_next_139 rfl (lv_at hl 0 rfl) ?_
      refine lv_dup hx hb dX9_next_140 rfl ?_
      refine fgX9_15 hx hb hts hown hK hw 0 rfl kw1191 dX9_next_141 ?_
      refine lv_iconst (v := 1) hx hb dX9_next_144 (by decide) ?_
      refine lv_iadd hx hb dX9_next_145 ?_
      refine fpX9_15 hx hb hts hown hK hw 0 rfl kw1191 dX9_next_146 (fun H locs hw => ?_)
      obtain ⟨o21, eo21, h⟩ := z_lt h
      have hw : Wd dC dI A s.heap [wX9 h_me q_me k_me o21] H locs := by rw [eo21]; exact hw
      exact lp_149_3  zfu o21 _ _ _ h hw (lv_sub hl [0] rfl)
  have bk_46_1 : ∀ (o_me : Ob) (H : Heap) (locs : List Loc) (ls : Array Slot), bk_X9_next_46   o_me = some y → Wd dC dI A s.heap [wX9 h_me q_me k_me o_me] H locs → lv_has ls 1 [(0, .ref h_me)] → W p l e ({ frames := 1, cells := 0, slots := 0, locals := 20 } : Room) s m ([.ref h_me] : List Value).toArray below meth c H locs 0 0 Qz (F0 m 46 ls []) := by
    intro o_me H locs ls h hw hl
    unfold bk_X9_next_46 at h
    refine lv_aload_n hx hb dX9_next_46 rfl (lv_at hl 0 rfl) ?_
    refine lv_aload_n hx hb dX9_next_47 rfl (lv_at hl 0 rfl) ?_
    refine fgX9_14 hx hb hts hown hK hw 0 rfl kw1190 dX9_next_48 ?_
    refine fpX9_15 hx hb hts hown hK hw 0 rfl kw1191 dX9_next_51 (fun H locs hw => ?_)
    obtain ⟨o2, eo2, h⟩ := z_lt h
    have hw : Wd dC dI A s.heap [wX9 h_me q_me k_me o2] H locs := by rw [eo2]; exact hw
    refine lv_aload_n hx hb dX9_next_54 rfl (lv_at hl 0 rfl) ?_
    refine lv_lconst (v := 0) hx hb dX9_next_55 (by decide) ?_
    refine fpX9_17 hx hb hts hown hK hw 0 rfl kw1193 dX9_next_56 (fun H locs hw => ?_)
    obtain ⟨o3, eo3, h⟩ := z_lt h
    have hw : Wd dC dI A s.heap [wX9 h_me q_me k_me o3] H locs := by rw [eo3]; exact hw
    refine lv_aload_n hx hb dX9_next_59 rfl (lv_at hl 0 rfl) ?_
    refine lv_aload_n hx hb dX9_next_60 rfl (lv_at hl 0 rfl) ?_
    refine fgX9_14 hx hb hts hown hK hw 0 rfl kw1190 dX9_next_61 ?_
    refine lv_aload_n hx hb dX9_next_64 rfl (lv_at hl 0 rfl) ?_
    refine fgX9_13 hx hb hts hown hK hw 0 rfl kw1189 dX9_next_65 ?_
    refine lv_icmp_ne (tgt := 75) hx hb dX9_next_68 (by decide) (fun c => ?_) (fun c => ?_)
    · have h := z_f h c
      refine lv_aload_n hx hb dX9_next_75 rfl (lv_at hl 0 rfl) ?_
      refine fgX9_12 hx hb hts hown hK hw 0 rfl kw1188 dX9_next_76 ?_
      refine lv_aload_n hx hb dX9_next_79 rfl (lv_at hl 0 rfl) ?_
      refine fgX9_14 hx hb hts hown hK hw 0 rfl kw1190 dX9_next_80 ?_
      obtain ⟨g4, h⟩ := z_gd h
      refine faX9_12 hx hb hK hw 0 rfl rfl g4 dX9_next_83 ?_
      obtain ⟨z5, ez5, h⟩ := z_bd h
      refine xj_i (xrS (As := [.int (gA o3 12 (gI o3 14).toNatClampNeg)]) (rest := [.ref h_me]) ⟨hx, hb, hml, hown, hts⟩ (m_X9_isSmall l dC dI _  (gA o3 12 (gI o3 14).toNatClampNeg) z5 ez5) kw1515 kw1513 kw1514 kw120 hd_X9_isSmall ⟨rfl, rfl⟩ rfl rfl ⟨rfl, rfl⟩ hX hK hw [] (by decide) rfl rfl hl.1 rfl rfl dX9_next_84) hw hA [] (by decide) rfl rfl (fun H locs hw => ?_)
      refine lv_if_eq (tgt := 94) hx hb dX9_next_87 (by decide) (fun c => ?_) (fun c => ?_)
      · have h := z_t h c
        refine lv_aload_n hx hb dX9_next_94 rfl (lv_at hl 0 rfl) ?_
        refine fgX9_12 hx hb hts hown hK hw 0 rfl kw1188 dX9_next_95 ?_
        refine lv_aload_n hx hb dX9_next_98 rfl (lv_at hl 0 rfl) ?_
        refine fgX9_14 hx hb hts hown hK hw 0 rfl kw1190 dX9_next_99 ?_
        obtain ⟨g6, h⟩ := z_gd h
        refine faX9_12 hx hb hK hw 0 rfl rfl g6 dX9_next_102 ?_
        obtain ⟨z7, ez7, h⟩ := z_bd h
        refine xj_i (xrS (As := [.int (gA o3 12 (gI o3 14).toNatClampNeg)]) (rest := [.ref h_me]) ⟨hx, hb, hml, hown, hts⟩ (m_X9_isDigit l dC dI _  (gA o3 12 (gI o3 14).toNatClampNeg) z7 ez7) kw1518 kw1516 kw1517 kw120 hd_X9_isDigit ⟨rfl, rfl⟩ rfl rfl ⟨rfl, rfl⟩ hX hK hw [] (by decide) rfl rfl hl.1 rfl rfl dX9_next_103) hw hA [] (by decide) rfl rfl (fun H locs hw => ?_)
        refine lv_if_eq (tgt := 113) hx hb dX9_next_106 (by decide) (fun c => ?_) (fun c => ?_)
        · have h := z_t h c
          refine lv_iconst (v := 3) hx hb dX9_next_113 (by decide) ?_
          exact bk_114_2  (3 : Int32) o3 _ _ _ h hw (lv_sub hl [0] rfl)
        · have h := z_f h c
          refine lv_iconst (v := 2) hx hb dX9_next_109 (by decide) ?_
          refine lv_goto (tgt := 114) hx hb dX9_next_110 (by decide) ?_
          exact bk_114_2  (2 : Int32) o3 _ _ _ h hw (lv_sub hl [0] rfl)
      · have h := z_f h c
        refine lv_iconst (v := 1) hx hb dX9_next_90 (by decide) ?_
        refine lv_goto (tgt := 114) hx hb dX9_next_91 (by decide) ?_
        exact bk_114_2  (1 : Int32) o3 _ _ _ h hw (lv_sub hl [0] rfl)
    · have h := z_t h c
      refine lv_iconst (v := 0) hx hb dX9_next_71 (by decide) ?_
      refine lv_goto (tgt := 114) hx hb dX9_next_72 (by decide) ?_
      exact bk_114_2  (0 : Int32) o3 _ _ _ h hw (lv_sub hl [0] rfl)
  have lp_8_0 : ∀ (N : Nat), ∀ (o_me : Ob) (H : Heap) (locs : List Loc) (ls : Array Slot), lp_X9_next_8   N o_me = some y → Wd dC dI A s.heap [wX9 h_me q_me k_me o_me] H locs → lv_has ls 1 [(0, .ref h_me)] → W p l e ({ frames := 1, cells := 0, slots := 0, locals := 20 } : Room) s m ([.ref h_me] : List Value).toArray below meth c H locs 0 0 Qz (F0 m 8 ls []) := by
    intro N
    induction N with
    | zero =>
      intro o_me H locs ls h hw hl
      exact absurd (show (none : Option (Ob)) = some y from h) (by simp)
    | succ N ih =>
      intro o_me H locs ls h hw hl
      have h : lb_X9_next_8   (lp_X9_next_8   N) o_me = some y := h
      unfold lb_X9_next_8 at h
      refine lv_aload_n hx hb dX9_next_8 rfl (lv_at hl 0 rfl) ?_
      refine fgX9_14 hx hb hts hown hK hw 0 rfl kw1190 dX9_next_9 ?_
      refine lv_aload_n hx hb dX9_next_12 rfl (lv_at hl 0 rfl) ?_
      refine fgX9_13 hx hb hts hown hK hw 0 rfl kw1189 dX9_next_13 ?_
      refine lv_icmp_ge (tgt := 46) hx hb dX9_next_16 (by decide) (fun c => ?_) (fun c => ?_)
      · have h := z_t h c
        exact bk_46_1  o_me _ _ _ h hw (lv_sub hl [0] rfl)
      · have h := z_f h c
        refine lv_aload_n hx hb dX9_next_19 rfl (lv_at hl 0 rfl) ?_
        refine fgX9_12 hx hb hts hown hK hw 0 rfl kw1188 dX9_next_20 ?_
        refine lv_aload_n hx hb dX9_next_23 rfl (lv_at hl 0 rfl) ?_
        refine fgX9_14 hx hb hts hown hK hw 0 rfl kw1190 dX9_next_24 ?_
        obtain ⟨g22, h⟩ := z_gd h
        refine faX9_12 hx hb hK hw 0 rfl rfl g22 dX9_next_27 ?_
        refine lv_bipush (v := 32) hx hb dX9_next_28 (by decide) ?_
        refine lv_icmp_ne (tgt := 46) hx hb dX9_next_30 (by decide) (fun c => ?_) (fun c => ?_)
        · have h := z_f h c
          exact bk_46_1  o_me _ _ _ h hw (lv_sub hl [0] rfl)
        · have h := z_t h c
          refine lv_aload_n hx hb dX9_next_33 rfl (lv_at hl 0 rfl) ?_
          refine lv_dup hx hb dX9_next_34 rfl ?_
          refine fgX9_14 hx hb hts hown hK hw 0 rfl kw1190 dX9_next_35 ?_
          refine lv_iconst (v := 1) hx hb dX9_next_38 (by decide) ?_
          refine lv_iadd hx hb dX9_next_39 ?_
          refine fpX9_14 hx hb hts hown hK hw 0 rfl kw1190 dX9_next_40 (fun H locs hw => ?_)
          obtain ⟨o23, eo23, h⟩ := z_lt h
          have hw : Wd dC dI A s.heap [wX9 h_me q_me k_me o23] H locs := by rw [eo23]; exact hw
          refine lv_goto (tgt := 8) hx hb dX9_next_43 (by decide) ?_
          exact ih o23 _ _ _ h hw (lv_sub hl [0] rfl)
  unfold f_X9_next at h
  refine lv_aload_n hx hb dX9_next_0 rfl (lv_at hl 0 rfl) ?_
  refine lv_aload_n hx hb dX9_next_1 rfl (lv_at hl 0 rfl) ?_
  refine fgX9_15 hx hb hts hown hK hw 0 rfl kw1191 dX9_next_2 ?_
  refine fpX9_14 hx hb hts hown hK hw 0 rfl kw1190 dX9_next_5 (fun H locs hw => ?_)
  obtain ⟨o1, eo1, h⟩ := z_lt h
  have hw : Wd dC dI A s.heap [wX9 h_me q_me k_me o1] H locs := by rw [eo1]; exact hw
  exact lp_8_0  zfu o1 _ _ _ h hw (lv_sub hl [0] rfl)

def f_X9_begin (o_me : Ob) : Option (Ob) :=
  zlt (sI o_me 15 (0 : Int32)) fun o1 =>
  zlt (sI o1 19 (0 : Int32)) fun o2 =>
  zlt (sI o2 18 (-1 : Int32)) fun o3 =>
  (f_X9_next o3).bind fun z4 =>
  some z4
set_option maxHeartbeats 4000000 in
set_option maxRecDepth 100000 in
theorem m_X9_begin (l : Launch) (dC : Nat → ClassId) (dI : Nat → Nat → Nat) (sz : Nat) (h_me : Nat) (q_me : Nat → Nat) (k_me : Nat → ClassId) (o_me : Ob) (y : Ob) (h : f_X9_begin o_me = some y) : CV l yX9_begin cX9_begin 1 none ({ frames := 2, cells := 0, slots := 0, locals := 40 } : Room) dC dI sz [.ref h_me] [wX9 h_me q_me k_me o_me] [tX9 k_me] [wX9 h_me q_me k_me y] := by
  refine CC_of (by decide) (Nat.le_of_ble_eq_true rfl) ?_
  intro p e s m below meth c A ls hx hb hml hr hlk hnm hown hts hX hK hP hD hA hl
  have hl : lv_has ls 1 [(0, .ref h_me)] := hl
  have hown : s.vm.findClass RX9 = some m.cls := hown
  have hw : Wd dC dI A s.heap [wX9 h_me q_me k_me o_me] s.heap [] := ⟨hP, hD, va_S.rf⟩
  generalize hQz : (MQ below (QV dC dI (fun (_ : Unit) => True) (fun _ => Jn [wX9 h_me q_me k_me y]) (fun _ => Jt [tX9 k_me]) A) ([.ref h_me] : List Value).toArray s 0 0 A) = Qz
  clear hP hD hnm
  unfold f_X9_begin at h
  refine lv_aload_n hx hb dX9_begin_0 rfl (lv_at hl 0 rfl) ?_
  refine lv_iconst (v := 0) hx hb dX9_begin_1 (by decide) ?_
  refine fpX9_15 hx hb hts hown hK hw 0 rfl kw1191 dX9_begin_2 (fun H locs hw => ?_)
  obtain ⟨o1, eo1, h⟩ := z_lt h
  have hw : Wd dC dI A s.heap [wX9 h_me q_me k_me o1] H locs := by rw [eo1]; exact hw
  refine lv_aload_n hx hb dX9_begin_5 rfl (lv_at hl 0 rfl) ?_
  refine lv_iconst (v := 0) hx hb dX9_begin_6 (by decide) ?_
  refine fpX9_19 hx hb hts hown hK hw 0 rfl kw1195 (by decide) dX9_begin_7 (fun H locs hw => ?_)
  obtain ⟨o2, eo2, h⟩ := z_lt h
  have hw : Wd dC dI A s.heap [wX9 h_me q_me k_me o2] H locs := by rw [eo2]; exact hw
  refine lv_aload_n hx hb dX9_begin_10 rfl (lv_at hl 0 rfl) ?_
  refine lv_iconst (v := (-1)) hx hb dX9_begin_11 (by decide) ?_
  refine fpX9_18 hx hb hts hown hK hw 0 rfl kw1194 dX9_begin_12 (fun H locs hw => ?_)
  obtain ⟨o3, eo3, h⟩ := z_lt h
  have hw : Wd dC dI A s.heap [wX9 h_me q_me k_me o3] H locs := by rw [eo3]; exact hw
  refine lv_aload_n hx hb dX9_begin_15 rfl (lv_at hl 0 rfl) ?_
  obtain ⟨z4, ez4, h⟩ := z_bd h
  refine xj_v (xrV (As := []) (rest := []) ⟨hx, hb, hml, hown, hts⟩ (m_X9_next l dC dI _ h_me q_me k_me o3 z4 ez4) kw1512 kw1509 kw1511 kw55 kw120 hd_X9_next ⟨rfl, rfl⟩ rfl rfl ⟨rfl, rfl⟩ hX hK hw [0] (by decide) rfl rfl rfl rfl rfl hl.1 rfl rfl dX9_begin_16) hw hA [0] (by decide) rfl rfl (fun H locs hw => ?_)
  have hw : Wd dC dI A s.heap [wX9 h_me q_me k_me z4] H locs := hw
  have hy := Option.some.inj h
  rw [← hQz, ← hy]
  exact xr_v hx hb hr hlk hK hw dX9_begin_19

def f_X9_beginText (o_me : Ob) (p0 : Int32) : Option (Ob) :=
  zgd (zbo p0) <|
  zlt (sI o_me 20 p0) fun o2 =>
  (f_X9_begin o2).bind fun z3 =>
  zlt (sI z3 21 (0 : Int32)) fun o4 =>
  zlt (sI o4 23 (0 : Int32)) fun o5 =>
  zlt (sI o5 26 (0 : Int32)) fun o6 =>
  some o6
set_option maxHeartbeats 4000000 in
set_option maxRecDepth 100000 in
theorem m_X9_beginText (l : Launch) (dC : Nat → ClassId) (dI : Nat → Nat → Nat) (sz : Nat) (h_me : Nat) (q_me : Nat → Nat) (k_me : Nat → ClassId) (o_me : Ob) (p0 : Int32) (y : Ob) (h : f_X9_beginText o_me p0 = some y) : CV l yX9_beginText cX9_beginText 2 none ({ frames := 3, cells := 0, slots := 0, locals := 60 } : Room) dC dI sz [.ref h_me, .int p0] [wX9 h_me q_me k_me o_me] [tX9 k_me] [wX9 h_me q_me k_me y] := by
  refine CC_of (by decide) (Nat.le_of_ble_eq_true rfl) ?_
  intro p e s m below meth c A ls hx hb hml hr hlk hnm hown hts hX hK hP hD hA hl
  have hl : lv_has ls 2 [(0, .ref h_me), (1, .int p0)] := hl
  have hown : s.vm.findClass RX9 = some m.cls := hown
  have hw : Wd dC dI A s.heap [wX9 h_me q_me k_me o_me] s.heap [] := ⟨hP, hD, va_S.rf⟩
  generalize hQz : (MQ below (QV dC dI (fun (_ : Unit) => True) (fun _ => Jn [wX9 h_me q_me k_me y]) (fun _ => Jt [tX9 k_me]) A) ([.ref h_me, .int p0] : List Value).toArray s 0 0 A) = Qz
  clear hP hD hnm
  unfold f_X9_beginText at h
  refine lv_aload_n hx hb dX9_beginText_0 rfl (lv_at hl 0 rfl) ?_
  refine lv_iload_n hx hb dX9_beginText_1 rfl (lv_at hl 1 rfl) ?_
  obtain ⟨g1, h⟩ := z_gd h
  refine fpX9_20 hx hb hts hown hK hw 0 rfl kw1196 g1 dX9_beginText_2 (fun H locs hw => ?_)
  obtain ⟨o2, eo2, h⟩ := z_lt h
  have hw : Wd dC dI A s.heap [wX9 h_me q_me k_me o2] H locs := by rw [eo2]; exact hw
  refine lv_aload_n hx hb dX9_beginText_5 rfl (lv_at hl 0 rfl) ?_
  obtain ⟨z3, ez3, h⟩ := z_bd h
  refine xj_v (xrV (As := []) (rest := []) ⟨hx, hb, hml, hown, hts⟩ (m_X9_begin l dC dI _ h_me q_me k_me o2 z3 ez3) kw1508 kw1505 kw1507 kw54 kw120 hd_X9_begin ⟨rfl, rfl⟩ rfl rfl ⟨rfl, rfl⟩ hX hK hw [0] (by decide) rfl rfl rfl rfl rfl hl.1 rfl rfl dX9_beginText_6) hw hA [0] (by decide) rfl rfl (fun H locs hw => ?_)
  have hw : Wd dC dI A s.heap [wX9 h_me q_me k_me z3] H locs := hw
  refine lv_aload_n hx hb dX9_beginText_9 rfl (lv_at hl 0 rfl) ?_
  refine lv_iconst (v := 0) hx hb dX9_beginText_10 (by decide) ?_
  refine fpX9_21 hx hb hts hown hK hw 0 rfl kw1197 dX9_beginText_11 (fun H locs hw => ?_)
  obtain ⟨o4, eo4, h⟩ := z_lt h
  have hw : Wd dC dI A s.heap [wX9 h_me q_me k_me o4] H locs := by rw [eo4]; exact hw
  refine lv_aload_n hx hb dX9_beginText_14 rfl (lv_at hl 0 rfl) ?_
  refine lv_iconst (v := 0) hx hb dX9_beginText_15 (by decide) ?_
  refine fpX9_23 hx hb hts hown hK hw 0 rfl kw1199 dX9_beginText_16 (fun H locs hw => ?_)
  obtain ⟨o5, eo5, h⟩ := z_lt h
  have hw : Wd dC dI A s.heap [wX9 h_me q_me k_me o5] H locs := by rw [eo5]; exact hw
  refine lv_aload_n hx hb dX9_beginText_19 rfl (lv_at hl 0 rfl) ?_
  refine lv_iconst (v := 0) hx hb dX9_beginText_20 (by decide) ?_
  refine fpX9_26 hx hb hts hown hK hw 0 rfl kw1202 dX9_beginText_21 (fun H locs hw => ?_)
  obtain ⟨o6, eo6, h⟩ := z_lt h
  have hw : Wd dC dI A s.heap [wX9 h_me q_me k_me o6] H locs := by rw [eo6]; exact hw
  have hy := Option.some.inj h
  rw [← hQz, ← hy]
  exact xr_v hx hb hr hlk hK hw dX9_beginText_24

def f_X9_isSign (o_me : Ob) (p0 : Int32) : Option (Int32) :=
  if (gI o_me 16) = (3 : Int32) then
  (if (lg_cmp (gL o_me 17) p0.toInt64) = (0 : Int32) then
  (some (1 : Int32))
  else
  (some (0 : Int32)))
  else
  (some (0 : Int32))
set_option maxHeartbeats 4000000 in
set_option maxRecDepth 100000 in
theorem m_X9_isSign (l : Launch) (dC : Nat → ClassId) (dI : Nat → Nat → Nat) (sz : Nat) (h_me : Nat) (q_me : Nat → Nat) (k_me : Nat → ClassId) (o_me : Ob) (p0 : Int32) (y : Int32) (h : f_X9_isSign o_me p0 = some y) : CI l yX9_isSign cX9_isSign 2 (some .boolean) ({ frames := 0, cells := 0, slots := 0, locals := 0 } : Room) dC dI sz [.ref h_me, .int p0] [wX9 h_me q_me k_me o_me] [tX9 k_me] y [wX9 h_me q_me k_me o_me] := by
  refine CC_of (by decide) (Nat.le_of_ble_eq_true rfl) ?_
  intro p e s m below meth c A ls hx hb hml hr hlk hnm hown hts hX hK hP hD hA hl
  have hl : lv_has ls 2 [(0, .ref h_me), (1, .int p0)] := hl
  have hown : s.vm.findClass RX9 = some m.cls := hown
  have hw : Wd dC dI A s.heap [wX9 h_me q_me k_me o_me] s.heap [] := ⟨hP, hD, va_S.rf⟩
  generalize hQz : (MQ below (QI dC dI (fun r (_ : Unit) => r = y) (fun _ => Jn [wX9 h_me q_me k_me o_me]) (fun _ => Jt [tX9 k_me]) A) ([.ref h_me, .int p0] : List Value).toArray s 0 0 A) = Qz
  clear hP hD hnm
  unfold f_X9_isSign at h
  refine lv_aload_n hx hb dX9_isSign_0 rfl (lv_at hl 0 rfl) ?_
  refine fgX9_16 hx hb hts hown hK hw 0 rfl kw1192 dX9_isSign_1 ?_
  refine lv_iconst (v := 3) hx hb dX9_isSign_4 (by decide) ?_
  refine lv_icmp_ne (tgt := 22) hx hb dX9_isSign_5 (by decide) (fun c => ?_) (fun c => ?_)
  · have h := z_f h c
    refine lv_iconst (v := 0) hx hb dX9_isSign_22 (by decide) ?_
    have hy := Option.some.inj h
    rw [← hQz, ← hy]
    exact xr_i (v := (0 : Int32)) hx hb hr rfl hlk hK hw dX9_isSign_23
  · have h := z_t h c
    refine lv_aload_n hx hb dX9_isSign_8 rfl (lv_at hl 0 rfl) ?_
    refine fgX9_17 hx hb hts hown hK hw 0 rfl kw1193 dX9_isSign_9 ?_
    refine lv_iload_n hx hb dX9_isSign_12 rfl (lv_at hl 1 rfl) ?_
    refine lv_i2l hx hb dX9_isSign_13 rfl ?_
    refine W.lcmp hx hb dX9_isSign_14 ?_
    refine lv_if_ne (tgt := 22) hx hb dX9_isSign_15 (by decide) (fun c => ?_) (fun c => ?_)
    · have h := z_f h c
      refine lv_iconst (v := 0) hx hb dX9_isSign_22 (by decide) ?_
      have hy := Option.some.inj h
      rw [← hQz, ← hy]
      exact xr_i (v := (0 : Int32)) hx hb hr rfl hlk hK hw dX9_isSign_23
    · have h := z_t h c
      refine lv_iconst (v := 1) hx hb dX9_isSign_18 (by decide) ?_
      refine lv_goto (tgt := 23) hx hb dX9_isSign_19 (by decide) ?_
      have hy := Option.some.inj h
      rw [← hQz, ← hy]
      exact xr_i (v := (1 : Int32)) hx hb hr rfl hlk hK hw dX9_isSign_23

def bk_X9_inner_33 (o_me : Ob) (rec_4_0 : Int32 × Int32 → Option (Int32)) (v2 : Int32) (s0 : Int32) : Option (Int32) :=
  zlt (v2 + (1 : Int32)) fun x2 =>
  rec_4_0 (s0, x2)
def lb_X9_inner_4 (o_me : Ob)  (rec_4_0 : Int32 × Int32 → Option (Int32)) (v1 : Int32) (v2 : Int32) : Option (Int32) :=
  if (gI o_me 29) ≤ v2 then
  (some v1)
  else
  (zgd (zin v2 400) <|
  if (gA o_me 27 v2.toNatClampNeg) < (31 : Int32) then
  (bk_X9_inner_33 o_me rec_4_0 v2 v1)
  else
  (zgd (zin v2 400) <|
  bk_X9_inner_33 o_me rec_4_0 v2 (gA o_me 27 v2.toNatClampNeg)))
def lp_X9_inner_4 (o_me : Ob)  : Nat → (Int32 × Int32) → Option (Int32) := zit (fun rec a => lb_X9_inner_4 o_me  rec a.1 a.2)
def f_X9_inner (o_me : Ob) : Option (Int32) :=
  lp_X9_inner_4 o_me  zfu ((-1 : Int32), (0 : Int32))
set_option maxHeartbeats 4000000 in
set_option maxRecDepth 100000 in
theorem m_X9_inner (l : Launch) (dC : Nat → ClassId) (dI : Nat → Nat → Nat) (sz : Nat) (h_me : Nat) (q_me : Nat → Nat) (k_me : Nat → ClassId) (o_me : Ob) (y : Int32) (h : f_X9_inner o_me = some y) : CI l yX9_inner cX9_inner 3 (some .int) ({ frames := 0, cells := 0, slots := 0, locals := 0 } : Room) dC dI sz [.ref h_me] [wX9 h_me q_me k_me o_me] [tX9 k_me] y [wX9 h_me q_me k_me o_me] := by
  refine CC_of (by decide) (Nat.le_of_ble_eq_true rfl) ?_
  intro p e s m below meth c A ls hx hb hml hr hlk hnm hown hts hX hK hP hD hA hl
  have hl : lv_has ls 3 [(0, .ref h_me)] := hl
  have hown : s.vm.findClass RX9 = some m.cls := hown
  have hw : Wd dC dI A s.heap [wX9 h_me q_me k_me o_me] s.heap [] := ⟨hP, hD, va_S.rf⟩
  generalize hQz : (MQ below (QI dC dI (fun r (_ : Unit) => r = y) (fun _ => Jn [wX9 h_me q_me k_me o_me]) (fun _ => Jt [tX9 k_me]) A) ([.ref h_me] : List Value).toArray s 0 0 A) = Qz
  clear hP hD hnm
  have bk_33_1 : ∀ (rec_4_0 : Int32 × Int32 → Option (Int32)) (hrec_4_0 : ∀ (v1 : Int32) (v2 : Int32) (H : Heap) (locs : List Loc) (ls : Array Slot), rec_4_0 (v1, v2) = some y → Wd dC dI A s.heap [wX9 h_me q_me k_me o_me] H locs → lv_has ls 3 [(0, .ref h_me), (1, .int v1), (2, .int v2)] → W p l e ({ frames := 0, cells := 0, slots := 0, locals := 0 } : Room) s m ([.ref h_me] : List Value).toArray below meth c H locs 0 0 Qz (F0 m 4 ls [])), ∀ (v2 : Int32) (s0 : Int32) (H : Heap) (locs : List Loc) (ls : Array Slot), bk_X9_inner_33 o_me rec_4_0 v2 s0 = some y → Wd dC dI A s.heap [wX9 h_me q_me k_me o_me] H locs → lv_has ls 3 [(0, .ref h_me), (2, .int v2)] → W p l e ({ frames := 0, cells := 0, slots := 0, locals := 0 } : Room) s m ([.ref h_me] : List Value).toArray below meth c H locs 0 0 Qz (F0 m 33 ls [.int s0]) := by
    intro rec_4_0 hrec_4_0
    intro v2 s0 H locs ls h hw hl
    unfold bk_X9_inner_33 at h
    refine lv_istore_n (lv' := [(1, .int s0), (0, .ref h_me), (2, .int v2)]) hx hb dX9_inner_33 rfl hl (by decide) rfl (fun ls hl => ?_)
    obtain ⟨x2, ex2, h⟩ := z_lt h
    refine lv_iinc (v := x2) (lv' := [(2, .int x2), (1, .int s0), (0, .ref h_me)]) hx hb dX9_inner_34 hl (k := 2) rfl ((congrArg (v2 + ·) (show Int32.ofInt 1 = (1 : Int32) from by decide)).trans ex2.symm) (by decide) rfl (fun ls hl => ?_)
    refine lv_goto (tgt := 4) hx hb dX9_inner_37 (by decide) ?_
    exact hrec_4_0 s0 x2 _ _ _ h hw (lv_sub hl [2, 1, 0] rfl)
  have lp_4_0 : ∀ (N : Nat), ∀ (v1 : Int32) (v2 : Int32) (H : Heap) (locs : List Loc) (ls : Array Slot), lp_X9_inner_4 o_me  N (v1, v2) = some y → Wd dC dI A s.heap [wX9 h_me q_me k_me o_me] H locs → lv_has ls 3 [(0, .ref h_me), (1, .int v1), (2, .int v2)] → W p l e ({ frames := 0, cells := 0, slots := 0, locals := 0 } : Room) s m ([.ref h_me] : List Value).toArray below meth c H locs 0 0 Qz (F0 m 4 ls []) := by
    intro N
    induction N with
    | zero =>
      intro v1 v2 H locs ls h hw hl
      exact absurd (show (none : Option (Int32)) = some y from h) (by simp)
    | succ N ih =>
      intro v1 v2 H locs ls h hw hl
      have h : lb_X9_inner_4 o_me  (lp_X9_inner_4 o_me  N) v1 v2 = some y := h
      unfold lb_X9_inner_4 at h
      refine lv_iload_n hx hb dX9_inner_4 rfl (lv_at hl 2 rfl) ?_
      refine lv_aload_n hx hb dX9_inner_5 rfl (lv_at hl 0 rfl) ?_
      refine fgX9_29 hx hb hts hown hK hw 0 rfl kw1205 dX9_inner_6 ?_
      refine lv_icmp_ge (tgt := 40) hx hb dX9_inner_9 (by decide) (fun c => ?_) (fun c => ?_)
      · have h := z_t h c
        refine lv_iload_n hx hb dX9_inner_40 rfl (lv_at hl 1 rfl) ?_
        have hy := Option.some.inj h
        rw [← hQz, ← hy]
        exact xr_i (v := v1) hx hb hr rfl hlk hK hw dX9_inner_41
      · have h := z_f h c
        refine lv_aload_n hx hb dX9_inner_12 rfl (lv_at hl 0 rfl) ?_
        refine fgX9_27 hx hb hts hown hK hw 0 rfl kw1203 dX9_inner_13 ?_
        refine lv_iload_n hx hb dX9_inner_16 rfl (lv_at hl 2 rfl) ?_
        obtain ⟨g1, h⟩ := z_gd h
        refine faX9_27 hx hb hK hw 0 rfl rfl g1 dX9_inner_17 ?_
        refine lv_bipush (v := 31) hx hb dX9_inner_18 (by decide) ?_
        refine lv_icmp_lt (tgt := 32) hx hb dX9_inner_20 (by decide) (fun c => ?_) (fun c => ?_)
        · have h := z_t h c
          refine lv_iload_n hx hb dX9_inner_32 rfl (lv_at hl 1 rfl) ?_
          exact bk_33_1 (lp_X9_inner_4 o_me  N) ih v2 v1 _ _ _ h hw (lv_sub hl [0, 2] rfl)
        · have h := z_f h c
          refine lv_aload_n hx hb dX9_inner_23 rfl (lv_at hl 0 rfl) ?_
          refine fgX9_27 hx hb hts hown hK hw 0 rfl kw1203 dX9_inner_24 ?_
          refine lv_iload_n hx hb dX9_inner_27 rfl (lv_at hl 2 rfl) ?_
          obtain ⟨g3, h⟩ := z_gd h
          refine faX9_27 hx hb hK hw 0 rfl rfl g3 dX9_inner_28 ?_
          refine lv_goto (tgt := 33) hx hb dX9_inner_29 (by decide) ?_
          exact bk_33_1 (lp_X9_inner_4 o_me  N) ih v2 (gA o_me 27 v2.toNatClampNeg) _ _ _ h hw (lv_sub hl [0, 2] rfl)
  unfold f_X9_inner at h
  refine lv_iconst (v := (-1)) hx hb dX9_inner_0 (by decide) ?_
  refine lv_istore_n (lv' := [(1, .int (-1 : Int32)), (0, .ref h_me)]) hx hb dX9_inner_1 rfl hl (by decide) rfl (fun ls hl => ?_)
  refine lv_iconst (v := 0) hx hb dX9_inner_2 (by decide) ?_
  refine lv_istore_n (lv' := [(2, .int (0 : Int32)), (1, .int (-1 : Int32)), (0, .ref h_me)]) hx hb dX9_inner_3 rfl hl (by decide) rfl (fun ls hl => ?_)
  exact lp_4_0  zfu (-1 : Int32) (0 : Int32) _ _ _ h hw (lv_sub hl [2, 1, 0] rfl)

def bk_X9_isCompared_36 (o_me : Ob)  (v1 : Int32) : Option (Int32) :=
  if v1 < (0 : Int32) then
  (some (0 : Int32))
  else
  (zgd (zin v1 400) <|
  (f_X9_in ((gA o_me 27 v1.toNatClampNeg).toInt64) (25 : Int64) (27 : Int64)).bind fun z3 =>
  if z3 = (0 : Int32) then
  (some (0 : Int32))
  else
  (some (1 : Int32)))
def lb_X9_isCompared_7 (o_me : Ob)  (rec_7_0 : Int32 → Option (Int32)) (v1 : Int32) : Option (Int32) :=
  if v1 < (0 : Int32) then
  (bk_X9_isCompared_36 o_me  v1)
  else
  (zgd (zin v1 400) <|
  (f_X9_in ((gA o_me 27 v1.toNatClampNeg).toInt64) (20 : Int64) (24 : Int64)).bind fun z5 =>
  if z5 = (0 : Int32) then
  (bk_X9_isCompared_36 o_me  v1)
  else
  (zlt (v1 + (-1 : Int32)) fun x6 =>
  rec_7_0 x6))
def lp_X9_isCompared_7 (o_me : Ob)  : Nat → Int32 → Option (Int32) := zit (fun rec a => lb_X9_isCompared_7 o_me  rec a)
def f_X9_isCompared (o_me : Ob) : Option (Int32) :=
  zlt ((gI o_me 29) - (1 : Int32)) fun x1 =>
  lp_X9_isCompared_7 o_me  zfu x1
set_option maxHeartbeats 4000000 in
set_option maxRecDepth 100000 in
theorem m_X9_isCompared (l : Launch) (dC : Nat → ClassId) (dI : Nat → Nat → Nat) (sz : Nat) (h_me : Nat) (q_me : Nat → Nat) (k_me : Nat → ClassId) (o_me : Ob) (y : Int32) (h : f_X9_isCompared o_me = some y) : CI l yX9_isCompared cX9_isCompared 2 (some .boolean) ({ frames := 1, cells := 0, slots := 0, locals := 25 } : Room) dC dI sz [.ref h_me] [wX9 h_me q_me k_me o_me] [tX9 k_me] y [wX9 h_me q_me k_me o_me] := by
  refine CC_of (by decide) (Nat.le_of_ble_eq_true rfl) ?_
  intro p e s m below meth c A ls hx hb hml hr hlk hnm hown hts hX hK hP hD hA hl
  have hl : lv_has ls 2 [(0, .ref h_me)] := hl
  have hown : s.vm.findClass RX9 = some m.cls := hown
  have hw : Wd dC dI A s.heap [wX9 h_me q_me k_me o_me] s.heap [] := ⟨hP, hD, va_S.rf⟩
  generalize hQz : (MQ below (QI dC dI (fun r (_ : Unit) => r = y) (fun _ => Jn [wX9 h_me q_me k_me o_me]) (fun _ => Jt [tX9 k_me]) A) ([.ref h_me] : List Value).toArray s 0 0 A) = Qz
  clear hP hD hnm
  have bk_36_1 : ∀ (v1 : Int32) (H : Heap) (locs : List Loc) (ls : Array Slot), bk_X9_isCompared_36 o_me  v1 = some y → Wd dC dI A s.heap [wX9 h_me q_me k_me o_me] H locs → lv_has ls 2 [(0, .ref h_me), (1, .int v1)] → W p l e ({ frames := 1, cells := 0, slots := 0, locals := 25 } : Room) s m ([.ref h_me] : List Value).toArray below meth c H locs 0 0 Qz (F0 m 36 ls []) := by
    intro v1 H locs ls h hw hl
    unfold bk_X9_isCompared_36 at h
    refine lv_iload_n hx hb dX9_isCompared_36 rfl (lv_at hl 1 rfl) ?_
    refine lv_if_lt (tgt := 63) hx hb dX9_isCompared_37 (by decide) (fun c => ?_) (fun c => ?_)
    · have h := z_t h c
      refine lv_iconst (v := 0) hx hb dX9_isCompared_63 (by decide) ?_
      have hy := Option.some.inj h
      rw [← hQz, ← hy]
      exact xr_i (v := (0 : Int32)) hx hb hr rfl hlk hK hw dX9_isCompared_64
    · have h := z_f h c
      refine lv_aload_n hx hb dX9_isCompared_40 rfl (lv_at hl 0 rfl) ?_
      refine fgX9_27 hx hb hts hown hK hw 0 rfl kw1203 dX9_isCompared_41 ?_
      refine lv_iload_n hx hb dX9_isCompared_44 rfl (lv_at hl 1 rfl) ?_
      obtain ⟨g2, h⟩ := z_gd h
      refine faX9_27 hx hb hK hw 0 rfl rfl g2 dX9_isCompared_45 ?_
      refine lv_i2l hx hb dX9_isCompared_46 rfl ?_
      refine lv_ldc2 (v := 25) hx hb hown (hts _ kw1603) dX9_isCompared_47 ?_
      refine lv_ldc2 (v := 27) hx hb hown (hts _ kw1604) dX9_isCompared_50 ?_
      obtain ⟨z3, ez3, h⟩ := z_bd h
      refine xj_i (xrS (As := [.long ((gA o_me 27 v1.toNatClampNeg).toInt64), .long (25 : Int64), .long (27 : Int64)]) (rest := []) ⟨hx, hb, hml, hown, hts⟩ (m_X9_in l dC dI _  ((gA o_me 27 v1.toNatClampNeg).toInt64) (25 : Int64) (27 : Int64) z3 ez3) kw1385 kw1383 kw1384 kw120 hd_X9_in ⟨rfl, rfl⟩ rfl rfl ⟨rfl, rfl⟩ hX hK hw [] (by decide) rfl rfl hl.1 rfl rfl dX9_isCompared_53) hw hA [] (by decide) rfl rfl (fun H locs hw => ?_)
      refine lv_if_eq (tgt := 63) hx hb dX9_isCompared_56 (by decide) (fun c => ?_) (fun c => ?_)
      · have h := z_t h c
        refine lv_iconst (v := 0) hx hb dX9_isCompared_63 (by decide) ?_
        have hy := Option.some.inj h
        rw [← hQz, ← hy]
        exact xr_i (v := (0 : Int32)) hx hb hr rfl hlk hK hw dX9_isCompared_64
      · have h := z_f h c
        refine lv_iconst (v := 1) hx hb dX9_isCompared_59 (by decide) ?_
        refine lv_goto (tgt := 64) hx hb dX9_isCompared_60 (by decide) ?_
        have hy := Option.some.inj h
        rw [← hQz, ← hy]
        exact xr_i (v := (1 : Int32)) hx hb hr rfl hlk hK hw dX9_isCompared_64
  have lp_7_0 : ∀ (N : Nat), ∀ (v1 : Int32) (H : Heap) (locs : List Loc) (ls : Array Slot), lp_X9_isCompared_7 o_me  N v1 = some y → Wd dC dI A s.heap [wX9 h_me q_me k_me o_me] H locs → lv_has ls 2 [(0, .ref h_me), (1, .int v1)] → W p l e ({ frames := 1, cells := 0, slots := 0, locals := 25 } : Room) s m ([.ref h_me] : List Value).toArray below meth c H locs 0 0 Qz (F0 m 7 ls []) := by
    intro N
    induction N with
    | zero =>
      intro v1 H locs ls h hw hl
      exact absurd (show (none : Option (Int32)) = some y from h) (by simp)
    | succ N ih =>
      intro v1 H locs ls h hw hl
      have h : lb_X9_isCompared_7 o_me  (lp_X9_isCompared_7 o_me  N) v1 = some y := h
      unfold lb_X9_isCompared_7 at h
      refine lv_iload_n hx hb dX9_isCompared_7 rfl (lv_at hl 1 rfl) ?_
      refine lv_if_lt (tgt := 36) hx hb dX9_isCompared_8 (by decide) (fun c => ?_) (fun c => ?_)
      · have h := z_t h c
        exact bk_36_1  v1 _ _ _ h hw (lv_sub hl [0, 1] rfl)
      · have h := z_f h c
        refine lv_aload_n hx hb dX9_isCompared_11 rfl (lv_at hl 0 rfl) ?_
        refine fgX9_27 hx hb hts hown hK hw 0 rfl kw1203 dX9_isCompared_12 ?_
        refine lv_iload_n hx hb dX9_isCompared_15 rfl (lv_at hl 1 rfl) ?_
        obtain ⟨g4, h⟩ := z_gd h
        refine faX9_27 hx hb hK hw 0 rfl rfl g4 dX9_isCompared_16 ?_
        refine lv_i2l hx hb dX9_isCompared_17 rfl ?_
        refine lv_ldc2 (v := 20) hx hb hown (hts _ kw1601) dX9_isCompared_18 ?_
        refine lv_ldc2 (v := 24) hx hb hown (hts _ kw1602) dX9_isCompared_21 ?_
        obtain ⟨z5, ez5, h⟩ := z_bd h
        refine xj_i (xrS (As := [.long ((gA o_me 27 v1.toNatClampNeg).toInt64), .long (20 : Int64), .long (24 : Int64)]) (rest := []) ⟨hx, hb, hml, hown, hts⟩ (m_X9_in l dC dI _  ((gA o_me 27 v1.toNatClampNeg).toInt64) (20 : Int64) (24 : Int64) z5 ez5) kw1385 kw1383 kw1384 kw120 hd_X9_in ⟨rfl, rfl⟩ rfl rfl ⟨rfl, rfl⟩ hX hK hw [] (by decide) rfl rfl hl.1 rfl rfl dX9_isCompared_24) hw hA [] (by decide) rfl rfl (fun H locs hw => ?_)
        refine lv_if_eq (tgt := 36) hx hb dX9_isCompared_27 (by decide) (fun c => ?_) (fun c => ?_)
        · have h := z_t h c
          exact bk_36_1  v1 _ _ _ h hw (lv_sub hl [0, 1] rfl)
        · have h := z_f h c
          obtain ⟨x6, ex6, h⟩ := z_lt h
          refine lv_iinc (v := x6) (lv' := [(1, .int x6), (0, .ref h_me)]) hx hb dX9_isCompared_30 hl (k := 1) rfl ((congrArg (v1 + ·) (show Int32.ofInt (-1) = (-1 : Int32) from by decide)).trans ex6.symm) (by decide) rfl (fun ls hl => ?_)
          refine lv_goto (tgt := 7) hx hb dX9_isCompared_33 (by decide) ?_
          exact ih x6 _ _ _ h hw (lv_sub hl [1, 0] rfl)
  unfold f_X9_isCompared at h
  refine lv_aload_n hx hb dX9_isCompared_0 rfl (lv_at hl 0 rfl) ?_
  refine fgX9_29 hx hb hts hown hK hw 0 rfl kw1205 dX9_isCompared_1 ?_
  refine lv_iconst (v := 1) hx hb dX9_isCompared_4 (by decide) ?_
  refine lv_isub hx hb dX9_isCompared_5 ?_
  obtain ⟨x1, ex1, h⟩ := z_lt h
  refine lv_fi (v := x1) ex1.symm ?_
  refine lv_istore_n (lv' := [(1, .int x1), (0, .ref h_me)]) hx hb dX9_isCompared_6 rfl hl (by decide) rfl (fun ls hl => ?_)
  exact lp_7_0  zfu x1 _ _ _ h hw (lv_sub hl [1, 0] rfl)

