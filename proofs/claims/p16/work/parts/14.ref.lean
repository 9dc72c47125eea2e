def f_X9_change (o_me : Ob) (p0 : Int32) (p1 : Int32) : Option (Int32 × Ob) :=
  zgd (zin p0 5484) <|
  zlt (gA o_me 3 p0.toNatClampNeg) fun x2 =>
  zgd (zin p0 5484) <|
  zlt (tA o_me 3 p0.toNatClampNeg p1) fun o4 =>
  zlt (sI o4 1 (0 : Int32)) fun o5 =>
  some (x2, o5)
set_option maxHeartbeats 4000000 in
set_option maxRecDepth 100000 in
theorem m_X9_change (l : Launch) (dC : Nat → ClassId) (dI : Nat → Nat → Nat) (sz : Nat) (h_me : Nat) (q_me : Nat → Nat) (k_me : Nat → ClassId) (o_me : Ob) (p0 : Int32) (p1 : Int32) (y : Int32 × Ob) (h : f_X9_change o_me p0 p1 = some y) : CI l yX9_change cX9_change 4 (some .int) ({ frames := 0, cells := 0, slots := 0, locals := 0 } : Room) dC dI sz [.ref h_me, .int p0, .int p1] [wX9 h_me q_me k_me o_me] [tX9 k_me] y.1 [wX9 h_me q_me k_me y.2] := by
  refine CC_of (by decide) (Nat.le_of_ble_eq_true rfl) ?_
  intro p e s m below meth c A ls hx hb hml hr hlk hnm hown hts hX hK hP hD hA hl
  have hl : lv_has ls 4 [(0, .ref h_me), (1, .int p0), (2, .int p1)] := hl
  have hown : s.vm.findClass RX9 = some m.cls := hown
  have hw : Wd dC dI A s.heap [wX9 h_me q_me k_me o_me] s.heap [] := ⟨hP, hD, va_S.rf⟩
  generalize hQz : (MQ below (QI dC dI (fun r (_ : Unit) => r = y.1) (fun _ => Jn [wX9 h_me q_me k_me y.2]) (fun _ => Jt [tX9 k_me]) A) ([.ref h_me, .int p0, .int p1] : List Value).toArray s 0 0 A) = Qz
  clear hP hD hnm
  unfold f_X9_change at h
  refine lv_aload_n hx hb dX9_change_0 rfl (lv_at hl 0 rfl) ?_
  refine fgX9_3 hx hb hts hown hK hw 0 rfl kw1179 dX9_change_1 ?_
  refine lv_iload_n hx hb dX9_change_4 rfl (lv_at hl 1 rfl) ?_
  obtain ⟨g1, h⟩ := z_gd h
  refine faX9_3 hx hb hK hw 0 rfl rfl g1 dX9_change_5 ?_
  obtain ⟨x2, ex2, h⟩ := z_lt h
  refine lv_fi (v := x2) ex2.symm ?_
  refine lv_istore_n (lv' := [(3, .int x2), (0, .ref h_me), (1, .int p0), (2, .int p1)]) hx hb dX9_change_6 rfl hl (by decide) rfl (fun ls hl => ?_)
  refine lv_aload_n hx hb dX9_change_7 rfl (lv_at hl 1 rfl) ?_
  refine fgX9_3 hx hb hts hown hK hw 0 rfl kw1179 dX9_change_8 ?_
  refine lv_iload_n hx hb dX9_change_11 rfl (lv_at hl 2 rfl) ?_
  refine lv_iload_n hx hb dX9_change_12 rfl (lv_at hl 3 rfl) ?_
  obtain ⟨g3, h⟩ := z_gd h
  refine fbX9_3 hx hb hK hw 0 rfl rfl g3 dX9_change_13 (fun H locs hw => ?_)
  obtain ⟨o4, eo4, h⟩ := z_lt h
  have hw : Wd dC dI A s.heap [wX9 h_me q_me k_me o4] H locs := by rw [eo4]; exact hw
  refine lv_aload_n hx hb dX9_change_14 rfl (lv_at hl 1 rfl) ?_
  refine lv_iconst (v := 0) hx hb dX9_change_15 (by decide) ?_
  refine fpX9_1 hx hb hts hown hK hw 0 rfl kw1177 dX9_change_16 (fun H locs hw => ?_)
  obtain ⟨o5, eo5, h⟩ := z_lt h
  have hw : Wd dC dI A s.heap [wX9 h_me q_me k_me o5] H locs := by rw [eo5]; exact hw
  refine lv_iload_n hx hb dX9_change_19 rfl (lv_at hl 0 rfl) ?_
  have hy := Option.some.inj h
  rw [← hQz, ← hy]
  exact xr_i (v := x2) hx hb hr rfl hlk hK hw dX9_change_20

def bk_X9_circles_111  (rec_9_0 : Int32 × Int32 × Ob → Option (Int32 × Ob)) (rec_23_1 : Int32 × Int32 × Int32 × Ob → Option (Int32 × Ob)) (rec_38_2 : Int32 × Int32 × Int32 × Int32 × Ob → Option (Int32 × Ob)) (v2 : Int32) (v3 : Int32) (v4 : Int32) (s0 : Int32) (s1 : Int32) (o_me : Ob) : Option (Int32 × Ob) :=
  zlt (s1 + s0) fun x6 =>
  zlt (v4 + (1 : Int32)) fun x7 =>
  rec_38_2 (x6, v2, v3, x7, o_me)
def bk_X9_circles_110  (rec_9_0 : Int32 × Int32 × Ob → Option (Int32 × Ob)) (rec_23_1 : Int32 × Int32 × Int32 × Ob → Option (Int32 × Ob)) (rec_38_2 : Int32 × Int32 × Int32 × Int32 × Ob → Option (Int32 × Ob)) (v2 : Int32) (v3 : Int32) (v4 : Int32) (s0 : Int32) (o_me : Ob) : Option (Int32 × Ob) :=
  bk_X9_circles_111  rec_9_0 rec_23_1 rec_38_2 v2 v3 v4 (0 : Int32) s0 o_me
def lb_X9_circles_38  (rec_9_0 : Int32 × Int32 × Ob → Option (Int32 × Ob)) (rec_23_1 : Int32 × Int32 × Int32 × Ob → Option (Int32 × Ob)) (rec_38_2 : Int32 × Int32 × Int32 × Int32 × Ob → Option (Int32 × Ob)) (v1 : Int32) (v2 : Int32) (v3 : Int32) (v4 : Int32) (o_me : Ob) : Option (Int32 × Ob) :=
  if (gA o_me 3 (0 : Int32).toNatClampNeg) ≤ v4 then
  (zlt (v3 + (1 : Int32)) fun x5 =>
  rec_23_1 (v1, v2, x5, o_me))
  else
  (if v3 = v4 then
  (bk_X9_circles_110  rec_9_0 rec_23_1 rec_38_2 v2 v3 v4 v1 o_me)
  else
  (zgd (zin ((64 : Int32) + v2) 5484) <|
  (f_X9_is (gA o_me 3 ((64 : Int32) + v2).toNatClampNeg) v3).bind fun z9 =>
  if z9 = (0 : Int32) then
  (bk_X9_circles_110  rec_9_0 rec_23_1 rec_38_2 v2 v3 v4 v1 o_me)
  else
  (zgd (zin ((64 : Int32) + v3) 5484) <|
  (f_X9_is (gA o_me 3 ((64 : Int32) + v3).toNatClampNeg) v4).bind fun z11 =>
  if z11 = (0 : Int32) then
  (bk_X9_circles_110  rec_9_0 rec_23_1 rec_38_2 v2 v3 v4 v1 o_me)
  else
  (zgd (zin ((64 : Int32) + v4) 5484) <|
  (f_X9_is (gA o_me 3 ((64 : Int32) + v4).toNatClampNeg) v2).bind fun z13 =>
  if z13 = (0 : Int32) then
  (bk_X9_circles_110  rec_9_0 rec_23_1 rec_38_2 v2 v3 v4 v1 o_me)
  else
  (bk_X9_circles_111  rec_9_0 rec_23_1 rec_38_2 v2 v3 v4 (1 : Int32) v1 o_me)))))
def lp_X9_circles_38  (rec_9_0 : Int32 × Int32 × Ob → Option (Int32 × Ob)) (rec_23_1 : Int32 × Int32 × Int32 × Ob → Option (Int32 × Ob)) : Nat → (Int32 × Int32 × Int32 × Int32 × Ob) → Option (Int32 × Ob) := zit (fun rec a => lb_X9_circles_38  rec_9_0 rec_23_1 rec a.1 a.2.1 a.2.2.1 a.2.2.2.1 a.2.2.2.2)
def lb_X9_circles_23  (rec_9_0 : Int32 × Int32 × Ob → Option (Int32 × Ob)) (rec_23_1 : Int32 × Int32 × Int32 × Ob → Option (Int32 × Ob)) (v1 : Int32) (v2 : Int32) (v3 : Int32) (o_me : Ob) : Option (Int32 × Ob) :=
  if (gA o_me 3 (0 : Int32).toNatClampNeg) ≤ v3 then
  (zlt (v2 + (1 : Int32)) fun x3 =>
  rec_9_0 (v1, x3, o_me))
  else
  (zlt (v2 + (1 : Int32)) fun x4 =>
  lp_X9_circles_38  rec_9_0 rec_23_1 zfu (v1, v2, v3, x4, o_me))
def lp_X9_circles_23  (rec_9_0 : Int32 × Int32 × Ob → Option (Int32 × Ob)) : Nat → (Int32 × Int32 × Int32 × Ob) → Option (Int32 × Ob) := zit (fun rec a => lb_X9_circles_23  rec_9_0 rec a.1 a.2.1 a.2.2.1 a.2.2.2)
def lb_X9_circles_9   (rec_9_0 : Int32 × Int32 × Ob → Option (Int32 × Ob)) (v1 : Int32) (v2 : Int32) (o_me : Ob) : Option (Int32 × Ob) :=
  if (gA o_me 3 (0 : Int32).toNatClampNeg) ≤ v2 then
  (some (v1, o_me))
  else
  (zlt (v2 + (1 : Int32)) fun x2 =>
  lp_X9_circles_23  rec_9_0 zfu (v1, v2, x2, o_me))
def lp_X9_circles_9   : Nat → (Int32 × Int32 × Ob) → Option (Int32 × Ob) := zit (fun rec a => lb_X9_circles_9   rec a.1 a.2.1 a.2.2)
def f_X9_circles (o_me : Ob) : Option (Int32 × Ob) :=
  zlt (sI o_me 0 (0 : Int32)) fun o1 =>
  lp_X9_circles_9   zfu ((0 : Int32), (0 : Int32), o1)
set_option maxHeartbeats 4000000 in
set_option maxRecDepth 100000 in
theorem m_X9_circles (l : Launch) (dC : Nat → ClassId) (dI : Nat → Nat → Nat) (sz : Nat) (h_me : Nat) (q_me : Nat → Nat) (k_me : Nat → ClassId) (o_me : Ob) (y : Int32 × Ob) (h : f_X9_circles o_me = some y) : CI l yX9_circles cX9_circles 5 (some .int) ({ frames := 1, cells := 0, slots := 0, locals := 21 } : Room) dC dI sz [.ref h_me] [wX9 h_me q_me k_me o_me] [tX9 k_me] y.1 [wX9 h_me q_me k_me y.2] := by
  refine CC_of (by decide) (Nat.le_of_ble_eq_true rfl) ?_
  intro p e s m below meth c A ls hx hb hml hr hlk hnm hown hts hX hK hP hD hA hl
  have hl : lv_has ls 5 [(0, .ref h_me)] := hl
  have hown : s.vm.findClass RX9 = some m.cls := hown
  have hw : Wd dC dI A s.heap [wX9 h_me q_me k_me o_me] s.heap [] := ⟨hP, hD, va_S.rf⟩
  generalize hQz : (MQ below (QI dC dI (fun r (_ : Unit) => r = y.1) (fun _ => Jn [wX9 h_me q_me k_me y.2]) (fun _ => Jt [tX9 k_me]) A) ([.ref h_me] : List Value).toArray s 0 0 A) = Qz
  clear hP hD hnm
  have bk_111_4 : ∀ (rec_9_0 : Int32 × Int32 × Ob → Option (Int32 × Ob)) (hrec_9_0 : ∀ (v1 : Int32) (v2 : Int32) (o_me : Ob) (H : Heap) (locs : List Loc) (ls : Array Slot), rec_9_0 (v1, v2, o_me) = some y → Wd dC dI A s.heap [wX9 h_me q_me k_me o_me] H locs → lv_has ls 5 [(0, .ref h_me), (1, .int v1), (2, .int v2)] → W p l e ({ frames := 1, cells := 0, slots := 0, locals := 21 } : Room) s m ([.ref h_me] : List Value).toArray below meth c H locs 0 0 Qz (F0 m 9 ls [])) (rec_23_1 : Int32 × Int32 × Int32 × Ob → Option (Int32 × Ob)) (hrec_23_1 : ∀ (v1 : Int32) (v2 : Int32) (v3 : Int32) (o_me : Ob) (H : Heap) (locs : List Loc) (ls : Array Slot), rec_23_1 (v1, v2, v3, o_me) = some y → Wd dC dI A s.heap [wX9 h_me q_me k_me o_me] H locs → lv_has ls 5 [(0, .ref h_me), (1, .int v1), (2, .int v2), (3, .int v3)] → W p l e ({ frames := 1, cells := 0, slots := 0, locals := 21 } : Room) s m ([.ref h_me] : List Value).toArray below meth c H locs 0 0 Qz (F0 m 23 ls [])) (rec_38_2 : Int32 × Int32 × Int32 × Int32 × Ob → Option (Int32 × Ob)) (hrec_38_2 : ∀ (v1 : Int32) (v2 : Int32) (v3 : Int32) (v4 : Int32) (o_me : Ob) (H : Heap) (locs : List Loc) (ls : Array Slot), rec_38_2 (v1, v2, v3, v4, o_me) = some y → Wd dC dI A s.heap [wX9 h_me q_me k_me o_me] H locs → lv_has ls 5 [(0, .ref h_me), (1, .int v1), (2, .int v2), (3, .int v3), (4, .int v4)] → W p l e ({ frames := 1, cells := 0, slots := 0, locals := 21 } : Room) s m ([.ref h_me] : List Value).toArray below meth c H locs 0 0 Qz (F0 m 38 ls [])), ∀ (v2 : Int32) (v3 : Int32) (v4 : Int32) (s0 : Int32) (s1 : Int32) (o_me : Ob) (H : Heap) (locs : List Loc) (ls : Array Slot), bk_X9_circles_111  rec_9_0 rec_23_1 rec_38_2 v2 v3 v4 s0 s1 o_me = some y → Wd dC dI A s.heap [wX9 h_me q_me k_me o_me] H locs → lv_has ls 5 [(0, .ref h_me), (2, .int v2), (3, .int v3), (4, .int v4)] → W p l e ({ frames := 1, cells := 0, slots := 0, locals := 21 } : Room) s m ([.ref h_me] : List Value).toArray below meth c H locs 0 0 Qz (F0 m 111 ls [.int s0, .int s1]) := by
    intro rec_9_0 hrec_9_0 rec_23_1 hrec_23_1 rec_38_2 hrec_38_2
    intro v2 v3 v4 s0 s1 o_me H locs ls h hw hl
    unfold bk_X9_circles_111 at h
    refine lv_iadd hx hb dX9_circles_111 ?_
    obtain ⟨x6, ex6, h⟩ := z_lt h
    refine lv_fi (v := x6) ex6.symm ?_
    refine lv_istore_n (lv' := [(1, .int x6), (0, .ref h_me), (2, .int v2), (3, .int v3), (4, .int v4)]) hx hb dX9_circles_112 rfl hl (by decide) rfl (fun ls hl => ?_)
    obtain ⟨x7, ex7, h⟩ := z_lt h
    refine lv_iinc (v := x7) (lv' := [(4, .int x7), (1, .int x6), (0, .ref h_me), (2, .int v2), (3, .int v3)]) hx hb dX9_circles_113 hl (k := 4) rfl ((congrArg (v4 + ·) (show Int32.ofInt 1 = (1 : Int32) from by decide)).trans ex7.symm) (by decide) rfl (fun ls hl => ?_)
    refine lv_goto (tgt := 38) hx hb dX9_circles_116 (by decide) ?_
    exact hrec_38_2 x6 v2 v3 x7 o_me _ _ _ h hw (lv_sub hl [2, 1, 3, 4, 0] rfl)
  have bk_110_3 : ∀ (rec_9_0 : Int32 × Int32 × Ob → Option (Int32 × Ob)) (hrec_9_0 : ∀ (v1 : Int32) (v2 : Int32) (o_me : Ob) (H : Heap) (locs : List Loc) (ls : Array Slot), rec_9_0 (v1, v2, o_me) = some y → Wd dC dI A s.heap [wX9 h_me q_me k_me o_me] H locs → lv_has ls 5 [(0, .ref h_me), (1, .int v1), (2, .int v2)] → W p l e ({ frames := 1, cells := 0, slots := 0, locals := 21 } : Room) s m ([.ref h_me] : List Value).toArray below meth c H locs 0 0 Qz (F0 m 9 ls [])) (rec_23_1 : Int32 × Int32 × Int32 × Ob → Option (Int32 × Ob)) (hrec_23_1 : ∀ (v1 : Int32) (v2 : Int32) (v3 : Int32) (o_me : Ob) (H : Heap) (locs : List Loc) (ls : Array Slot), rec_23_1 (v1, v2, v3, o_me) = some y → Wd dC dI A s.heap [wX9 h_me q_me k_me o_me] H locs → lv_has ls 5 [(0, .ref h_me), (1, .int v1), (2, .int v2), (3, .int v3)] → W p l e ({ frames := 1, cells := 0, slots := 0, locals := 21 } : Room) s m ([.ref h_me] : List Value).toArray below meth c H locs 0 0 Qz (F0 m 23 ls [])) (rec_38_2 : Int32 × Int32 × Int32 × Int32 × Ob → Option (Int32 × Ob)) (hrec_38_2 : ∀ (v1 : Int32) (v2 : Int32) (v3 : Int32) (v4 : Int32) (o_me : Ob) (H : Heap) (locs : List Loc) (ls : Array Slot), rec_38_2 (v1, v2, v3, v4, o_me) = some y → Wd dC dI A s.heap [wX9 h_me q_me k_me o_me] H locs → lv_has ls 5 [(0, .ref h_me), (1, .int v1), (2, .int v2), (3, .int v3), (4, .int v4)] → W p l e ({ frames := 1, cells := 0, slots := 0, locals := 21 } : Room) s m ([.ref h_me] : List Value).toArray below meth c H locs 0 0 Qz (F0 m 38 ls [])), ∀ (v2 : Int32) (v3 : Int32) (v4 : Int32) (s0 : Int32) (o_me : Ob) (H : Heap) (locs : List Loc) (ls : Array Slot), bk_X9_circles_110  rec_9_0 rec_23_1 rec_38_2 v2 v3 v4 s0 o_me = some y → Wd dC dI A s.heap [wX9 h_me q_me k_me o_me] H locs → lv_has ls 5 [(0, .ref h_me), (2, .int v2), (3, .int v3), (4, .int v4)] → W p l e ({ frames := 1, cells := 0, slots := 0, locals := 21 } : Room) s m ([.ref h_me] : List Value).toArray below meth c H locs 0 0 Qz (F0 m 110 ls [.int s0]) := by
    intro rec_9_0 hrec_9_0 rec_23_1 hrec_23_1 rec_38_2 hrec_38_2
    intro v2 v3 v4 s0 o_me H locs ls h hw hl
    unfold bk_X9_circles_110 at h
    refine lv_iconst (v := 0) hx hb dX9_circles_110 (by decide) ?_
    exact bk_111_4 rec_9_0 hrec_9_0 rec_23_1 hrec_23_1 rec_38_2 hrec_38_2 v2 v3 v4 (0 : Int32) s0 o_me _ _ _ h hw (lv_sub hl [0, 1, 2, 3] rfl)
  have lp_38_2 : ∀ (rec_9_0 : Int32 × Int32 × Ob → Option (Int32 × Ob)) (hrec_9_0 : ∀ (v1 : Int32) (v2 : Int32) (o_me : Ob) (H : Heap) (locs : List Loc) (ls : Array Slot), rec_9_0 (v1, v2, o_me) = some y → Wd dC dI A s.heap [wX9 h_me q_me k_me o_me] H locs → lv_has ls 5 [(0, .ref h_me), (1, .int v1), (2, .int v2)] → W p l e ({ frames := 1, cells := 0, slots := 0, locals := 21 } : Room) s m ([.ref h_me] : List Value).toArray below meth c H locs 0 0 Qz (F0 m 9 ls [])) (rec_23_1 : Int32 × Int32 × Int32 × Ob → Option (Int32 × Ob)) (hrec_23_1 : ∀ (v1 : Int32) (v2 : Int32) (v3 : Int32) (o_me : Ob) (H : Heap) (locs : List Loc) (ls : Array Slot), rec_23_1 (v1, v2, v3, o_me) = some y → Wd dC dI A s.heap [wX9 h_me q_me k_me o_me] H locs → lv_has ls 5 [(0, .ref h_me), (1, .int v1), (2, .int v2), (3, .int v3)] → W p l e ({ frames := 1, cells := 0, slots := 0, locals := 21 } : Room) s m ([.ref h_me] : List Value).toArray below meth c H locs 0 0 Qz (F0 m 23 ls [])) (N : Nat), ∀ (v1 : Int32) (v2 : Int32) (v3 : Int32) (v4 : Int32) (o_me : Ob) (H : Heap) (locs : List Loc) (ls : Array Slot), lp_X9_circles_38  rec_9_0 rec_23_1 N (v1, v2, v3, v4, o_me) = some y → Wd dC dI A s.heap [wX9 h_me q_me k_me o_me] H locs → lv_has ls 5 [(0, .ref h_me), (1, .int v1), (2, .int v2), (3, .int v3), (4, .int v4)] → W p l e ({ frames := 1, cells := 0, slots := 0, locals := 21 } : Room) s m ([.ref h_me] : List Value).toArray below meth c H locs 0 0 Qz (F0 m 38 ls []) := by
    intro rec_9_0 hrec_9_0 rec_23_1 hrec_23_1
    intro N
    induction N with
    | zero =>
      intro v1 v2 v3 v4 o_me H locs ls h hw hl
      exact absurd (show (none : Option (Int32 × Ob)) = some y from h) (by simp)
    | succ N ih =>
      intro v1 v2 v3 v4 o_me H locs ls h hw hl
      have h : lb_X9_circles_38  rec_9_0 rec_23_1 (lp_X9_circles_38  rec_9_0 rec_23_1 N) v1 v2 v3 v4 o_me = some y := h
      unfold lb_X9_circles_38 at h
      refine lv_iload hx hb dX9_circles_38 (lv_at hl 4 rfl) ?_
      refine lv_aload_n hx hb dX9_circles_40 rfl (lv_at hl 0 rfl) ?_
      refine fgX9_3 hx hb hts hown hK hw 0 rfl kw1179 dX9_circles_41 ?_
      refine lv_iconst (v := 0) hx hb dX9_circles_44 (by decide) ?_
      refine faX9_3 hx hb hK hw 0 rfl rfl (by decide) dX9_circles_45 ?_
      refine lv_icmp_ge (tgt := 119) hx hb dX9_circles_46 (by decide) (fun c => ?_) (fun c => ?_)
      · have h := z_t h c
        obtain ⟨x5, ex5, h⟩ := z_lt h
        refine lv_iinc (v := x5) (lv' := [(3, .int x5), (0, .ref h_me), (1, .int v1), (2, .int v2), (4, .int v4)]) hx hb dX9_circles_119 hl (k := 3) rfl ((congrArg (v3 + ·) (show Int32.ofInt 1 = (1 : Int32) from by decide)).trans ex5.symm) (by decide) rfl (fun ls hl => ?_)
        refine lv_goto (tgt := 23) hx hb dX9_circles_122 (by decide) ?_
        exact hrec_23_1 v1 v2 x5 o_me _ _ _ h hw (lv_sub hl [1, 2, 3, 0] rfl)
      · have h := z_f h c
        refine lv_iload_n hx hb dX9_circles_49 rfl (lv_at hl 1 rfl) ?_
        refine lv_iload_n hx hb dX9_circles_50 rfl (lv_at hl 3 rfl) ?_
        refine lv_iload hx hb dX9_circles_51 (lv_at hl 4 rfl) ?_
        refine lv_icmp_eq (tgt := 110) hx hb dX9_circles_53 (by decide) (fun c => ?_) (fun c => ?_)
        · have h := z_t h c
          exact bk_110_3 rec_9_0 hrec_9_0 rec_23_1 hrec_23_1 (lp_X9_circles_38  rec_9_0 rec_23_1 N) ih v2 v3 v4 v1 o_me _ _ _ h hw (lv_sub hl [0, 2, 3, 4] rfl)
        · have h := z_f h c
          refine lv_aload_n hx hb dX9_circles_56 rfl (lv_at hl 0 rfl) ?_
          refine fgX9_3 hx hb hts hown hK hw 0 rfl kw1179 dX9_circles_57 ?_
          refine lv_bipush (v := 64) hx hb dX9_circles_60 (by decide) ?_
          refine lv_iload_n hx hb dX9_circles_62 rfl (lv_at hl 2 rfl) ?_
          refine lv_iadd hx hb dX9_circles_63 ?_
          obtain ⟨g8, h⟩ := z_gd h
          refine faX9_3 hx hb hK hw 0 rfl rfl g8 dX9_circles_64 ?_
          refine lv_iload_n hx hb dX9_circles_65 rfl (lv_at hl 3 rfl) ?_
          obtain ⟨z9, ez9, h⟩ := z_bd h
          refine xj_i (xrS (As := [.int (gA o_me 3 ((64 : Int32) + v2).toNatClampNeg), .int v3]) (rest := [.int v1]) ⟨hx, hb, hml, hown, hts⟩ (m_X9_is l dC dI _  (gA o_me 3 ((64 : Int32) + v2).toNatClampNeg) v3 z9 ez9) kw1704 kw1702 kw1703 kw120 hd_X9_is ⟨rfl, rfl⟩ rfl rfl ⟨rfl, rfl⟩ hX hK hw [] (by decide) rfl rfl hl.1 rfl rfl dX9_circles_66) hw hA [] (by decide) rfl rfl (fun H locs hw => ?_)
          refine lv_if_eq (tgt := 110) hx hb dX9_circles_69 (by decide) (fun c => ?_) (fun c => ?_)
          · have h := z_t h c
            exact bk_110_3 rec_9_0 hrec_9_0 rec_23_1 hrec_23_1 (lp_X9_circles_38  rec_9_0 rec_23_1 N) ih v2 v3 v4 v1 o_me _ _ _ h hw (lv_sub hl [0, 2, 3, 4] rfl)
          · have h := z_f h c
            refine lv_aload_n hx hb dX9_circles_72 rfl (lv_at hl 0 rfl) ?_
            refine fgX9_3 hx hb hts hown hK hw 0 rfl kw1179 dX9_circles_73 ?_
            refine lv_bipush (v := 64) hx hb dX9_circles_76 (by decide) ?_
            refine lv_iload_n hx hb dX9_circles_78 rfl (lv_at hl 3 rfl) ?_
            refine lv_iadd hx hb dX9_circles_79 ?_
            obtain ⟨g10, h⟩ := z_gd h
            refine faX9_3 hx hb hK hw 0 rfl rfl g10 dX9_circles_80 ?_
            refine lv_iload hx hb dX9_circles_81 (lv_at hl 4 rfl) ?_
            obtain ⟨z11, ez11, h⟩ := z_bd h
            refine xj_i (xrS (As := [.int (gA o_me 3 ((64 : Int32) + v3).toNatClampNeg), .int v4]) (rest := [.int v1]) ⟨hx, hb, hml, hown, hts⟩ (m_X9_is l dC dI _  (gA o_me 3 ((64 : Int32) + v3).toNatClampNeg) v4 z11 ez11) kw1704 kw1702 kw1703 kw120 hd_X9_is ⟨rfl, rfl⟩ rfl rfl ⟨rfl, rfl⟩ hX hK hw [] (by decide) rfl rfl hl.1 rfl rfl dX9_circles_83) hw hA [] (by decide) rfl rfl (fun H locs hw => ?_)
            refine lv_if_eq (tgt := 110) hx hb dX9_circles_86 (by decide) (fun c => ?_) (fun c => ?_)
            · have h := z_t h c
              exact bk_110_3 rec_9_0 hrec_9_0 rec_23_1 hrec_23_1 (lp_X9_circles_38  rec_9_0 rec_23_1 N) ih v2 v3 v4 v1 o_me _ _ _ h hw (lv_sub hl [0, 2, 3, 4] rfl)
            · have h := z_f h c
              refine lv_aload_n hx hb dX9_circles_89 rfl (lv_at hl 0 rfl) ?_
              refine fgX9_3 hx hb hts hown hK hw 0 rfl kw1179 dX9_circles_90 ?_
              refine lv_bipush (v := 64) hx hb dX9_circles_93 (by decide) ?_
              refine lv_iload hx hb dX9_circles_95 (lv_at hl 4 rfl) ?_
              refine lv_iadd hx hb dX9_circles_97 ?_
              obtain ⟨g12, h⟩ := z_gd h
              refine faX9_3 hx hb hK hw 0 rfl rfl g12 dX9_circles_98 ?_
              refine lv_iload_n hx hb dX9_circles_99 rfl (lv_at hl 2 rfl) ?_
              obtain ⟨z13, ez13, h⟩ := z_bd h
              refine xj_i (xrS (As := [.int (gA o_me 3 ((64 : Int32) + v4).toNatClampNeg), .int v2]) (rest := [.int v1]) ⟨hx, hb, hml, hown, hts⟩ (m_X9_is l dC dI _  (gA o_me 3 ((64 : Int32) + v4).toNatClampNeg) v2 z13 ez13) kw1704 kw1702 kw1703 kw120 hd_X9_is ⟨rfl, rfl⟩ rfl rfl ⟨rfl, rfl⟩ hX hK hw [] (by decide) rfl rfl hl.1 rfl rfl dX9_circles_100) hw hA [] (by decide) rfl rfl (fun H locs hw => ?_)
              refine lv_if_eq (tgt := 110) hx hb dX9_circles_103 (by decide) (fun c => ?_) (fun c => ?_)
              · have h := z_t h c
                exact bk_110_3 rec_9_0 hrec_9_0 rec_23_1 hrec_23_1 (lp_X9_circles_38  rec_9_0 rec_23_1 N) ih v2 v3 v4 v1 o_me _ _ _ h hw (lv_sub hl [0, 2, 3, 4] rfl)
              · have h := z_f h c
                refine lv_iconst (v := 1) hx hb dX9_circles_106 (by decide) ?_
                refine lv_goto (tgt := 111) hx hb dX9_circles_107 (by decide) ?_
                exact bk_111_4 rec_9_0 hrec_9_0 rec_23_1 hrec_23_1 (lp_X9_circles_38  rec_9_0 rec_23_1 N) ih v2 v3 v4 (1 : Int32) v1 o_me _ _ _ h hw (lv_sub hl [0, 2, 3, 4] rfl)
  have lp_23_1 : ∀ (rec_9_0 : Int32 × Int32 × Ob → Option (Int32 × Ob)) (hrec_9_0 : ∀ (v1 : Int32) (v2 : Int32) (o_me : Ob) (H : Heap) (locs : List Loc) (ls : Array Slot), rec_9_0 (v1, v2, o_me) = some y → Wd dC dI A s.heap [wX9 h_me q_me k_me o_me] H locs → lv_has ls 5 [(0, .ref h_me), (1, .int v1), (2, .int v2)] → W p l e ({ frames := 1, cells := 0, slots := 0, locals := 21 } : Room) s m ([.ref h_me] : List Value).toArray below meth c H locs 0 0 Qz (F0 m 9 ls [])) (N : Nat), ∀ (v1 : Int32) (v2 : Int32) (v3 : Int32) (o_me : Ob) (H : Heap) (locs : List Loc) (ls : Array Slot), lp_X9_circles_23  rec_9_0 N (v1, v2, v3, o_me) = some y → Wd dC dI A s.heap [wX9 h_me q_me k_me o_me] H locs → lv_has ls 5 [(0, .ref h_me), (1, .int v1), (2, .int v2), (3, .int v3)] → W p l e ({ frames := 1, cells := 0, slots := 0, locals := 21 } : Room) s m ([.ref h_me] : List Value).toArray below meth c H locs 0 0 Qz (F0 m 23 ls []) := by
    intro rec_9_0 hrec_9_0
    intro N
    induction N with
    | zero =>
      intro v1 v2 v3 o_me H locs ls h hw hl
      exact absurd (show (none : Option (Int32 × Ob)) = some y from h) (by simp)
    | succ N ih =>
      intro v1 v2 v3 o_me H locs ls h hw hl
      have h : lb_X9_circles_23  rec_9_0 (lp_X9_circles_23  rec_9_0 N) v1 v2 v3 o_me = some y := h
      unfold lb_X9_circles_23 at h
      refine lv_iload_n hx hb dX9_circles_23 rfl (lv_at hl 3 rfl) ?_
      refine lv_aload_n hx hb dX9_circles_24 rfl (lv_at hl 0 rfl) ?_
      refine fgX9_3 hx hb hts hown hK hw 0 rfl kw1179 dX9_circles_25 ?_
      refine lv_iconst (v := 0) hx hb dX9_circles_28 (by decide) ?_
      refine faX9_3 hx hb hK hw 0 rfl rfl (by decide) dX9_circles_29 ?_
      refine lv_icmp_ge (tgt := 125) hx hb dX9_circles_30 (by decide) (fun c => ?_) (fun c => ?_)
      · have h := z_t h c
        obtain ⟨x3, ex3, h⟩ := z_lt h
        refine lv_iinc (v := x3) (lv' := [(2, .int x3), (0, .ref h_me), (1, .int v1), (3, .int v3)]) hx hb dX9_circles_125 hl (k := 2) rfl ((congrArg (v2 + ·) (show Int32.ofInt 1 = (1 : Int32) from by decide)).trans ex3.symm) (by decide) rfl (fun ls hl => ?_)
        refine lv_goto (tgt := 9) hx hb dX9_circles_128 (by decide) ?_
        exact hrec_9_0 v1 x3 o_me _ _ _ h hw (lv_sub hl [1, 2, 0] rfl)
      · have h := z_f h c
        refine lv_iload_n hx hb dX9_circles_33 rfl (lv_at hl 2 rfl) ?_
        refine lv_iconst (v := 1) hx hb dX9_circles_34 (by decide) ?_
        refine lv_iadd hx hb dX9_circles_35 ?_
        obtain ⟨x4, ex4, h⟩ := z_lt h
        refine lv_fi (v := x4) ex4.symm ?_
        refine lv_istore (lv' := [(4, .int x4), (0, .ref h_me), (1, .int v1), (2, .int v2), (3, .int v3)]) hx hb dX9_circles_36 hl (by decide) rfl (fun ls hl => ?_)
        exact lp_38_2 rec_9_0 hrec_9_0 (lp_X9_circles_23  rec_9_0 N) ih zfu v1 v2 v3 x4 o_me _ _ _ h hw (lv_sub hl [1, 2, 3, 4, 0] rfl)
  have lp_9_0 : ∀ (N : Nat), ∀ (v1 : Int32) (v2 : Int32) (o_me : Ob) (H : Heap) (locs : List Loc) (ls : Array Slot), lp_X9_circles_9   N (v1, v2, o_me) = some y → Wd dC dI A s.heap [wX9 h_me q_me k_me o_me] H locs → lv_has ls 5 [(0, .ref h_me), (1, .int v1), (2, .int v2)] → W p l e ({ frames := 1, cells := 0, slots := 0, locals := 21 } : Room) s m ([.ref h_me] : List Value).toArray below meth c H locs 0 0 Qz (F0 m 9 ls []) := by
    intro N
    induction N with
    | zero =>
      intro v1 v2 o_me H locs ls h hw hl
      exact absurd (show (none : Option (Int32 × Ob)) = some y from h) (by simp)
    | succ N ih =>
      intro v1 v2 o_me H locs ls h hw hl
      have h : lb_X9_circles_9   (lp_X9_circles_9   N) v1 v2 o_me = some y := h
      unfold lb_X9_circles_9 at h
      refine lv_iload_n hx hb dX9_circles_9 rfl (lv_at hl 2 rfl) ?_
      refine lv_aload_n hx hb dX9_circles_10 rfl (lv_at hl 0 rfl) ?_
      refine fgX9_3 hx hb hts hown hK hw 0 rfl kw1179 dX9_circles_11 ?_
      refine lv_iconst (v := 0) hx hb dX9_circles_14 (by decide) ?_
      refine faX9_3 hx hb hK hw 0 rfl rfl (by decide) dX9_circles_15 ?_
      refine lv_icmp_ge (tgt := 131) hx hb dX9_circles_16 (by decide) (fun c => ?_) (fun c => ?_)
      · have h := z_t h c
        refine lv_iload_n hx hb dX9_circles_131 rfl (lv_at hl 1 rfl) ?_
        have hy := Option.some.inj h
        rw [← hQz, ← hy]
        exact xr_i (v := v1) hx hb hr rfl hlk hK hw dX9_circles_132
      · have h := z_f h c
        refine lv_iload_n hx hb dX9_circles_19 rfl (lv_at hl 2 rfl) ?_
        refine lv_iconst (v := 1) hx hb dX9_circles_20 (by decide) ?_
        refine lv_iadd hx hb dX9_circles_21 ?_
        obtain ⟨x2, ex2, h⟩ := z_lt h
        refine lv_fi (v := x2) ex2.symm ?_
        refine lv_istore_n (lv' := [(3, .int x2), (0, .ref h_me), (1, .int v1), (2, .int v2)]) hx hb dX9_circles_22 rfl hl (by decide) rfl (fun ls hl => ?_)
        exact lp_23_1 (lp_X9_circles_9   N) ih zfu v1 v2 x2 o_me _ _ _ h hw (lv_sub hl [1, 2, 3, 0] rfl)
  unfold f_X9_circles at h
  refine lv_aload_n hx hb dX9_circles_0 rfl (lv_at hl 0 rfl) ?_
  refine lv_iconst (v := 0) hx hb dX9_circles_1 (by decide) ?_
  refine fpX9_0 hx hb hts hown hK hw 0 rfl kw1176 dX9_circles_2 (fun H locs hw => ?_)
  obtain ⟨o1, eo1, h⟩ := z_lt h
  have hw : Wd dC dI A s.heap [wX9 h_me q_me k_me o1] H locs := by rw [eo1]; exact hw
  refine lv_iconst (v := 0) hx hb dX9_circles_5 (by decide) ?_
  refine lv_istore_n (lv' := [(1, .int (0 : Int32)), (0, .ref h_me)]) hx hb dX9_circles_6 rfl hl (by decide) rfl (fun ls hl => ?_)
  refine lv_iconst (v := 0) hx hb dX9_circles_7 (by decide) ?_
  refine lv_istore_n (lv' := [(2, .int (0 : Int32)), (1, .int (0 : Int32)), (0, .ref h_me)]) hx hb dX9_circles_8 rfl hl (by decide) rfl (fun ls hl => ?_)
  exact lp_9_0  zfu (0 : Int32) (0 : Int32) o1 _ _ _ h hw (lv_sub hl [2, 1, 0] rfl)

def bk_X9_isLaw_23 (o_me : Ob)   : Option (Int32) :=
  some (1 : Int32)
def f_X9_isLaw (o_me : Ob) (p0 : Int32) : Option (Int32) :=
  if p0 = (-1 : Int32) then
  (bk_X9_isLaw_23 o_me  )
  else
  ((f_X9_in p0.toInt64 (0 : Int64) (((gA o_me 3 (2 : Int32).toNatClampNeg).toInt64) - (1 : Int64))).bind fun z1 =>
  if z1 = (0 : Int32) then
  (some (0 : Int32))
  else
  (bk_X9_isLaw_23 o_me  ))
set_option maxHeartbeats 4000000 in
set_option maxRecDepth 100000 in
theorem m_X9_isLaw (l : Launch) (dC : Nat → ClassId) (dI : Nat → Nat → Nat) (sz : Nat) (h_me : Nat) (q_me : Nat → Nat) (k_me : Nat → ClassId) (o_me : Ob) (p0 : Int32) (y : Int32) (h : f_X9_isLaw o_me p0 = some y) : CI l yX9_isLaw cX9_isLaw 2 (some .boolean) ({ frames := 1, cells := 0, slots := 0, locals := 25 } : Room) dC dI sz [.ref h_me, .int p0] [wX9 h_me q_me k_me o_me] [tX9 k_me] y [wX9 h_me q_me k_me o_me] := by
  refine CC_of (by decide) (Nat.le_of_ble_eq_true rfl) ?_
  intro p e s m below meth c A ls hx hb hml hr hlk hnm hown hts hX hK hP hD hA hl
  have hl : lv_has ls 2 [(0, .ref h_me), (1, .int p0)] := hl
  have hown : s.vm.findClass RX9 = some m.cls := hown
  have hw : Wd dC dI A s.heap [wX9 h_me q_me k_me o_me] s.heap [] := ⟨hP, hD, va_S.rf⟩
  generalize hQz : (MQ below (QI dC dI (fun r (_ : Unit) => r = y) (fun _ => Jn [wX9 h_me q_me k_me o_me]) (fun _ => Jt [tX9 k_me]) A) ([.ref h_me, .int p0] : List Value).toArray s 0 0 A) = Qz
  clear hP hD hnm
  have bk_23_0 : ∀  (H : Heap) (locs : List Loc) (ls : Array Slot), bk_X9_isLaw_23 o_me   = some y → Wd dC dI A s.heap [wX9 h_me q_me k_me o_me] H locs → lv_has ls 2 [] → W p l e ({ frames := 1, cells := 0, slots := 0, locals := 25 } : Room) s m ([.ref h_me, .int p0] : List Value).toArray below meth c H locs 0 0 Qz (F0 m 23 ls []) := by
    intro  H locs ls h hw hl
    unfold bk_X9_isLaw_23 at h
    refine lv_iconst (v := 1) hx hb dX9_isLaw_23 (by decide) ?_
    refine lv_goto (tgt := 28) hx hb dX9_isLaw_24 (by decide) ?_
    have hy := Option.some.inj h
    rw [← hQz, ← hy]
    exact xr_i (v := (1 : Int32)) hx hb hr rfl hlk hK hw dX9_isLaw_28
  unfold f_X9_isLaw at h
  refine lv_iload_n hx hb dX9_isLaw_0 rfl (lv_at hl 1 rfl) ?_
  refine lv_iconst (v := (-1)) hx hb dX9_isLaw_1 (by decide) ?_
  refine lv_icmp_eq (tgt := 23) hx hb dX9_isLaw_2 (by decide) (fun c => ?_) (fun c => ?_)
  · have h := z_t h c
    exact bk_23_0   _ _ _ h hw (lv_sub hl [] rfl)
  · have h := z_f h c
    refine lv_iload_n hx hb dX9_isLaw_5 rfl (lv_at hl 1 rfl) ?_
    refine lv_i2l hx hb dX9_isLaw_6 rfl ?_
    refine lv_lconst (v := 0) hx hb dX9_isLaw_7 (by decide) ?_
    refine lv_aload_n hx hb dX9_isLaw_8 rfl (lv_at hl 0 rfl) ?_
    refine fgX9_3 hx hb hts hown hK hw 0 rfl kw1179 dX9_isLaw_9 ?_
    refine lv_iconst (v := 2) hx hb dX9_isLaw_12 (by decide) ?_
    refine faX9_3 hx hb hK hw 0 rfl rfl (by decide) dX9_isLaw_13 ?_
    refine lv_i2l hx hb dX9_isLaw_14 rfl ?_
    refine lv_lconst (v := 1) hx hb dX9_isLaw_15 (by decide) ?_
    refine lv_lsub hx hb dX9_isLaw_16 ?_
    obtain ⟨z1, ez1, h⟩ := z_bd h
    refine xj_i (xrS (As := [.long p0.toInt64, .long (0 : Int64), .long (((gA o_me 3 (2 : Int32).toNatClampNeg).toInt64) - (1 : Int64))]) (rest := []) ⟨hx, hb, hml, hown, hts⟩ (m_X9_in l dC dI _  p0.toInt64 (0 : Int64) (((gA o_me 3 (2 : Int32).toNatClampNeg).toInt64) - (1 : Int64)) z1 ez1) kw1385 kw1383 kw1384 kw120 hd_X9_in ⟨rfl, rfl⟩ rfl rfl ⟨rfl, rfl⟩ hX hK hw [] (by decide) rfl rfl hl.1 rfl rfl dX9_isLaw_17) hw hA [] (by decide) rfl rfl (fun H locs hw => ?_)
    refine lv_if_eq (tgt := 27) hx hb dX9_isLaw_20 (by decide) (fun c => ?_) (fun c => ?_)
    · have h := z_t h c
      refine lv_iconst (v := 0) hx hb dX9_isLaw_27 (by decide) ?_
      have hy := Option.some.inj h
      rw [← hQz, ← hy]
      exact xr_i (v := (0 : Int32)) hx hb hr rfl hlk hK hw dX9_isLaw_28
    · have h := z_f h c
      exact bk_23_0   _ _ _ h hw (lv_sub hl [] rfl)

def f_X9_compare (o_me : Ob) (p0 : Int32) (p1 : Int32) : Option (Int32 × Ob) :=
  zlt (sI o_me 0 (0 : Int32)) fun o1 =>
  (f_X9_isLaw o1 p0).bind fun z2 =>
  if z2 = (0 : Int32) then
  (some ((-1 : Int32), o1))
  else
  ((f_X9_isRace p1).bind fun z3 =>
  if z3 = (0 : Int32) then
  (some ((-1 : Int32), o1))
  else
  (zlt (gA o1 3 (3 : Int32).toNatClampNeg) fun x4 =>
  zlt (tA o1 3 (3 : Int32).toNatClampNeg p0) fun o5 =>
  (f_X9_layPlaces o5 p1).bind fun z6 =>
  zlt (tA z6 3 (3 : Int32).toNatClampNeg x4) fun o7 =>
  if (gI o7 43) = (0 : Int32) then
  (some ((-1 : Int32), o7))
  else
  (some (gA o7 42 (0 : Int32).toNatClampNeg, o7))))
set_option maxHeartbeats 4000000 in
set_option maxRecDepth 100000 in
theorem m_X9_compare (l : Launch) (dC : Nat → ClassId) (dI : Nat → Nat → Nat) (sz : Nat) (h_me : Nat) (q_me : Nat → Nat) (k_me : Nat → ClassId) (o_me : Ob) (p0 : Int32) (p1 : Int32) (y : Int32 × Ob) (h : f_X9_compare o_me p0 p1 = some y) : CI l yX9_compare cX9_compare 4 (some .int) ({ frames := 7, cells := 0, slots := 0, locals := 168 } : Room) dC dI sz [.ref h_me, .int p0, .int p1] [wX9 h_me q_me k_me o_me] [tX9 k_me] y.1 [wX9 h_me q_me k_me y.2] := by
  refine CC_of (by decide) (Nat.le_of_ble_eq_true rfl) ?_
  intro p e s m below meth c A ls hx hb hml hr hlk hnm hown hts hX hK hP hD hA hl
  have hl : lv_has ls 4 [(0, .ref h_me), (1, .int p0), (2, .int p1)] := hl
  have hown : s.vm.findClass RX9 = some m.cls := hown
  have hw : Wd dC dI A s.heap [wX9 h_me q_me k_me o_me] s.heap [] := ⟨hP, hD, va_S.rf⟩
  generalize hQz : (MQ below (QI dC dI (fun r (_ : Unit) => r = y.1) (fun _ => Jn [wX9 h_me q_me k_me y.2]) (fun _ => Jt [tX9 k_me]) A) ([.ref h_me, .int p0, .int p1] : List Value).toArray s 0 0 A) = Qz
  clear hP hD hnm
  unfold f_X9_compare at h
  refine lv_aload_n hx hb dX9_compare_0 rfl (lv_at hl 0 rfl) ?_
  refine lv_iconst (v := 0) hx hb dX9_compare_1 (by decide) ?_
  refine fpX9_0 hx hb hts hown hK hw 0 rfl kw1176 dX9_compare_2 (fun H locs hw => ?_)
  obtain ⟨o1, eo1, h⟩ := z_lt h
  have hw : Wd dC dI A s.heap [wX9 h_me q_me k_me o1] H locs := by rw [eo1]; exact hw
  refine lv_aload_n hx hb dX9_compare_5 rfl (lv_at hl 0 rfl) ?_
  refine lv_iload_n hx hb dX9_compare_6 rfl (lv_at hl 1 rfl) ?_
  obtain ⟨z2, ez2, h⟩ := z_bd h
  refine xj_i (xrV (As := [.int p0]) (rest := []) ⟨hx, hb, hml, hown, hts⟩ (m_X9_isLaw l dC dI _ h_me q_me k_me o1 p0 z2 ez2) kw1623 kw1620 kw1622 kw76 kw120 hd_X9_isLaw ⟨rfl, rfl⟩ rfl rfl ⟨rfl, rfl⟩ hX hK hw [0] (by decide) rfl rfl rfl rfl rfl hl.1 rfl rfl dX9_compare_7) hw hA [0] (by decide) rfl rfl (fun H locs hw => ?_)
  have hw : Wd dC dI A s.heap [wX9 h_me q_me k_me o1] H locs := hw
  refine lv_if_eq (tgt := 20) hx hb dX9_compare_10 (by decide) (fun c => ?_) (fun c => ?_)
  · have h := z_t h c
    refine lv_iconst (v := (-1)) hx hb dX9_compare_20 (by decide) ?_
    have hy := Option.some.inj h
    rw [← hQz, ← hy]
    exact xr_i (v := (-1 : Int32)) hx hb hr rfl hlk hK hw dX9_compare_21
  · have h := z_f h c
    refine lv_iload_n hx hb dX9_compare_13 rfl (lv_at hl 2 rfl) ?_
    obtain ⟨z3, ez3, h⟩ := z_bd h
    refine xj_i (xrS (As := [.int p1]) (rest := []) ⟨hx, hb, hml, hown, hts⟩ (m_X9_isRace l dC dI _  p1 z3 ez3) kw1444 kw1442 kw1443 kw120 hd_X9_isRace ⟨rfl, rfl⟩ rfl rfl ⟨rfl, rfl⟩ hX hK hw [] (by decide) rfl rfl hl.1 rfl rfl dX9_compare_14) hw hA [] (by decide) rfl rfl (fun H locs hw => ?_)
    refine lv_if_ne (tgt := 22) hx hb dX9_compare_17 (by decide) (fun c => ?_) (fun c => ?_)
    · have h := z_f h c
      refine lv_aload_n hx hb dX9_compare_22 rfl (lv_at hl 0 rfl) ?_
      refine fgX9_3 hx hb hts hown hK hw 0 rfl kw1179 dX9_compare_23 ?_
      refine lv_iconst (v := 3) hx hb dX9_compare_26 (by decide) ?_
      refine faX9_3 hx hb hK hw 0 rfl rfl (by decide) dX9_compare_27 ?_
      obtain ⟨x4, ex4, h⟩ := z_lt h
      refine lv_fi (v := x4) ex4.symm ?_
      refine lv_istore_n (lv' := [(3, .int x4), (0, .ref h_me), (1, .int p0), (2, .int p1)]) hx hb dX9_compare_28 rfl hl (by decide) rfl (fun ls hl => ?_)
      refine lv_aload_n hx hb dX9_compare_29 rfl (lv_at hl 1 rfl) ?_
      refine fgX9_3 hx hb hts hown hK hw 0 rfl kw1179 dX9_compare_30 ?_
      refine lv_iconst (v := 3) hx hb dX9_compare_33 (by decide) ?_
      refine lv_iload_n hx hb dX9_compare_34 rfl (lv_at hl 2 rfl) ?_
      refine fbX9_3 hx hb hK hw 0 rfl rfl (by decide) dX9_compare_35 (fun H locs hw => ?_)
      obtain ⟨o5, eo5, h⟩ := z_lt h
      have hw : Wd dC dI A s.heap [wX9 h_me q_me k_me o5] H locs := by rw [eo5]; exact hw
      refine lv_aload_n hx hb dX9_compare_36 rfl (lv_at hl 1 rfl) ?_
      refine lv_iload_n hx hb dX9_compare_37 rfl (lv_at hl 3 rfl) ?_
      obtain ⟨z6, ez6, h⟩ := z_bd h
      refine xj_v (xrV (As := [.int p1]) (rest := []) ⟨hx, hb, hml, hown, hts⟩ (m_X9_layPlaces l dC dI _ h_me q_me k_me o5 p1 z6 ez6) kw1462 kw1459 kw1461 kw50 kw120 hd_X9_layPlaces ⟨rfl, rfl⟩ rfl rfl ⟨rfl, rfl⟩ hX hK hw [0] (by decide) rfl rfl rfl rfl rfl hl.1 rfl rfl dX9_compare_38) hw hA [0] (by decide) rfl rfl (fun H locs hw => ?_)
      have hw : Wd dC dI A s.heap [wX9 h_me q_me k_me z6] H locs := hw
      refine lv_aload_n hx hb dX9_compare_41 rfl (lv_at hl 1 rfl) ?_
      refine fgX9_3 hx hb hts hown hK hw 0 rfl kw1179 dX9_compare_42 ?_
      refine lv_iconst (v := 3) hx hb dX9_compare_45 (by decide) ?_
      refine lv_iload_n hx hb dX9_compare_46 rfl (lv_at hl 0 rfl) ?_
      refine fbX9_3 hx hb hK hw 0 rfl rfl (by decide) dX9_compare_47 (fun H locs hw => ?_)
      obtain ⟨o7, eo7, h⟩ := z_lt h
      have hw : Wd dC dI A s.heap [wX9 h_me q_me k_me o7] H locs := by rw [eo7]; exact hw
      refine lv_aload_n hx hb dX9_compare_48 rfl (lv_at hl 1 rfl) ?_
      refine fgX9_43 hx hb hts hown hK hw 0 rfl kw1219 dX9_compare_49 ?_
      refine lv_if_ne (tgt := 59) hx hb dX9_compare_52 (by decide) (fun c => ?_) (fun c => ?_)
      · have h := z_f h c
        refine lv_aload_n hx hb dX9_compare_59 rfl (lv_at hl 1 rfl) ?_
        refine fgX9_42 hx hb hts hown hK hw 0 rfl kw1218 dX9_compare_60 ?_
        refine lv_iconst (v := 0) hx hb dX9_compare_63 (by decide) ?_
        refine faX9_42 hx hb hK hw 0 rfl rfl (by decide) dX9_compare_64 ?_
        have hy := Option.some.inj h
        rw [← hQz, ← hy]
        exact xr_i (v := gA o7 42 (0 : Int32).toNatClampNeg) hx hb hr rfl hlk hK hw dX9_compare_65
      · have h := z_t h c
        refine lv_iconst (v := (-1)) hx hb dX9_compare_55 (by decide) ?_
        refine lv_goto (tgt := 65) hx hb dX9_compare_56 (by decide) ?_
        have hy := Option.some.inj h
        rw [← hQz, ← hy]
        exact xr_i (v := (-1 : Int32)) hx hb hr rfl hlk hK hw dX9_compare_65
    · have h := z_t h c
      refine lv_iconst (v := (-1)) hx hb dX9_compare_20 (by decide) ?_
      have hy := Option.some.inj h
      rw [← hQz, ← hy]
      exact xr_i (v := (-1 : Int32)) hx hb hr rfl hlk hK hw dX9_compare_21

def lb_X9_sumOf_5 (o_me : Ob)  (rec_5_0 : Int32 × Int32 × Int32 × Int32 → Option (Int32)) (v1 : Int32) (v2 : Int32) (v3 : Int32) (v4 : Int32) : Option (Int32) :=
  if v2 ≤ v4 then
  (some v3)
  else
  (zgd (zin (v1 + v4) 5484) <|
  zlt (v3 + (gA o_me 3 (v1 + v4).toNatClampNeg)) fun x2 =>
  zlt (v4 + (1 : Int32)) fun x3 =>
  rec_5_0 (v1, v2, x2, x3))
def lp_X9_sumOf_5 (o_me : Ob)  : Nat → (Int32 × Int32 × Int32 × Int32) → Option (Int32) := zit (fun rec a => lb_X9_sumOf_5 o_me  rec a.1 a.2.1 a.2.2.1 a.2.2.2)
def f_X9_sumOf (o_me : Ob) (p0 : Int32) (p1 : Int32) : Option (Int32) :=
  lp_X9_sumOf_5 o_me  zfu (p0, p1, (0 : Int32), (0 : Int32))
set_option maxHeartbeats 4000000 in
set_option maxRecDepth 100000 in
theorem m_X9_sumOf (l : Launch) (dC : Nat → ClassId) (dI : Nat → Nat → Nat) (sz : Nat) (h_me : Nat) (q_me : Nat → Nat) (k_me : Nat → ClassId) (o_me : Ob) (p0 : Int32) (p1 : Int32) (y : Int32) (h : f_X9_sumOf o_me p0 p1 = some y) : CI l yX9_sumOf cX9_sumOf 5 (some .int) ({ frames := 0, cells := 0, slots := 0, locals := 0 } : Room) dC dI sz [.ref h_me, .int p0, .int p1] [wX9 h_me q_me k_me o_me] [tX9 k_me] y [wX9 h_me q_me k_me o_me] := by
  refine CC_of (by decide) (Nat.le_of_ble_eq_true rfl) ?_
  intro p e s m below meth c A ls hx hb hml hr hlk hnm hown hts hX hK hP hD hA hl
  have hl : lv_has ls 5 [(0, .ref h_me), (1, .int p0), (2, .int p1)] := hl
  have hown : s.vm.findClass RX9 = some m.cls := hown
  have hw : Wd dC dI A s.heap [wX9 h_me q_me k_me o_me] s.heap [] := ⟨hP, hD, va_S.rf⟩
  generalize hQz : (MQ below (QI dC dI (fun r (_ : Unit) => r = y) (fun _ => Jn [wX9 h_me q_me k_me o_me]) (fun _ => Jt [tX9 k_me]) A) ([.ref h_me, .int p0, .int p1] : List Value).toArray s 0 0 A) = Qz
  clear hP hD hnm
  have lp_5_0 : ∀ (N : Nat), ∀ (v1 : Int32) (v2 : Int32) (v3 : Int32) (v4 : Int32) (H : Heap) (locs : List Loc) (ls : Array Slot), lp_X9_sumOf_5 o_me  N (v1, v2, v3, v4) = some y → Wd dC dI A s.heap [wX9 h_me q_me k_me o_me] H locs → lv_has ls 5 [(0, .ref h_me), (1, .int v1), (2, .int v2), (3, .int v3), (4, .int v4)] → W p l e ({ frames := 0, cells := 0, slots := 0, locals := 0 } : Room) s m ([.ref h_me, .int p0, .int p1] : List Value).toArray below meth c H locs 0 0 Qz (F0 m 5 ls []) := by
    intro N
    induction N with
    | zero =>
      intro v1 v2 v3 v4 H locs ls h hw hl
      exact absurd (show (none : Option (Int32)) = some y from h) (by simp)
    | succ N ih =>
      intro v1 v2 v3 v4 H locs ls h hw hl
      have h : lb_X9_sumOf_5 o_me  (lp_X9_sumOf_5 o_me  N) v1 v2 v3 v4 = some y := h
      unfold lb_X9_sumOf_5 at h
      refine lv_iload hx hb dX9_sumOf_5 (lv_at hl 4 rfl) ?_
      refine lv_iload_n hx hb dX9_sumOf_7 rfl (lv_at hl 2 rfl) ?_
      refine lv_icmp_ge (tgt := 29) hx hb dX9_sumOf_8 (by decide) (fun c => ?_) (fun c => ?_)
      · have h := z_t h c
        refine lv_iload_n hx hb dX9_sumOf_29 rfl (lv_at hl 3 rfl) ?_
        have hy := Option.some.inj h
        rw [← hQz, ← hy]
        exact xr_i (v := v3) hx hb hr rfl hlk hK hw dX9_sumOf_30
      · have h := z_f h c
        refine lv_iload_n hx hb dX9_sumOf_11 rfl (lv_at hl 3 rfl) ?_
        refine lv_aload_n hx hb dX9_sumOf_12 rfl (lv_at hl 0 rfl) ?_
        refine fgX9_3 hx hb hts hown hK hw 0 rfl kw1179 dX9_sumOf_13 ?_
        refine lv_iload_n hx hb dX9_sumOf_16 rfl (lv_at hl 1 rfl) ?_
        refine lv_iload hx hb dX9_sumOf_17 (lv_at hl 4 rfl) ?_
        refine lv_iadd hx hb dX9_sumOf_19 ?_
        obtain ⟨g1, h⟩ := z_gd h
        refine faX9_3 hx hb hK hw 0 rfl rfl g1 dX9_sumOf_20 ?_
        refine lv_iadd hx hb dX9_sumOf_21 ?_
        obtain ⟨x2, ex2, h⟩ := z_lt h
        refine lv_fi (v := x2) ex2.symm ?_
        refine lv_istore_n (lv' := [(3, .int x2), (0, .ref h_me), (1, .int v1), (2, .int v2), (4, .int v4)]) hx hb dX9_sumOf_22 rfl hl (by decide) rfl (fun ls hl => ?_)
        obtain ⟨x3, ex3, h⟩ := z_lt h
        refine lv_iinc (v := x3) (lv' := [(4, .int x3), (3, .int x2), (0, .ref h_me), (1, .int v1), (2, .int v2)]) hx hb dX9_sumOf_23 hl (k := 4) rfl ((congrArg (v4 + ·) (show Int32.ofInt 1 = (1 : Int32) from by decide)).trans ex3.symm) (by decide) rfl (fun ls hl => ?_)
        refine lv_goto (tgt := 5) hx hb dX9_sumOf_26 (by decide) ?_
        exact ih v1 v2 x2 x3 _ _ _ h hw (lv_sub hl [2, 3, 4, 1, 0] rfl)
  unfold f_X9_sumOf at h
  refine lv_iconst (v := 0) hx hb dX9_sumOf_0 (by decide) ?_
  refine lv_istore_n (lv' := [(3, .int (0 : Int32)), (0, .ref h_me), (1, .int p0), (2, .int p1)]) hx hb dX9_sumOf_1 rfl hl (by decide) rfl (fun ls hl => ?_)
  refine lv_iconst (v := 0) hx hb dX9_sumOf_2 (by decide) ?_
  refine lv_istore (lv' := [(4, .int (0 : Int32)), (3, .int (0 : Int32)), (0, .ref h_me), (1, .int p0), (2, .int p1)]) hx hb dX9_sumOf_3 hl (by decide) rfl (fun ls hl => ?_)
  exact lp_5_0  zfu p0 p1 (0 : Int32) (0 : Int32) _ _ _ h hw (lv_sub hl [2, 3, 4, 1, 0] rfl)

def f_X9_enteredOnes (o_me : Ob) : Option (Int32) :=
  (f_X9_sumOf o_me (22 : Int32) (gA o_me 3 (0 : Int32).toNatClampNeg)).bind fun z1 =>
  some z1
set_option maxHeartbeats 4000000 in
set_option maxRecDepth 100000 in
theorem m_X9_enteredOnes (l : Launch) (dC : Nat → ClassId) (dI : Nat → Nat → Nat) (sz : Nat) (h_me : Nat) (q_me : Nat → Nat) (k_me : Nat → ClassId) (o_me : Ob) (y : Int32) (h : f_X9_enteredOnes o_me = some y) : CI l yX9_enteredOnes cX9_enteredOnes 1 (some .int) ({ frames := 1, cells := 0, slots := 0, locals := 24 } : Room) dC dI sz [.ref h_me] [wX9 h_me q_me k_me o_me] [tX9 k_me] y [wX9 h_me q_me k_me o_me] := by
  refine CC_of (by decide) (Nat.le_of_ble_eq_true rfl) ?_
  intro p e s m below meth c A ls hx hb hml hr hlk hnm hown hts hX hK hP hD hA hl
  have hl : lv_has ls 1 [(0, .ref h_me)] := hl
  have hown : s.vm.findClass RX9 = some m.cls := hown
  have hw : Wd dC dI A s.heap [wX9 h_me q_me k_me o_me] s.heap [] := ⟨hP, hD, va_S.rf⟩
  generalize hQz : (MQ below (QI dC dI (fun r (_ : Unit) => r = y) (fun _ => Jn [wX9 h_me q_me k_me o_me]) (fun _ => Jt [tX9 k_me]) A) ([.ref h_me] : List Value).toArray s 0 0 A) = Qz
  clear hP hD hnm
  unfold f_X9_enteredOnes at h
  refine lv_aload_n hx hb dX9_enteredOnes_0 rfl (lv_at hl 0 rfl) ?_
  refine lv_bipush (v := 22) hx hb dX9_enteredOnes_1 (by decide) ?_
  refine lv_aload_n hx hb dX9_enteredOnes_3 rfl (lv_at hl 0 rfl) ?_
  refine fgX9_3 hx hb hts hown hK hw 0 rfl kw1179 dX9_enteredOnes_4 ?_
  refine lv_iconst (v := 0) hx hb dX9_enteredOnes_7 (by decide) ?_
  refine faX9_3 hx hb hK hw 0 rfl rfl (by decide) dX9_enteredOnes_8 ?_
  obtain ⟨z1, ez1, h⟩ := z_bd h
  refine xj_i (xrV (As := [.int (22 : Int32), .int (gA o_me 3 (0 : Int32).toNatClampNeg)]) (rest := []) ⟨hx, hb, hml, hown, hts⟩ (m_X9_sumOf l dC dI _ h_me q_me k_me o_me (22 : Int32) (gA o_me 3 (0 : Int32).toNatClampNeg) z1 ez1) kw1820 kw1817 kw1819 kw104 kw120 hd_X9_sumOf ⟨rfl, rfl⟩ rfl rfl ⟨rfl, rfl⟩ hX hK hw [0] (by decide) rfl rfl rfl rfl rfl hl.1 rfl rfl dX9_enteredOnes_9) hw hA [0] (by decide) rfl rfl (fun H locs hw => ?_)
  have hw : Wd dC dI A s.heap [wX9 h_me q_me k_me o_me] H locs := hw
  have hy := Option.some.inj h
  rw [← hQz, ← hy]
  exact xr_i (v := z1) hx hb hr rfl hlk hK hw dX9_enteredOnes_12

def f_X9_count (o_me : Ob) (p0 : Int32) : Option (Int32 × Ob) :=
  zlt (sI o_me 0 (0 : Int32)) fun o1 =>
  if p0 = (0 : Int32) then
  (some (gA o1 3 (0 : Int32).toNatClampNeg, o1))
  else
  (if p0 = (1 : Int32) then
  ((f_X9_enteredOnes o1).bind fun z3 =>
  some (z3, o1))
  else
  (if p0 = (2 : Int32) then
  (some (gA o1 3 (7 : Int32).toNatClampNeg, o1))
  else
  (if p0 = (3 : Int32) then
  ((f_X9_sumOf o1 (15 : Int32) (gA o1 3 (0 : Int32).toNatClampNeg)).bind fun z4 =>
  some (z4, o1))
  else
  (if p0 = (4 : Int32) then
  (some (gA o1 3 (1 : Int32).toNatClampNeg, o1))
  else
  (if p0 = (5 : Int32) then
  (some (gA o1 3 (2 : Int32).toNatClampNeg, o1))
  else
  (if p0 = (6 : Int32) then
  (some (gI o1 8, o1))
  else
  (if p0 = (7 : Int32) then
  (some (gI o1 13, o1))
  else
  (if p0 = (8 : Int32) then
  (some (gA o1 2 (1 : Int32).toNatClampNeg, o1))
  else
  (if p0 = (9 : Int32) then
  (some (gA o1 2 (2 : Int32).toNatClampNeg, o1))
  else
  (if p0 = (10 : Int32) then
  (some (gA o1 2 (3 : Int32).toNatClampNeg, o1))
  else
  (if p0 = (11 : Int32) then
  (some (gA o1 2 (5 : Int32).toNatClampNeg, o1))
  else
  (if p0 = (12 : Int32) then
  (some (gA o1 2 (6 : Int32).toNatClampNeg, o1))
  else
  (if p0 = (13 : Int32) then
  (some (gA o1 3 (3 : Int32).toNatClampNeg, o1))
  else
  ((f_X9_in p0.toInt64 (14 : Int64) (16 : Int64)).bind fun z5 =>
  if z5 = (0 : Int32) then
  (some ((-1 : Int32), o1))
  else
  (zgd (zin (((4 : Int32) + p0) - (14 : Int32)) 5484) <|
  some (gA o1 3 (((4 : Int32) + p0) - (14 : Int32)).toNatClampNeg, o1))))))))))))))))
set_option maxHeartbeats 4000000 in
set_option maxRecDepth 100000 in
theorem m_X9_count (l : Launch) (dC : Nat → ClassId) (dI : Nat → Nat → Nat) (sz : Nat) (h_me : Nat) (q_me : Nat → Nat) (k_me : Nat → ClassId) (o_me : Ob) (p0 : Int32) (y : Int32 × Ob) (h : f_X9_count o_me p0 = some y) : CI l yX9_count cX9_count 2 (some .int) ({ frames := 2, cells := 0, slots := 0, locals := 44 } : Room) dC dI sz [.ref h_me, .int p0] [wX9 h_me q_me k_me o_me] [tX9 k_me] y.1 [wX9 h_me q_me k_me y.2] := by
  refine CC_of (by decide) (Nat.le_of_ble_eq_true rfl) ?_
  intro p e s m below meth c A ls hx hb hml hr hlk hnm hown hts hX hK hP hD hA hl
  have hl : lv_has ls 2 [(0, .ref h_me), (1, .int p0)] := hl
  have hown : s.vm.findClass RX9 = some m.cls := hown
  have hw : Wd dC dI A s.heap [wX9 h_me q_me k_me o_me] s.heap [] := ⟨hP, hD, va_S.rf⟩
  generalize hQz : (MQ below (QI dC dI (fun r (_ : Unit) => r = y.1) (fun _ => Jn [wX9 h_me q_me k_me y.2]) (fun _ => Jt [tX9 k_me]) A) ([.ref h_me, .int p0] : List Value).toArray s 0 0 A) = Qz
  clear hP hD hnm
  unfold f_X9_count at h
  refine lv_aload_n hx hb dX9_count_0 rfl (lv_at hl 0 rfl) ?_
  refine lv_iconst (v := 0) hx hb dX9_count_1 (by decide) ?_
  refine fpX9_0 hx hb hts hown hK hw 0 rfl kw1176 dX9_count_2 (fun H locs hw => ?_)
  obtain ⟨o1, eo1, h⟩ := z_lt h
  have hw : Wd dC dI A s.heap [wX9 h_me q_me k_me o1] H locs := by rw [eo1]; exact hw
  refine lv_iload_n hx hb dX9_count_5 rfl (lv_at hl 1 rfl) ?_
  rcases (show p0.toInt = 0 ∨ p0.toInt = 1 ∨ p0.toInt = 2 ∨ p0.toInt = 3 ∨ p0.toInt = 4 ∨ p0.toInt = 5 ∨ p0.toInt = 6 ∨ p0.toInt = 7 ∨ p0.toInt = 8 ∨ p0.toInt = 9 ∨ p0.toInt = 10 ∨ p0.toInt = 11 ∨ p0.toInt = 12 ∨ p0.toInt = 13 ∨ (p0.toInt < 0 ∨ 13 < p0.toInt) by omega) with c2 | c2 | c2 | c2 | c2 | c2 | c2 | c2 | c2 | c2 | c2 | c2 | c2 | c2 | c2
  · skip
    have ec2 : p0 = (0 : Int32) := Int32.toInt_inj.mp (c2.trans (by decide))
    have h := z_t h ec2
    refine lv_fi (v := 0) ec2 ?_
    refine lv_tableIn (tgt := 76) hx hb dX9_count_6 (by decide) (by decide) rfl (by decide) ?_
    refine lv_aload_n hx hb dX9_count_76 rfl (lv_at hl 0 rfl) ?_
    refine fgX9_3 hx hb hts hown hK hw 0 rfl kw1179 dX9_count_77 ?_
    refine lv_iconst (v := 0) hx hb dX9_count_80 (by decide) ?_
    refine faX9_3 hx hb hK hw 0 rfl rfl (by decide) dX9_count_81 ?_
    have hy := Option.some.inj h
    rw [← hQz, ← hy]
    exact xr_i (v := gA o1 3 (0 : Int32).toNatClampNeg) hx hb hr rfl hlk hK hw dX9_count_82
  · skip
    have h := z_f h (fun e9 => by rw [e9] at c2; revert c2; decide)
    have ec2 : p0 = (1 : Int32) := Int32.toInt_inj.mp (c2.trans (by decide))
    have h := z_t h ec2
    refine lv_fi (v := 1) ec2 ?_
    refine lv_tableIn (tgt := 83) hx hb dX9_count_6 (by decide) (by decide) rfl (by decide) ?_
    refine lv_aload_n hx hb dX9_count_83 rfl (lv_at hl 0 rfl) ?_
    obtain ⟨z3, ez3, h⟩ := z_bd h
    refine xj_i (xrV (As := []) (rest := []) ⟨hx, hb, hml, hown, hts⟩ (m_X9_enteredOnes l dC dI _ h_me q_me k_me o1 z3 ez3) kw1816 kw1813 kw1815 kw103 kw120 hd_X9_enteredOnes ⟨rfl, rfl⟩ rfl rfl ⟨rfl, rfl⟩ hX hK hw [0] (by decide) rfl rfl rfl rfl rfl hl.1 rfl rfl dX9_count_84) hw hA [0] (by decide) rfl rfl (fun H locs hw => ?_)
    have hw : Wd dC dI A s.heap [wX9 h_me q_me k_me o1] H locs := hw
    have hy := Option.some.inj h
    rw [← hQz, ← hy]
    exact xr_i (v := z3) hx hb hr rfl hlk hK hw dX9_count_87
  · skip
    have h := z_f h (fun e9 => by rw [e9] at c2; revert c2; decide)
    have h := z_f h (fun e9 => by rw [e9] at c2; revert c2; decide)
    have ec2 : p0 = (2 : Int32) := Int32.toInt_inj.mp (c2.trans (by decide))
    have h := z_t h ec2
    refine lv_fi (v := 2) ec2 ?_
    refine lv_tableIn (tgt := 88) hx hb dX9_count_6 (by decide) (by decide) rfl (by decide) ?_
    refine lv_aload_n hx hb dX9_count_88 rfl (lv_at hl 0 rfl) ?_
    refine fgX9_3 hx hb hts hown hK hw 0 rfl kw1179 dX9_count_89 ?_
    refine lv_bipush (v := 7) hx hb dX9_count_92 (by decide) ?_
    refine faX9_3 hx hb hK hw 0 rfl rfl (by decide) dX9_count_94 ?_
    have hy := Option.some.inj h
    rw [← hQz, ← hy]
    exact xr_i (v := gA o1 3 (7 : Int32).toNatClampNeg) hx hb hr rfl hlk hK hw dX9_count_95
  · skip
    have h := z_f h (fun e9 => by rw [e9] at c2; revert c2; decide)
    have h := z_f h (fun e9 => by rw [e9] at c2; revert c2; decide)
    have h := z_f h (fun e9 => by rw [e9] at c2; revert c2; decide)
    have ec2 : p0 = (3 : Int32) := Int32.toInt_inj.mp (c2.trans (by decide))
    have h := z_t h ec2
    refine lv_fi (v := 3) ec2 ?_
    refine lv_tableIn (tgt := 96) hx hb dX9_count_6 (by decide) (by decide) rfl (by decide) ?_
    refine lv_aload_n hx hb dX9_count_96 rfl (lv_at hl 0 rfl) ?_
    refine lv_bipush (v := 15) hx hb dX9_count_97 (by decide) ?_
    refine lv_aload_n hx hb dX9_count_99 rfl (lv_at hl 0 rfl) ?_
    refine fgX9_3 hx hb hts hown hK hw 0 rfl kw1179 dX9_count_100 ?_
    refine lv_iconst (v := 0) hx hb dX9_count_103 (by decide) ?_
    refine faX9_3 hx hb hK hw 0 rfl rfl (by decide) dX9_count_104 ?_
    obtain ⟨z4, ez4, h⟩ := z_bd h
    refine xj_i (xrV (As := [.int (15 : Int32), .int (gA o1 3 (0 : Int32).toNatClampNeg)]) (rest := []) ⟨hx, hb, hml, hown, hts⟩ (m_X9_sumOf l dC dI _ h_me q_me k_me o1 (15 : Int32) (gA o1 3 (0 : Int32).toNatClampNeg) z4 ez4) kw1820 kw1817 kw1819 kw104 kw120 hd_X9_sumOf ⟨rfl, rfl⟩ rfl rfl ⟨rfl, rfl⟩ hX hK hw [0] (by decide) rfl rfl rfl rfl rfl hl.1 rfl rfl dX9_count_105) hw hA [0] (by decide) rfl rfl (fun H locs hw => ?_)
    have hw : Wd dC dI A s.heap [wX9 h_me q_me k_me o1] H locs := hw
    have hy := Option.some.inj h
    rw [← hQz, ← hy]
    exact xr_i (v := z4) hx hb hr rfl hlk hK hw dX9_count_108
  · skip
    have h := z_f h (fun e9 => by rw [e9] at c2; revert c2; decide)
    have h := z_f h (fun e9 => by rw [e9] at c2; revert c2; decide)
    have h := z_f h (fun e9 => by rw [e9] at c2; revert c2; decide)
    have h := z_f h (fun e9 => by rw [e9] at c2; revert c2; decide)
    have ec2 : p0 = (4 : Int32) := Int32.toInt_inj.mp (c2.trans (by decide))
    have h := z_t h ec2
    refine lv_fi (v := 4) ec2 ?_
    refine lv_tableIn (tgt := 109) hx hb dX9_count_6 (by decide) (by decide) rfl (by decide) ?_
    refine lv_aload_n hx hb dX9_count_109 rfl (lv_at hl 0 rfl) ?_
    refine fgX9_3 hx hb hts hown hK hw 0 rfl kw1179 dX9_count_110 ?_
    refine lv_iconst (v := 1) hx hb dX9_count_113 (by decide) ?_
    refine faX9_3 hx hb hK hw 0 rfl rfl (by decide) dX9_count_114 ?_
    have hy := Option.some.inj h
    rw [← hQz, ← hy]
    exact xr_i (v := gA o1 3 (1 : Int32).toNatClampNeg) hx hb hr rfl hlk hK hw dX9_count_115
  · skip
    have h := z_f h (fun e9 => by rw [e9] at c2; revert c2; decide)
    have h := z_f h (fun e9 => by rw [e9] at c2; revert c2; decide)
    have h := z_f h (fun e9 => by rw [e9] at c2; revert c2; decide)
    have h := z_f h (fun e9 => by rw [e9] at c2; revert c2; decide)
    have h := z_f h (fun e9 => by rw [e9] at c2; revert c2; decide)
    have ec2 : p0 = (5 : Int32) := Int32.toInt_inj.mp (c2.trans (by decide))
    have h := z_t h ec2
    refine lv_fi (v := 5) ec2 ?_
    refine lv_tableIn (tgt := 116) hx hb dX9_count_6 (by decide) (by decide) rfl (by decide) ?_
    refine lv_aload_n hx hb dX9_count_116 rfl (lv_at hl 0 rfl) ?_
    refine fgX9_3 hx hb hts hown hK hw 0 rfl kw1179 dX9_count_117 ?_
    refine lv_iconst (v := 2) hx hb dX9_count_120 (by decide) ?_
    refine faX9_3 hx hb hK hw 0 rfl rfl (by decide) dX9_count_121 ?_
    have hy := Option.some.inj h
    rw [← hQz, ← hy]
    exact xr_i (v := gA o1 3 (2 : Int32).toNatClampNeg) hx hb hr rfl hlk hK hw dX9_count_122
  · skip
    have h := z_f h (fun e9 => by rw [e9] at c2; revert c2; decide)
    have h := z_f h (fun e9 => by rw [e9] at c2; revert c2; decide)
    have h := z_f h (fun e9 => by rw [e9] at c2; revert c2; decide)
    have h := z_f h (fun e9 => by rw [e9] at c2; revert c2; decide)
    have h := z_f h (fun e9 => by rw [e9] at c2; revert c2; decide)
    have h := z_f h (fun e9 => by rw [e9] at c2; revert c2; decide)
    have ec2 : p0 = (6 : Int32) := Int32.toInt_inj.mp (c2.trans (by decide))
    have h := z_t h ec2
    refine lv_fi (v := 6) ec2 ?_
    refine lv_tableIn (tgt := 123) hx hb dX9_count_6 (by decide) (by decide) rfl (by decide) ?_
    refine lv_aload_n hx hb dX9_count_123 rfl (lv_at hl 0 rfl) ?_
    refine fgX9_8 hx hb hts hown hK hw 0 rfl kw1184 dX9_count_124 ?_
    have hy := Option.some.inj h
    rw [← hQz, ← hy]
    exact xr_i (v := gI o1 8) hx hb hr rfl hlk hK hw dX9_count_127
  · skip
    have h := z_f h (fun e9 => by rw [e9] at c2; revert c2; decide)
    have h := z_f h (fun e9 => by rw [e9] at c2; revert c2; decide)
    have h := z_f h (fun e9 => by rw [e9] at c2; revert c2; decide)
    have h := z_f h (fun e9 => by rw [e9] at c2; revert c2; decide)
    have h := z_f h (fun e9 => by rw [e9] at c2; revert c2; decide)
    have h := z_f h (fun e9 => by rw [e9] at c2; revert c2; decide)
    have h := z_f h (fun e9 => by rw [e9] at c2; revert c2; decide)
    have ec2 : p0 = (7 : Int32) := Int32.toInt_inj.mp (c2.trans (by decide))
    have h := z_t h ec2
    refine lv_fi (v := 7) ec2 ?_
    refine lv_tableIn (tgt := 128) hx hb dX9_count_6 (by decide) (by decide) rfl (by decide) ?_
    refine lv_aload_n hx hb dX9_count_128 rfl (lv_at hl 0 rfl) ?_
    refine fgX9_13 hx hb hts hown hK hw 0 rfl kw1189 dX9_count_129 ?_
    have hy := Option.some.inj h
    rw [← hQz, ← hy]
    exact xr_i (v := gI o1 13) hx hb hr rfl hlk hK hw dX9_count_132
  · skip
    have h := z_f h (fun e9 => by rw [e9] at c2; revert c2; decide)
    have h := z_f h (fun e9 => by rw [e9] at c2; revert c2; decide)
    have h := z_f h (fun e9 => by rw [e9] at c2; revert c2; decide)
    have h := z_f h (fun e9 => by rw [e9] at c2; revert c2; decide)
    have h := z_f h (fun e9 => by rw [e9] at c2; revert c2; decide)
    have h := z_f h (fun e9 => by rw [e9] at c2; revert c2; decide)
    have h := z_f h (fun e9 => by rw [e9] at c2; revert c2; decide)
    have h := z_f h (fun e9 => by rw [e9] at c2; revert c2; decide)
    have ec2 : p0 = (8 : Int32) := Int32.toInt_inj.mp (c2.trans (by decide))
    have h := z_t h ec2
    refine lv_fi (v := 8) ec2 ?_
    refine lv_tableIn (tgt := 133) hx hb dX9_count_6 (by decide) (by decide) rfl (by decide) ?_
    refine lv_aload_n hx hb dX9_count_133 rfl (lv_at hl 0 rfl) ?_
    refine fgX9_2 hx hb hts hown hK hw 0 rfl kw1178 dX9_count_134 ?_
    refine lv_iconst (v := 1) hx hb dX9_count_137 (by decide) ?_
    refine faX9_2 hx hb hK hw 0 rfl rfl (by decide) dX9_count_138 ?_
    have hy := Option.some.inj h
    rw [← hQz, ← hy]
    exact xr_i (v := gA o1 2 (1 : Int32).toNatClampNeg) hx hb hr rfl hlk hK hw dX9_count_139
  · skip
    have h := z_f h (fun e9 => by rw [e9] at c2; revert c2; decide)
    have h := z_f h (fun e9 => by rw [e9] at c2; revert c2; decide)
    have h := z_f h (fun e9 => by rw [e9] at c2; revert c2; decide)
    have h := z_f h (fun e9 => by rw [e9] at c2; revert c2; decide)
    have h := z_f h (fun e9 => by rw [e9] at c2; revert c2; decide)
    have h := z_f h (fun e9 => by rw [e9] at c2; revert c2; decide)
    have h := z_f h (fun e9 => by rw [e9] at c2; revert c2; decide)
    have h := z_f h (fun e9 => by rw [e9] at c2; revert c2; decide)
    have h := z_f h (fun e9 => by rw [e9] at c2; revert c2; decide)
    have ec2 : p0 = (9 : Int32) := Int32.toInt_inj.mp (c2.trans (by decide))
    have h := z_t h ec2
    refine lv_fi (v := 9) ec2 ?_
    refine lv_tableIn (tgt := 140) hx hb dX9_count_6 (by decide) (by decide) rfl (by decide) ?_
    refine lv_aload_n hx hb dX9_count_140 rfl (lv_at hl 0 rfl) ?_
    refine fgX9_2 hx hb hts hown hK hw 0 rfl kw1178 dX9_count_141 ?_
    refine lv_iconst (v := 2) hx hb dX9_count_144 (by decide) ?_
    refine faX9_2 hx hb hK hw 0 rfl rfl (by decide) dX9_count_145 ?_
    have hy := Option.some.inj h
    rw [← hQz, ← hy]
    exact xr_i (v := gA o1 2 (2 : Int32).toNatClampNeg) hx hb hr rfl hlk hK hw dX9_count_146
  · skip
    have h := z_f h (fun e9 => by rw [e9] at c2; revert c2; decide)
    have h := z_f h (fun e9 => by rw [e9] at c2; revert c2; decide)
    have h := z_f h (fun e9 => by rw [e9] at c2; revert c2; decide)
    have h := z_f h (fun e9 => by rw [e9] at c2; revert c2; decide)
    have h := z_f h (fun e9 => by rw [e9] at c2; revert c2; decide)
    have h := z_f h (fun e9 => by rw [e9] at c2; revert c2; decide)
    have h := z_f h (fun e9 => by rw [e9] at c2; revert c2; decide)
    have h := z_f h (fun e9 => by rw [e9] at c2; revert c2; decide)
    have h := z_f h (fun e9 => by rw [e9] at c2; revert c2; decide)
    have h := z_f h (fun e9 => by rw [e9] at c2; revert c2; decide)
    have ec2 : p0 = (10 : Int32) := Int32.toInt_inj.mp (c2.trans (by decide))
    have h := z_t h ec2
    refine lv_fi (v := 10) ec2 ?_
    refine lv_tableIn (tgt := 147) hx hb dX9_count_6 (by decide) (by decide) rfl (by decide) ?_
    refine lv_aload_n hx hb dX9_count_147 rfl (lv_at hl 0 rfl) ?_
    refine fgX9_2 hx hb hts hown hK hw 0 rfl kw1178 dX9_count_148 ?_
    refine lv_iconst (v := 3) hx hb dX9_count_151 (by decide) ?_
    refine faX9_2 hx hb hK hw 0 rfl rfl (by decide) dX9_count_152 ?_
    have hy := Option.some.inj h
    rw [← hQz, ← hy]
    exact xr_i (v := gA o1 2 (3 : Int32).toNatClampNeg) hx hb hr rfl hlk hK hw dX9_count_153
  · skip
    have h := z_f h (fun e9 => by rw [e9] at c2; revert c2; decide)
    have h := z_f h (fun e9 => by rw [e9] at c2; revert c2; decide)
    have h := z_f h (fun e9 => by rw [e9] at c2; revert c2; decide)
    have h := z_f h (fun e9 => by rw [e9] at c2; revert c2; decide)
    have h := z_f h (fun e9 => by rw [e9] at c2; revert c2; decide)
    have h := z_f h (fun e9 => by rw [e9] at c2; revert c2; decide)
    have h := z_f h (fun e9 => by rw [e9] at c2; revert c2; decide)
    have h := z_f h (fun e9 => by rw [e9] at c2; revert c2; decide)
    have h := z_f h (fun e9 => by rw [e9] at c2; revert c2; decide)
    have h := z_f h (fun e9 => by rw [e9] at c2; revert c2; decide)
    have h := z_f h (fun e9 => by rw [e9] at c2; revert c2; decide)
    have ec2 : p0 = (11 : Int32) := Int32.toInt_inj.mp (c2.trans (by decide))
    have h := z_t h ec2
    refine lv_fi (v := 11) ec2 ?_
    refine lv_tableIn (tgt := 154) hx hb dX9_count_6 (by decide) (by decide) rfl (by decide) ?_
    refine lv_aload_n hx hb dX9_count_154 rfl (lv_at hl 0 rfl) ?_
    refine fgX9_2 hx hb hts hown hK hw 0 rfl kw1178 dX9_count_155 ?_
    refine lv_iconst (v := 5) hx hb dX9_count_158 (by decide) ?_
    refine faX9_2 hx hb hK hw 0 rfl rfl (by decide) dX9_count_159 ?_
    have hy := Option.some.inj h
    rw [← hQz, ← hy]
    exact xr_i (v := gA o1 2 (5 : Int32).toNatClampNeg) hx hb hr rfl hlk hK hw dX9_count_160
  · skip
    have h := z_f h (fun e9 => by rw [e9] at c2; revert c2; decide)
    have h := z_f h (fun e9 => by rw [e9] at c2; revert c2; decide)
    have h := z_f h (fun e9 => by rw [e9] at c2; revert c2; decide)
    have h := z_f h (fun e9 => by rw [e9] at c2; revert c2; decide)
    have h := z_f h (fun e9 => by rw [e9] at c2; revert c2; decide)
    have h := z_f h (fun e9 => by rw [e9] at c2; revert c2; decide)
    have h := z_f h (fun e9 => by rw [e9] at c2; revert c2; decide)
    have h := z_f h (fun e9 => by rw [e9] at c2; revert c2; decide)
    have h := z_f h (fun e9 => by rw [e9] at c2; revert c2; decide)
    have h := z_f h (fun e9 => by rw [e9] at c2; revert c2; decide)
    have h := z_f h (fun e9 => by rw [e9] at c2; revert c2; decide)
    have h := z_f h (fun e9 => by rw [e9] at c2; revert c2; decide)
    have ec2 : p0 = (12 : Int32) := Int32.toInt_inj.mp (c2.trans (by decide))
    have h := z_t h ec2
    refine lv_fi (v := 12) ec2 ?_
    refine lv_tableIn (tgt := 161) hx hb dX9_count_6 (by decide) (by decide) rfl (by decide) ?_
    refine lv_aload_n hx hb dX9_count_161 rfl (lv_at hl 0 rfl) ?_
    refine fgX9_2 hx hb hts hown hK hw 0 rfl kw1178 dX9_count_162 ?_
    refine lv_bipush (v := 6) hx hb dX9_count_165 (by decide) ?_
    refine faX9_2 hx hb hK hw 0 rfl rfl (by decide) dX9_count_167 ?_
    have hy := Option.some.inj h
    rw [← hQz, ← hy]
    exact xr_i (v := gA o1 2 (6 : Int32).toNatClampNeg) hx hb hr rfl hlk hK hw dX9_count_168
  · skip
    have h := z_f h (fun e9 => by rw [e9] at c2; revert c2; decide)
    have h := z_f h (fun e9 => by rw [e9] at c2; revert c2; decide)
    have h := z_f h (fun e9 => by rw [e9] at c2; revert c2; decide)
    have h := z_f h (fun e9 => by rw [e9] at c2; revert c2; decide)
    have h := z_f h (fun e9 => by rw [e9] at c2; revert c2; decide)
    have h := z_f h (fun e9 => by rw [e9] at c2; revert c2; decide)
    have h := z_f h (fun e9 => by rw [e9] at c2; revert c2; decide)
    have h := z_f h (fun e9 => by rw [e9] at c2; revert c2; decide)
    have h := z_f h (fun e9 => by rw [e9] at c2; revert c2; decide)
    have h := z_f h (fun e9 => by rw [e9] at c2; revert c2; decide)
    have h := z_f h (fun e9 => by rw [e9] at c2; revert c2; decide)
    have h := z_f h (fun e9 => by rw [e9] at c2; revert c2; decide)
    have h := z_f h (fun e9 => by rw [e9] at c2; revert c2; decide)
    have ec2 : p0 = (13 : Int32) := Int32.toInt_inj.mp (c2.trans (by decide))
    have h := z_t h ec2
    refine lv_fi (v := 13) ec2 ?_
    refine lv_tableIn (tgt := 169) hx hb dX9_count_6 (by decide) (by decide) rfl (by decide) ?_
    refine lv_aload_n hx hb dX9_count_169 rfl (lv_at hl 0 rfl) ?_
    refine fgX9_3 hx hb hts hown hK hw 0 rfl kw1179 dX9_count_170 ?_
    refine lv_iconst (v := 3) hx hb dX9_count_173 (by decide) ?_
    refine faX9_3 hx hb hK hw 0 rfl rfl (by decide) dX9_count_174 ?_
    have hy := Option.some.inj h
    rw [← hQz, ← hy]
    exact xr_i (v := gA o1 3 (3 : Int32).toNatClampNeg) hx hb hr rfl hlk hK hw dX9_count_175
  · skip
    have h := z_f h (fun e9 => by rw [e9] at c2; revert c2; decide)
    have h := z_f h (fun e9 => by rw [e9] at c2; revert c2; decide)
    have h := z_f h (fun e9 => by rw [e9] at c2; revert c2; decide)
    have h := z_f h (fun e9 => by rw [e9] at c2; revert c2; decide)
    have h := z_f h (fun e9 => by rw [e9] at c2; revert c2; decide)
    have h := z_f h (fun e9 => by rw [e9] at c2; revert c2; decide)
    have h := z_f h (fun e9 => by rw [e9] at c2; revert c2; decide)
    have h := z_f h (fun e9 => by rw [e9] at c2; revert c2; decide)
    have h := z_f h (fun e9 => by rw [e9] at c2; revert c2; decide)
    have h := z_f h (fun e9 => by rw [e9] at c2; revert c2; decide)
    have h := z_f h (fun e9 => by rw [e9] at c2; revert c2; decide)
    have h := z_f h (fun e9 => by rw [e9] at c2; revert c2; decide)
    have h := z_f h (fun e9 => by rw [e9] at c2; revert c2; decide)
    have h := z_f h (fun e9 => by rw [e9] at c2; revert c2; decide)
    refine lv_tableOut (tgt := 176) hx hb dX9_count_6 c2 (by decide) ?_
    refine lv_iload_n hx hb dX9_count_176 rfl (lv_at hl 1 rfl) ?_
    refine lv_i2l hx hb dX9_count_177 rfl ?_
    refine lv_ldc2 (v := 14) hx hb hown (hts _ kw1857) dX9_count_178 ?_
    refine lv_ldc2 (v := 16) hx hb hown (hts _ kw1858) dX9_count_181 ?_
    obtain ⟨z5, ez5, h⟩ := z_bd h
    refine xj_i (xrS (As := [.long p0.toInt64, .long (14 : Int64), .long (16 : Int64)]) (rest := []) ⟨hx, hb, hml, hown, hts⟩ (m_X9_in l dC dI _  p0.toInt64 (14 : Int64) (16 : Int64) z5 ez5) kw1385 kw1383 kw1384 kw120 hd_X9_in ⟨rfl, rfl⟩ rfl rfl ⟨rfl, rfl⟩ hX hK hw [] (by decide) rfl rfl hl.1 rfl rfl dX9_count_184) hw hA [] (by decide) rfl rfl (fun H locs hw => ?_)
    refine lv_if_eq (tgt := 204) hx hb dX9_count_187 (by decide) (fun c => ?_) (fun c => ?_)
    · have h := z_t h c
      refine lv_iconst (v := (-1)) hx hb dX9_count_204 (by decide) ?_
      have hy := Option.some.inj h
      rw [← hQz, ← hy]
      exact xr_i (v := (-1 : Int32)) hx hb hr rfl hlk hK hw dX9_count_205
    · have h := z_f h c
      refine lv_aload_n hx hb dX9_count_190 rfl (lv_at hl 0 rfl) ?_
      refine fgX9_3 hx hb hts hown hK hw 0 rfl kw1179 dX9_count_191 ?_
      refine lv_iconst (v := 4) hx hb dX9_count_194 (by decide) ?_
      refine lv_iload_n hx hb dX9_count_195 rfl (lv_at hl 1 rfl) ?_
      refine lv_iadd hx hb dX9_count_196 ?_
      refine lv_bipush (v := 14) hx hb dX9_count_197 (by decide) ?_
      refine lv_isub hx hb dX9_count_199 ?_
      obtain ⟨g6, h⟩ := z_gd h
      refine faX9_3 hx hb hK hw 0 rfl rfl g6 dX9_count_200 ?_
      refine lv_goto (tgt := 205) hx hb dX9_count_201 (by decide) ?_
      have hy := Option.some.inj h
      rw [← hQz, ← hy]
      exact xr_i (v := gA o1 3 (((4 : Int32) + p0) - (14 : Int32)).toNatClampNeg) hx hb hr rfl hlk hK hw dX9_count_205

def bk_X9_scoreNow_40 (o_me : Ob) (rec_4_0 : Int32 × Int32 → Option (Int32)) (v2 : Int32) (s0 : Int32) (s1 : Int32) : Option (Int32) :=
  zlt (s1 + s0) fun x4 =>
  zlt (v2 + (1 : Int32)) fun x5 =>
  rec_4_0 (x4, x5)
def lb_X9_scoreNow_4 (o_me : Ob)  (rec_4_0 : Int32 × Int32 → Option (Int32)) (v1 : Int32) (v2 : Int32) : Option (Int32) :=
  if (4 : Int32) ≤ v2 then
  (some v1)
  else
  (zgd (zin v2 5) <|
  if (gA o_me 48 v2.toNatClampNeg) = (7 : Int32) then
  (bk_X9_scoreNow_40 o_me rec_4_0 v2 (0 : Int32) v1)
  else
  (zgd (zin v2 5) <|
  zgd (zin (((4 : Int32) * (gA o_me 48 v2.toNatClampNeg)) + v2) 28) <|
  bk_X9_scoreNow_40 o_me rec_4_0 v2 (gA o_me 47 (((4 : Int32) * (gA o_me 48 v2.toNatClampNeg)) + v2).toNatClampNeg) v1))
def lp_X9_scoreNow_4 (o_me : Ob)  : Nat → (Int32 × Int32) → Option (Int32) := zit (fun rec a => lb_X9_scoreNow_4 o_me  rec a.1 a.2)
def f_X9_scoreNow (o_me : Ob) : Option (Int32) :=
  lp_X9_scoreNow_4 o_me  zfu ((0 : Int32), (0 : Int32))
set_option maxHeartbeats 4000000 in
set_option maxRecDepth 100000 in
theorem m_X9_scoreNow (l : Launch) (dC : Nat → ClassId) (dI : Nat → Nat → Nat) (sz : Nat) (h_me : Nat) (q_me : Nat → Nat) (k_me : Nat → ClassId) (o_me : Ob) (y : Int32) (h : f_X9_scoreNow o_me = some y) : CI l yX9_scoreNow cX9_scoreNow 3 (some .int) ({ frames := 0, cells := 0, slots := 0, locals := 0 } : Room) dC dI sz [.ref h_me] [wX9 h_me q_me k_me o_me] [tX9 k_me] y [wX9 h_me q_me k_me o_me] := by
  refine CC_of (by decide) (Nat.le_of_ble_eq_true rfl) ?_
  intro p e s m below meth c A ls hx hb hml hr hlk hnm hown hts hX hK hP hD hA hl
  have hl : lv_has ls 3 [(0, .ref h_me)] := hl
  have hown : s.vm.findClass RX9 = some m.cls := hown
  have hw : Wd dC dI A s.heap [wX9 h_me q_me k_me o_me] s.heap [] := ⟨hP, hD, va_S.rf⟩
  generalize hQz : (MQ below (QI dC dI (fun r (_ : Unit) => r = y) (fun _ => Jn [wX9 h_me q_me k_me o_me]) (fun _ => Jt [tX9 k_me]) A) ([.ref h_me] : List Value).toArray s 0 0 A) = Qz
  clear hP hD hnm
  have bk_40_1 : ∀ (rec_4_0 : Int32 × Int32 → Option (Int32)) (hrec_4_0 : ∀ (v1 : Int32) (v2 : Int32) (H : Heap) (locs : List Loc) (ls : Array Slot), rec_4_0 (v1, v2) = some y → Wd dC dI A s.heap [wX9 h_me q_me k_me o_me] H locs → lv_has ls 3 [(0, .ref h_me), (1, .int v1), (2, .int v2)] → W p l e ({ frames := 0, cells := 0, slots := 0, locals := 0 } : Room) s m ([.ref h_me] : List Value).toArray below meth c H locs 0 0 Qz (F0 m 4 ls [])), ∀ (v2 : Int32) (s0 : Int32) (s1 : Int32) (H : Heap) (locs : List Loc) (ls : Array Slot), bk_X9_scoreNow_40 o_me rec_4_0 v2 s0 s1 = some y → Wd dC dI A s.heap [wX9 h_me q_me k_me o_me] H locs → lv_has ls 3 [(0, .ref h_me), (2, .int v2)] → W p l e ({ frames := 0, cells := 0, slots := 0, locals := 0 } : Room) s m ([.ref h_me] : List Value).toArray below meth c H locs 0 0 Qz (F0 m 40 ls [.int s0, .int s1]) := by
    intro rec_4_0 hrec_4_0
    intro v2 s0 s1 H locs ls h hw hl
    unfold bk_X9_scoreNow_40 at h
    refine lv_iadd hx hb dX9_scoreNow_40 ?_
    obtain ⟨x4, ex4, h⟩ := z_lt h
    refine lv_fi (v := x4) ex4.symm ?_
    refine lv_istore_n (lv' := [(1, .int x4), (0, .ref h_me), (2, .int v2)]) hx hb dX9_scoreNow_41 rfl hl (by decide) rfl (fun ls hl => ?_)
    obtain ⟨x5, ex5, h⟩ := z_lt h
    refine lv_iinc (v := x5) (lv' := [(2, .int x5), (1, .int x4), (0, .ref h_me)]) hx hb dX9_scoreNow_42 hl (k := 2) rfl ((congrArg (v2 + ·) (show Int32.ofInt 1 = (1 : Int32) from by decide)).trans ex5.symm) (by decide) rfl (fun ls hl => ?_)
    refine lv_goto (tgt := 4) hx hb dX9_scoreNow_45 (by decide) ?_
    exact hrec_4_0 x4 x5 _ _ _ h hw (lv_sub hl [2, 1, 0] rfl)
  have lp_4_0 : ∀ (N : Nat), ∀ (v1 : Int32) (v2 : Int32) (H : Heap) (locs : List Loc) (ls : Array Slot), lp_X9_scoreNow_4 o_me  N (v1, v2) = some y → Wd dC dI A s.heap [wX9 h_me q_me k_me o_me] H locs → lv_has ls 3 [(0, .ref h_me), (1, .int v1), (2, .int v2)] → W p l e ({ frames := 0, cells := 0, slots := 0, locals := 0 } : Room) s m ([.ref h_me] : List Value).toArray below meth c H locs 0 0 Qz (F0 m 4 ls []) := by
    intro N
    induction N with
    | zero =>
      intro v1 v2 H locs ls h hw hl
      exact absurd (show (none : Option (Int32)) = some y from h) (by simp)
    | succ N ih =>
      intro v1 v2 H locs ls h hw hl
      have h : lb_X9_scoreNow_4 o_me  (lp_X9_scoreNow_4 o_me  N) v1 v2 = some y := h
      unfold lb_X9_scoreNow_4 at h
      refine lv_iload_n hx hb dX9_scoreNow_4 rfl (lv_at hl 2 rfl) ?_
      refine lv_iconst (v := 4) hx hb dX9_scoreNow_5 (by decide) ?_
      refine lv_icmp_ge (tgt := 48) hx hb dX9_scoreNow_6 (by decide) (fun c => ?_) (fun c => ?_)
      · have h := z_t h c
        refine lv_iload_n hx hb dX9_scoreNow_48 rfl (lv_at hl 1 rfl) ?_
        have hy := Option.some.inj h
        rw [← hQz, ← hy]
        exact xr_i (v := v1) hx hb hr rfl hlk hK hw dX9_scoreNow_49
      · have h := z_f h c
        refine lv_iload_n hx hb dX9_scoreNow_9 rfl (lv_at hl 1 rfl) ?_
        refine lv_aload_n hx hb dX9_scoreNow_10 rfl (lv_at hl 0 rfl) ?_
        refine fgX9_48 hx hb hts hown hK hw 0 rfl kw1224 dX9_scoreNow_11 ?_
        refine lv_iload_n hx hb dX9_scoreNow_14 rfl (lv_at hl 2 rfl) ?_
        obtain ⟨g1, h⟩ := z_gd h
        refine faX9_48 hx hb hK hw 0 rfl rfl g1 dX9_scoreNow_15 ?_
        refine lv_bipush (v := 7) hx hb dX9_scoreNow_16 (by decide) ?_
        refine lv_icmp_ne (tgt := 25) hx hb dX9_scoreNow_18 (by decide) (fun c => ?_) (fun c => ?_)
        · have h := z_f h c
          refine lv_aload_n hx hb dX9_scoreNow_25 rfl (lv_at hl 0 rfl) ?_
          refine fgX9_47 hx hb hts hown hK hw 0 rfl kw1223 dX9_scoreNow_26 ?_
          refine lv_iconst (v := 4) hx hb dX9_scoreNow_29 (by decide) ?_
          refine lv_aload_n hx hb dX9_scoreNow_30 rfl (lv_at hl 0 rfl) ?_
          refine fgX9_48 hx hb hts hown hK hw 0 rfl kw1224 dX9_scoreNow_31 ?_
          refine lv_iload_n hx hb dX9_scoreNow_34 rfl (lv_at hl 2 rfl) ?_
          obtain ⟨g2, h⟩ := z_gd h
          refine faX9_48 hx hb hK hw 0 rfl rfl g2 dX9_scoreNow_35 ?_
          refine lv_imul hx hb dX9_scoreNow_36 ?_
          refine lv_iload_n hx hb dX9_scoreNow_37 rfl (lv_at hl 2 rfl) ?_
          refine lv_iadd hx hb dX9_scoreNow_38 ?_
          obtain ⟨g3, h⟩ := z_gd h
          refine faX9_47 hx hb hK hw 0 rfl rfl g3 dX9_scoreNow_39 ?_
          exact bk_40_1 (lp_X9_scoreNow_4 o_me  N) ih v2 (gA o_me 47 (((4 : Int32) * (gA o_me 48 v2.toNatClampNeg)) + v2).toNatClampNeg) v1 _ _ _ h hw (lv_sub hl [0, 2] rfl)
        · have h := z_t h c
          refine lv_iconst (v := 0) hx hb dX9_scoreNow_21 (by decide) ?_
          refine lv_goto (tgt := 40) hx hb dX9_scoreNow_22 (by decide) ?_
          exact bk_40_1 (lp_X9_scoreNow_4 o_me  N) ih v2 (0 : Int32) v1 _ _ _ h hw (lv_sub hl [0, 2] rfl)
  unfold f_X9_scoreNow at h
  refine lv_iconst (v := 0) hx hb dX9_scoreNow_0 (by decide) ?_
  refine lv_istore_n (lv' := [(1, .int (0 : Int32)), (0, .ref h_me)]) hx hb dX9_scoreNow_1 rfl hl (by decide) rfl (fun ls hl => ?_)
  refine lv_iconst (v := 0) hx hb dX9_scoreNow_2 (by decide) ?_
  refine lv_istore_n (lv' := [(2, .int (0 : Int32)), (1, .int (0 : Int32)), (0, .ref h_me)]) hx hb dX9_scoreNow_3 rfl hl (by decide) rfl (fun ls hl => ?_)
  exact lp_4_0  zfu (0 : Int32) (0 : Int32) _ _ _ h hw (lv_sub hl [2, 1, 0] rfl)

def bk_X9_isFree_78 (o_me : Ob) (rec_38_2 : Int32 × Int32 × Int32 → Option (Int32)) (v1 : Int32) (v3 : Int32) (s0 : Int32) : Option (Int32) :=
  zlt (v3 + (1 : Int32)) fun x3 =>
  rec_38_2 (v1, s0, x3)
def bk_X9_isFree_77 (o_me : Ob) (rec_38_2 : Int32 × Int32 × Int32 → Option (Int32)) (v1 : Int32) (v3 : Int32) : Option (Int32) :=
  bk_X9_isFree_78 o_me rec_38_2 v1 v3 (0 : Int32)
def bk_X9_isFree_73 (o_me : Ob) (rec_38_2 : Int32 × Int32 × Int32 → Option (Int32)) (v1 : Int32) (v3 : Int32) : Option (Int32) :=
  bk_X9_isFree_78 o_me rec_38_2 v1 v3 (1 : Int32)
def lb_X9_isFree_38 (o_me : Ob)  (rec_38_2 : Int32 × Int32 × Int32 → Option (Int32)) (v1 : Int32) (v2 : Int32) (v3 : Int32) : Option (Int32) :=
  if v1 ≤ v3 then
  (zgd (zbo v2) <|
  some v2)
  else
  (if v2 = (0 : Int32) then
  (bk_X9_isFree_77 o_me rec_38_2 v1 v3)
  else
  (zgd (zin v1 5) <|
  if (gA o_me 48 v1.toNatClampNeg) = (7 : Int32) then
  (bk_X9_isFree_73 o_me rec_38_2 v1 v3)
  else
  (zgd (zin v3 5) <|
  zgd (zin v1 5) <|
  if (gA o_me 48 v3.toNatClampNeg) = (gA o_me 48 v1.toNatClampNeg) then
  (bk_X9_isFree_77 o_me rec_38_2 v1 v3)
  else
  (bk_X9_isFree_73 o_me rec_38_2 v1 v3))))
def lp_X9_isFree_38 (o_me : Ob)  : Nat → (Int32 × Int32 × Int32) → Option (Int32) := zit (fun rec a => lb_X9_isFree_38 o_me  rec a.1 a.2.1 a.2.2)
def bk_X9_isFree_35 (o_me : Ob)  (v1 : Int32) (s0 : Int32) : Option (Int32) :=
  lp_X9_isFree_38 o_me  zfu (v1, s0, (0 : Int32))
def bk_X9_isFree_30 (o_me : Ob)  (v1 : Int32) : Option (Int32) :=
  bk_X9_isFree_35 o_me  v1 (1 : Int32)
def f_X9_isFree (o_me : Ob) (p0 : Int32) : Option (Int32) :=
  zgd (zin p0 5) <|
  if (gA o_me 48 p0.toNatClampNeg) = (7 : Int32) then
  (bk_X9_isFree_30 o_me  p0)
  else
  (zgd (zin p0 5) <|
  zgd (zin (((4 : Int32) * (gA o_me 48 p0.toNatClampNeg)) + p0) 28) <|
  if (gA o_me 47 (((4 : Int32) * (gA o_me 48 p0.toNatClampNeg)) + p0).toNatClampNeg) = (-1 : Int32) then
  (bk_X9_isFree_35 o_me  p0 (0 : Int32))
  else
  (bk_X9_isFree_30 o_me  p0))
set_option maxHeartbeats 4000000 in
set_option maxRecDepth 100000 in
theorem m_X9_isFree (l : Launch) (dC : Nat → ClassId) (dI : Nat → Nat → Nat) (sz : Nat) (h_me : Nat) (q_me : Nat → Nat) (k_me : Nat → ClassId) (o_me : Ob) (p0 : Int32) (y : Int32) (h : f_X9_isFree o_me p0 = some y) : CI l yX9_isFree cX9_isFree 4 (some .boolean) ({ frames := 0, cells := 0, slots := 0, locals := 0 } : Room) dC dI sz [.ref h_me, .int p0] [wX9 h_me q_me k_me o_me] [tX9 k_me] y [wX9 h_me q_me k_me o_me] := by
  refine CC_of (by decide) (Nat.le_of_ble_eq_true rfl) ?_
  intro p e s m below meth c A ls hx hb hml hr hlk hnm hown hts hX hK hP hD hA hl
  have hl : lv_has ls 4 [(0, .ref h_me), (1, .int p0)] := hl
  have hown : s.vm.findClass RX9 = some m.cls := hown
  have hw : Wd dC dI A s.heap [wX9 h_me q_me k_me o_me] s.heap [] := ⟨hP, hD, va_S.rf⟩
  generalize hQz : (MQ below (QI dC dI (fun r (_ : Unit) => r = y) (fun _ => Jn [wX9 h_me q_me k_me o_me]) (fun _ => Jt [tX9 k_me]) A) ([.ref h_me, .int p0] : List Value).toArray s 0 0 A) = Qz
  clear hP hD hnm
  have bk_78_4 : ∀ (rec_38_2 : Int32 × Int32 × Int32 → Option (Int32)) (hrec_38_2 : ∀ (v1 : Int32) (v2 : Int32) (v3 : Int32) (H : Heap) (locs : List Loc) (ls : Array Slot), rec_38_2 (v1, v2, v3) = some y → Wd dC dI A s.heap [wX9 h_me q_me k_me o_me] H locs → lv_has ls 4 [(0, .ref h_me), (1, .int v1), (2, .int v2), (3, .int v3)] → W p l e ({ frames := 0, cells := 0, slots := 0, locals := 0 } : Room) s m ([.ref h_me, .int p0] : List Value).toArray below meth c H locs 0 0 Qz (F0 m 38 ls [])), ∀ (v1 : Int32) (v3 : Int32) (s0 : Int32) (H : Heap) (locs : List Loc) (ls : Array Slot), bk_X9_isFree_78 o_me rec_38_2 v1 v3 s0 = some y → Wd dC dI A s.heap [wX9 h_me q_me k_me o_me] H locs → lv_has ls 4 [(0, .ref h_me), (1, .int v1), (3, .int v3)] → W p l e ({ frames := 0, cells := 0, slots := 0, locals := 0 } : Room) s m ([.ref h_me, .int p0] : List Value).toArray below meth c H locs 0 0 Qz (F0 m 78 ls [.int s0]) := by
    intro rec_38_2 hrec_38_2
    intro v1 v3 s0 H locs ls h hw hl
    unfold bk_X9_isFree_78 at h
    refine lv_istore_n (lv' := [(2, .int s0), (0, .ref h_me), (1, .int v1), (3, .int v3)]) hx hb dX9_isFree_78 rfl hl (by decide) rfl (fun ls hl => ?_)
    obtain ⟨x3, ex3, h⟩ := z_lt h
    refine lv_iinc (v := x3) (lv' := [(3, .int x3), (2, .int s0), (0, .ref h_me), (1, .int v1)]) hx hb dX9_isFree_79 hl (k := 3) rfl ((congrArg (v3 + ·) (show Int32.ofInt 1 = (1 : Int32) from by decide)).trans ex3.symm) (by decide) rfl (fun ls hl => ?_)
    refine lv_goto (tgt := 38) hx hb dX9_isFree_82 (by decide) ?_
    exact hrec_38_2 v1 s0 x3 _ _ _ h hw (lv_sub hl [2, 3, 1, 0] rfl)
  have bk_77_3 : ∀ (rec_38_2 : Int32 × Int32 × Int32 → Option (Int32)) (hrec_38_2 : ∀ (v1 : Int32) (v2 : Int32) (v3 : Int32) (H : Heap) (locs : List Loc) (ls : Array Slot), rec_38_2 (v1, v2, v3) = some y → Wd dC dI A s.heap [wX9 h_me q_me k_me o_me] H locs → lv_has ls 4 [(0, .ref h_me), (1, .int v1), (2, .int v2), (3, .int v3)] → W p l e ({ frames := 0, cells := 0, slots := 0, locals := 0 } : Room) s m ([.ref h_me, .int p0] : List Value).toArray below meth c H locs 0 0 Qz (F0 m 38 ls [])), ∀ (v1 : Int32) (v3 : Int32) (H : Heap) (locs : List Loc) (ls : Array Slot), bk_X9_isFree_77 o_me rec_38_2 v1 v3 = some y → Wd dC dI A s.heap [wX9 h_me q_me k_me o_me] H locs → lv_has ls 4 [(0, .ref h_me), (1, .int v1), (3, .int v3)] → W p l e ({ frames := 0, cells := 0, slots := 0, locals := 0 } : Room) s m ([.ref h_me, .int p0] : List Value).toArray below meth c H locs 0 0 Qz (F0 m 77 ls []) := by
    intro rec_38_2 hrec_38_2
    intro v1 v3 H locs ls h hw hl
    unfold bk_X9_isFree_77 at h
    refine lv_iconst (v := 0) hx hb dX9_isFree_77 (by decide) ?_
    exact bk_78_4 rec_38_2 hrec_38_2 v1 v3 (0 : Int32) _ _ _ h hw (lv_sub hl [0, 1, 2] rfl)
  have bk_73_5 : ∀ (rec_38_2 : Int32 × Int32 × Int32 → Option (Int32)) (hrec_38_2 : ∀ (v1 : Int32) (v2 : Int32) (v3 : Int32) (H : Heap) (locs : List Loc) (ls : Array Slot), rec_38_2 (v1, v2, v3) = some y → Wd dC dI A s.heap [wX9 h_me q_me k_me o_me] H locs → lv_has ls 4 [(0, .ref h_me), (1, .int v1), (2, .int v2), (3, .int v3)] → W p l e ({ frames := 0, cells := 0, slots := 0, locals := 0 } : Room) s m ([.ref h_me, .int p0] : List Value).toArray below meth c H locs 0 0 Qz (F0 m 38 ls [])), ∀ (v1 : Int32) (v3 : Int32) (H : Heap) (locs : List Loc) (ls : Array Slot), bk_X9_isFree_73 o_me rec_38_2 v1 v3 = some y → Wd dC dI A s.heap [wX9 h_me q_me k_me o_me] H locs → lv_has ls 4 [(0, .ref h_me), (1, .int v1), (3, .int v3)] → W p l e ({ frames := 0, cells := 0, slots := 0, locals := 0 } : Room) s m ([.ref h_me, .int p0] : List Value).toArray below meth c H locs 0 0 Qz (F0 m 73 ls []) := by
    intro rec_38_2 hrec_38_2
    intro v1 v3 H locs ls h hw hl
    unfold bk_X9_isFree_73 at h
    refine lv_iconst (v := 1) hx hb dX9_isFree_73 (by decide) ?_
    refine lv_goto (tgt := 78) hx hb dX9_isFree_74 (by decide) ?_
    exact bk_78_4 rec_38_2 hrec_38_2 v1 v3 (1 : Int32) _ _ _ h hw (lv_sub hl [0, 1, 2] rfl)
  have lp_38_2 : ∀ (N : Nat), ∀ (v1 : Int32) (v2 : Int32) (v3 : Int32) (H : Heap) (locs : List Loc) (ls : Array Slot), lp_X9_isFree_38 o_me  N (v1, v2, v3) = some y → Wd dC dI A s.heap [wX9 h_me q_me k_me o_me] H locs → lv_has ls 4 [(0, .ref h_me), (1, .int v1), (2, .int v2), (3, .int v3)] → W p l e ({ frames := 0, cells := 0, slots := 0, locals := 0 } : Room) s m ([.ref h_me, .int p0] : List Value).toArray below meth c H locs 0 0 Qz (F0 m 38 ls []) := by
    intro N
    induction N with
    | zero =>
      intro v1 v2 v3 H locs ls h hw hl
      exact absurd (show (none : Option (Int32)) = some y from h) (by simp)
    | succ N ih =>
      intro v1 v2 v3 H locs ls h hw hl
      have h : lb_X9_isFree_38 o_me  (lp_X9_isFree_38 o_me  N) v1 v2 v3 = some y := h
      unfold lb_X9_isFree_38 at h
      refine lv_iload_n hx hb dX9_isFree_38 rfl (lv_at hl 3 rfl) ?_
      refine lv_iload_n hx hb dX9_isFree_39 rfl (lv_at hl 1 rfl) ?_
      refine lv_icmp_ge (tgt := 85) hx hb dX9_isFree_40 (by decide) (fun c => ?_) (fun c => ?_)
      · have h := z_t h c
        refine lv_iload_n hx hb dX9_isFree_85 rfl (lv_at hl 2 rfl) ?_
        obtain ⟨g2, h⟩ := z_gd h
        have hy := Option.some.inj h
        rw [← hQz, ← hy]
        exact xr_i (v := v2) hx hb hr (z_nar g2) hlk hK hw dX9_isFree_86
      · have h := z_f h c
        refine lv_iload_n hx hb dX9_isFree_43 rfl (lv_at hl 2 rfl) ?_
        refine lv_if_eq (tgt := 77) hx hb dX9_isFree_44 (by decide) (fun c => ?_) (fun c => ?_)
        · have h := z_t h c
          exact bk_77_3 (lp_X9_isFree_38 o_me  N) ih v1 v3 _ _ _ h hw (lv_sub hl [0, 1, 3] rfl)
        · have h := z_f h c
          refine lv_aload_n hx hb dX9_isFree_47 rfl (lv_at hl 0 rfl) ?_
          refine fgX9_48 hx hb hts hown hK hw 0 rfl kw1224 dX9_isFree_48 ?_
          refine lv_iload_n hx hb dX9_isFree_51 rfl (lv_at hl 1 rfl) ?_
          obtain ⟨g4, h⟩ := z_gd h
          refine faX9_48 hx hb hK hw 0 rfl rfl g4 dX9_isFree_52 ?_
          refine lv_bipush (v := 7) hx hb dX9_isFree_53 (by decide) ?_
          refine lv_icmp_eq (tgt := 73) hx hb dX9_isFree_55 (by decide) (fun c => ?_) (fun c => ?_)
          · have h := z_t h c
            exact bk_73_5 (lp_X9_isFree_38 o_me  N) ih v1 v3 _ _ _ h hw (lv_sub hl [0, 1, 3] rfl)
          · have h := z_f h c
            refine lv_aload_n hx hb dX9_isFree_58 rfl (lv_at hl 0 rfl) ?_
            refine fgX9_48 hx hb hts hown hK hw 0 rfl kw1224 dX9_isFree_59 ?_
            refine lv_iload_n hx hb dX9_isFree_62 rfl (lv_at hl 3 rfl) ?_
            obtain ⟨g5, h⟩ := z_gd h
            refine faX9_48 hx hb hK hw 0 rfl rfl g5 dX9_isFree_63 ?_
            refine lv_aload_n hx hb dX9_isFree_64 rfl (lv_at hl 0 rfl) ?_
            refine fgX9_48 hx hb hts hown hK hw 0 rfl kw1224 dX9_isFree_65 ?_
            refine lv_iload_n hx hb dX9_isFree_68 rfl (lv_at hl 1 rfl) ?_
            obtain ⟨g6, h⟩ := z_gd h
            refine faX9_48 hx hb hK hw 0 rfl rfl g6 dX9_isFree_69 ?_
            refine lv_icmp_eq (tgt := 77) hx hb dX9_isFree_70 (by decide) (fun c => ?_) (fun c => ?_)
            · have h := z_t h c
              exact bk_77_3 (lp_X9_isFree_38 o_me  N) ih v1 v3 _ _ _ h hw (lv_sub hl [0, 1, 3] rfl)
            · have h := z_f h c
              exact bk_73_5 (lp_X9_isFree_38 o_me  N) ih v1 v3 _ _ _ h hw (lv_sub hl [0, 1, 3] rfl)
  have bk_35_1 : ∀ (v1 : Int32) (s0 : Int32) (H : Heap) (locs : List Loc) (ls : Array Slot), bk_X9_isFree_35 o_me  v1 s0 = some y → Wd dC dI A s.heap [wX9 h_me q_me k_me o_me] H locs → lv_has ls 4 [(0, .ref h_me), (1, .int v1)] → W p l e ({ frames := 0, cells := 0, slots := 0, locals := 0 } : Room) s m ([.ref h_me, .int p0] : List Value).toArray below meth c H locs 0 0 Qz (F0 m 35 ls [.int s0]) := by
    intro v1 s0 H locs ls h hw hl
    unfold bk_X9_isFree_35 at h
    refine lv_istore_n (lv' := [(2, .int s0), (0, .ref h_me), (1, .int v1)]) hx hb dX9_isFree_35 rfl hl (by decide) rfl (fun ls hl => ?_)
    refine lv_iconst (v := 0) hx hb dX9_isFree_36 (by decide) ?_
    refine lv_istore_n (lv' := [(3, .int (0 : Int32)), (2, .int s0), (0, .ref h_me), (1, .int v1)]) hx hb dX9_isFree_37 rfl hl (by decide) rfl (fun ls hl => ?_)
    exact lp_38_2  zfu v1 s0 (0 : Int32) _ _ _ h hw (lv_sub hl [2, 3, 1, 0] rfl)
  have bk_30_0 : ∀ (v1 : Int32) (H : Heap) (locs : List Loc) (ls : Array Slot), bk_X9_isFree_30 o_me  v1 = some y → Wd dC dI A s.heap [wX9 h_me q_me k_me o_me] H locs → lv_has ls 4 [(0, .ref h_me), (1, .int v1)] → W p l e ({ frames := 0, cells := 0, slots := 0, locals := 0 } : Room) s m ([.ref h_me, .int p0] : List Value).toArray below meth c H locs 0 0 Qz (F0 m 30 ls []) := by
    intro v1 H locs ls h hw hl
    unfold bk_X9_isFree_30 at h
    refine lv_iconst (v := 1) hx hb dX9_isFree_30 (by decide) ?_
    refine lv_goto (tgt := 35) hx hb dX9_isFree_31 (by decide) ?_
    exact bk_35_1  v1 (1 : Int32) _ _ _ h hw (lv_sub hl [0, 1] rfl)
  unfold f_X9_isFree at h
  refine lv_aload_n hx hb dX9_isFree_0 rfl (lv_at hl 0 rfl) ?_
  refine fgX9_48 hx hb hts hown hK hw 0 rfl kw1224 dX9_isFree_1 ?_
  refine lv_iload_n hx hb dX9_isFree_4 rfl (lv_at hl 1 rfl) ?_
  obtain ⟨g1, h⟩ := z_gd h
  refine faX9_48 hx hb hK hw 0 rfl rfl g1 dX9_isFree_5 ?_
  refine lv_bipush (v := 7) hx hb dX9_isFree_6 (by decide) ?_
  refine lv_icmp_eq (tgt := 30) hx hb dX9_isFree_8 (by decide) (fun c => ?_) (fun c => ?_)
  · have h := z_t h c
    exact bk_30_0  p0 _ _ _ h hw (lv_sub hl [0, 1] rfl)
  · have h := z_f h c
    refine lv_aload_n hx hb dX9_isFree_11 rfl (lv_at hl 0 rfl) ?_
    refine fgX9_47 hx hb hts hown hK hw 0 rfl kw1223 dX9_isFree_12 ?_
    refine lv_iconst (v := 4) hx hb dX9_isFree_15 (by decide) ?_
    refine lv_aload_n hx hb dX9_isFree_16 rfl (lv_at hl 0 rfl) ?_
    refine fgX9_48 hx hb hts hown hK hw 0 rfl kw1224 dX9_isFree_17 ?_
    refine lv_iload_n hx hb dX9_isFree_20 rfl (lv_at hl 1 rfl) ?_
    obtain ⟨g7, h⟩ := z_gd h
    refine faX9_48 hx hb hK hw 0 rfl rfl g7 dX9_isFree_21 ?_
    refine lv_imul hx hb dX9_isFree_22 ?_
    refine lv_iload_n hx hb dX9_isFree_23 rfl (lv_at hl 1 rfl) ?_
    refine lv_iadd hx hb dX9_isFree_24 ?_
    obtain ⟨g8, h⟩ := z_gd h
    refine faX9_47 hx hb hK hw 0 rfl rfl g8 dX9_isFree_25 ?_
    refine lv_iconst (v := (-1)) hx hb dX9_isFree_26 (by decide) ?_
    refine lv_icmp_eq (tgt := 34) hx hb dX9_isFree_27 (by decide) (fun c => ?_) (fun c => ?_)
    · have h := z_t h c
      refine lv_iconst (v := 0) hx hb dX9_isFree_34 (by decide) ?_
      exact bk_35_1  p0 (0 : Int32) _ _ _ h hw (lv_sub hl [0, 1] rfl)
    · have h := z_f h c
      exact bk_30_0  p0 _ _ _ h hw (lv_sub hl [0, 1] rfl)

def bk_X9_findCrowned_163  (rec_75_1 : Int32 × Int32 × Ob → Option (Int32 × Ob)) (v2 : Int32) (s0 : Int32) (o_me : Ob) : Option (Int32 × Ob) :=
  zlt (v2 + (-1 : Int32)) fun x5 =>
  rec_75_1 (s0, x5, o_me)
def bk_X9_findCrowned_153  (rec_75_1 : Int32 × Int32 × Ob → Option (Int32 × Ob)) (v1 : Int32) (v2 : Int32) (v3 : Int32) (o_me : Ob) : Option (Int32 × Ob) :=
  if v3 ≤ v1 then
  (bk_X9_findCrowned_163  rec_75_1 v2 v1 o_me)
  else
  (bk_X9_findCrowned_163  rec_75_1 v2 v3 o_me)
def lb_X9_findCrowned_122  (rec_75_1 : Int32 × Int32 × Ob → Option (Int32 × Ob)) (rec_122_4 : Int32 × Int32 × Int32 × Int32 × Ob → Option (Int32 × Ob)) (v1 : Int32) (v2 : Int32) (v3 : Int32) (v4 : Int32) (o_me : Ob) : Option (Int32 × Ob) :=
  if (4 : Int32) ≤ v4 then
  (bk_X9_findCrowned_153  rec_75_1 v1 v2 v3 o_me)
  else
  (if v3 ≤ v1 then
  (bk_X9_findCrowned_153  rec_75_1 v1 v2 v3 o_me)
  else
  (zgd (zin v4 5) <|
  zgd (zin v4 4) <|
  zlt (tA o_me 49 v4.toNatClampNeg (gA o_me 48 v4.toNatClampNeg)) fun o8 =>
  zlt (v4 + (1 : Int32)) fun x9 =>
  rec_122_4 (v1, v2, v3, x9, o8)))
def lp_X9_findCrowned_122  (rec_75_1 : Int32 × Int32 × Ob → Option (Int32 × Ob)) : Nat → (Int32 × Int32 × Int32 × Int32 × Ob) → Option (Int32 × Ob) := zit (fun rec a => lb_X9_findCrowned_122  rec_75_1 rec a.1 a.2.1 a.2.2.1 a.2.2.2.1 a.2.2.2.2)
def bk_X9_findCrowned_118  (rec_75_1 : Int32 × Int32 × Ob → Option (Int32 × Ob)) (v1 : Int32) (v2 : Int32) (s0 : Int32) (o_me : Ob) : Option (Int32 × Ob) :=
  lp_X9_findCrowned_122  rec_75_1 zfu (v1, v2, s0, (0 : Int32), o_me)
def bk_X9_findCrowned_105  (rec_75_1 : Int32 × Int32 × Ob → Option (Int32 × Ob)) (v1 : Int32) (v2 : Int32) (o_me : Ob) : Option (Int32 × Ob) :=
  if v2 = (4 : Int32) then
  ((f_X9_scoreNow o_me).bind fun z10 =>
  bk_X9_findCrowned_118  rec_75_1 v1 v2 z10 o_me)
  else
  (bk_X9_findCrowned_118  rec_75_1 v1 v2 (-1 : Int32) o_me)
def lb_X9_findCrowned_75   (rec_75_1 : Int32 × Int32 × Ob → Option (Int32 × Ob)) (v1 : Int32) (v2 : Int32) (o_me : Ob) : Option (Int32 × Ob) :=
  if v2 < (0 : Int32) then
  (some (v1, o_me))
  else
  (zgd (zin v2 5) <|
  zgd (zin v2 5) <|
  zlt (tA o_me 48 v2.toNatClampNeg ((gA o_me 48 v2.toNatClampNeg) + (1 : Int32))) fun o4 =>
  if v2 = (4 : Int32) then
  (bk_X9_findCrowned_105  rec_75_1 v1 v2 o4)
  else
  (zgd (zin v2 5) <|
  if (gA o4 48 v2.toNatClampNeg) ≤ (7 : Int32) then
  ((f_X9_isFree o4 v2).bind fun z12 =>
  if z12 = (0 : Int32) then
  (rec_75_1 (v1, v2, o4))
  else
  (zlt (v2 + (1 : Int32)) fun x13 =>
  zgd (zin x13 5) <|
  zlt (tA o4 48 x13.toNatClampNeg (-1 : Int32)) fun o15 =>
  rec_75_1 (v1, x13, o15)))
  else
  (bk_X9_findCrowned_105  rec_75_1 v1 v2 o4)))
def lp_X9_findCrowned_75   : Nat → (Int32 × Int32 × Ob) → Option (Int32 × Ob) := zit (fun rec a => lb_X9_findCrowned_75   rec a.1 a.2.1 a.2.2)
def bk_X9_findCrowned_51  (rec_2_0 : Int32 × Ob → Option (Int32 × Ob)) (rec_10_7 : Int32 × Int32 × Ob → Option (Int32 × Ob)) (v1 : Int32) (v2 : Int32) (s0 : Int32) (s1 : Int32) (o_me : Ob) : Option (Int32 × Ob) :=
  zgd (zin s1 28) <|
  zlt (tA o_me 47 s1.toNatClampNeg s0) fun o19 =>
  zlt (v2 + (1 : Int32)) fun x20 =>
  rec_10_7 (v1, x20, o19)
def bk_X9_findCrowned_50  (rec_2_0 : Int32 × Ob → Option (Int32 × Ob)) (rec_10_7 : Int32 × Int32 × Ob → Option (Int32 × Ob)) (v1 : Int32) (v2 : Int32) (s0 : Int32) (o_me : Ob) : Option (Int32 × Ob) :=
  bk_X9_findCrowned_51  rec_2_0 rec_10_7 v1 v2 (-1 : Int32) s0 o_me
def lb_X9_findCrowned_10  (rec_2_0 : Int32 × Ob → Option (Int32 × Ob)) (rec_10_7 : Int32 × Int32 × Ob → Option (Int32 × Ob)) (v1 : Int32) (v2 : Int32) (o_me : Ob) : Option (Int32 × Ob) :=
  if (4 : Int32) ≤ v2 then
  (zlt (v1 + (1 : Int32)) fun x16 =>
  rec_2_0 (x16, o_me))
  else
  ((f_X9_isPerson o_me v1).bind fun z17 =>
  if z17 = (0 : Int32) then
  (bk_X9_findCrowned_50  rec_2_0 rec_10_7 v1 v2 (((4 : Int32) * v1) + v2) o_me)
  else
  ((f_X9_isBarred o_me v1 v2).bind fun z21 =>
  if z21.1 = (0 : Int32) then
  ((f_X9_runsOf z21.2 v1 v2).bind fun z22 =>
  bk_X9_findCrowned_51  rec_2_0 rec_10_7 v1 v2 z22.1 (((4 : Int32) * v1) + v2) z22.2)
  else
  (bk_X9_findCrowned_50  rec_2_0 rec_10_7 v1 v2 (((4 : Int32) * v1) + v2) z21.2)))
def lp_X9_findCrowned_10  (rec_2_0 : Int32 × Ob → Option (Int32 × Ob)) : Nat → (Int32 × Int32 × Ob) → Option (Int32 × Ob) := zit (fun rec a => lb_X9_findCrowned_10  rec_2_0 rec a.1 a.2.1 a.2.2)
def lb_X9_findCrowned_2   (rec_2_0 : Int32 × Ob → Option (Int32 × Ob)) (v1 : Int32) (o_me : Ob) : Option (Int32 × Ob) :=
  if (7 : Int32) ≤ v1 then
  (zlt (tA o_me 48 (0 : Int32).toNatClampNeg (-1 : Int32)) fun o1 =>
  lp_X9_findCrowned_75   zfu ((-1 : Int32), (0 : Int32), o1))
  else
  (lp_X9_findCrowned_10  rec_2_0 zfu (v1, (0 : Int32), o_me))
def lp_X9_findCrowned_2   : Nat → (Int32 × Ob) → Option (Int32 × Ob) := zit (fun rec a => lb_X9_findCrowned_2   rec a.1 a.2)
def f_X9_findCrowned (o_me : Ob) : Option (Int32 × Ob) :=
  lp_X9_findCrowned_2   zfu ((0 : Int32), o_me)
set_option maxHeartbeats 4000000 in
set_option maxRecDepth 100000 in
theorem m_X9_findCrowned (l : Launch) (dC : Nat → ClassId) (dI : Nat → Nat → Nat) (sz : Nat) (h_me : Nat) (q_me : Nat → Nat) (k_me : Nat → ClassId) (o_me : Ob) (y : Int32 × Ob) (h : f_X9_findCrowned o_me = some y) : CI l yX9_findCrowned cX9_findCrowned 5 (some .int) ({ frames := 6, cells := 0, slots := 0, locals := 145 } : Room) dC dI sz [.ref h_me] [wX9 h_me q_me k_me o_me] [tX9 k_me] y.1 [wX9 h_me q_me k_me y.2] := by
  refine CC_of (by decide) (Nat.le_of_ble_eq_true rfl) ?_
  intro p e s m below meth c A ls hx hb hml hr hlk hnm hown hts hX hK hP hD hA hl
  have hl : lv_has ls 5 [(0, .ref h_me)] := hl
  have hown : s.vm.findClass RX9 = some m.cls := hown
  have hw : Wd dC dI A s.heap [wX9 h_me q_me k_me o_me] s.heap [] := ⟨hP, hD, va_S.rf⟩
  generalize hQz : (MQ below (QI dC dI (fun r (_ : Unit) => r = y.1) (fun _ => Jn [wX9 h_me q_me k_me y.2]) (fun _ => Jt [tX9 k_me]) A) ([.ref h_me] : List Value).toArray s 0 0 A) = Qz
  clear hP hD hnm
  have bk_163_6 : ∀ (rec_75_1 : Int32 × Int32 × Ob → Option (Int32 × Ob)) (hrec_75_1 : ∀ (v1 : Int32) (v2 : Int32) (o_me : Ob) (H : Heap) (locs : List Loc) (ls : Array Slot), rec_75_1 (v1, v2, o_me) = some y → Wd dC dI A s.heap [wX9 h_me q_me k_me o_me] H locs → lv_has ls 5 [(0, .ref h_me), (1, .int v1), (2, .int v2)] → W p l e ({ frames := 6, cells := 0, slots := 0, locals := 145 } : Room) s m ([.ref h_me] : List Value).toArray below meth c H locs 0 0 Qz (F0 m 75 ls [])), ∀ (v2 : Int32) (s0 : Int32) (o_me : Ob) (H : Heap) (locs : List Loc) (ls : Array Slot), bk_X9_findCrowned_163  rec_75_1 v2 s0 o_me = some y → Wd dC dI A s.heap [wX9 h_me q_me k_me o_me] H locs → lv_has ls 5 [(0, .ref h_me), (2, .int v2)] → W p l e ({ frames := 6, cells := 0, slots := 0, locals := 145 } : Room) s m ([.ref h_me] : List Value).toArray below meth c H locs 0 0 Qz (F0 m 163 ls [.int s0]) := by
    intro rec_75_1 hrec_75_1
    intro v2 s0 o_me H locs ls h hw hl
    unfold bk_X9_findCrowned_163 at h
    refine lv_istore_n (lv' := [(1, .int s0), (0, .ref h_me), (2, .int v2)]) hx hb dX9_findCrowned_163 rfl hl (by decide) rfl (fun ls hl => ?_)
    obtain ⟨x5, ex5, h⟩ := z_lt h
    refine lv_iinc (v := x5) (lv' := [(2, .int x5), (1, .int s0), (0, .ref h_me)]) hx hb dX9_findCrowned_164 hl (k := 2) rfl ((congrArg (v2 + ·) (show Int32.ofInt (-1) = (-1 : Int32) from by decide)).trans ex5.symm) (by decide) rfl (fun ls hl => ?_)
    refine lv_goto (tgt := 75) hx hb dX9_findCrowned_167 (by decide) ?_
    exact hrec_75_1 s0 x5 o_me _ _ _ h hw (lv_sub hl [2, 1, 0] rfl)
  have bk_153_5 : ∀ (rec_75_1 : Int32 × Int32 × Ob → Option (Int32 × Ob)) (hrec_75_1 : ∀ (v1 : Int32) (v2 : Int32) (o_me : Ob) (H : Heap) (locs : List Loc) (ls : Array Slot), rec_75_1 (v1, v2, o_me) = some y → Wd dC dI A s.heap [wX9 h_me q_me k_me o_me] H locs → lv_has ls 5 [(0, .ref h_me), (1, .int v1), (2, .int v2)] → W p l e ({ frames := 6, cells := 0, slots := 0, locals := 145 } : Room) s m ([.ref h_me] : List Value).toArray below meth c H locs 0 0 Qz (F0 m 75 ls [])), ∀ (v1 : Int32) (v2 : Int32) (v3 : Int32) (o_me : Ob) (H : Heap) (locs : List Loc) (ls : Array Slot), bk_X9_findCrowned_153  rec_75_1 v1 v2 v3 o_me = some y → Wd dC dI A s.heap [wX9 h_me q_me k_me o_me] H locs → lv_has ls 5 [(0, .ref h_me), (1, .int v1), (2, .int v2), (3, .int v3)] → W p l e ({ frames := 6, cells := 0, slots := 0, locals := 145 } : Room) s m ([.ref h_me] : List Value).toArray below meth c H locs 0 0 Qz (F0 m 153 ls []) := by
    intro rec_75_1 hrec_75_1
    intro v1 v2 v3 o_me H locs ls h hw hl
    unfold bk_X9_findCrowned_153 at h
    refine lv_iload_n hx hb dX9_findCrowned_153 rfl (lv_at hl 3 rfl) ?_
    refine lv_iload_n hx hb dX9_findCrowned_154 rfl (lv_at hl 1 rfl) ?_
    refine lv_icmp_le (tgt := 162) hx hb dX9_findCrowned_155 (by decide) (fun c => ?_) (fun c => ?_)
    · have h := z_t h c
      refine lv_iload_n hx hb dX9_findCrowned_162 rfl (lv_at hl 1 rfl) ?_
      exact bk_163_6 rec_75_1 hrec_75_1 v2 v1 o_me _ _ _ h hw (lv_sub hl [0, 2] rfl)
    · have h := z_f h c
      refine lv_iload_n hx hb dX9_findCrowned_158 rfl (lv_at hl 3 rfl) ?_
      refine lv_goto (tgt := 163) hx hb dX9_findCrowned_159 (by decide) ?_
      exact bk_163_6 rec_75_1 hrec_75_1 v2 v3 o_me _ _ _ h hw (lv_sub hl [0, 2] rfl)
  have lp_122_4 : ∀ (rec_75_1 : Int32 × Int32 × Ob → Option (Int32 × Ob)) (hrec_75_1 : ∀ (v1 : Int32) (v2 : Int32) (o_me : Ob) (H : Heap) (locs : List Loc) (ls : Array Slot), rec_75_1 (v1, v2, o_me) = some y → Wd dC dI A s.heap [wX9 h_me q_me k_me o_me] H locs → lv_has ls 5 [(0, .ref h_me), (1, .int v1), (2, .int v2)] → W p l e ({ frames := 6, cells := 0, slots := 0, locals := 145 } : Room) s m ([.ref h_me] : List Value).toArray below meth c H locs 0 0 Qz (F0 m 75 ls [])) (N : Nat), ∀ (v1 : Int32) (v2 : Int32) (v3 : Int32) (v4 : Int32) (o_me : Ob) (H : Heap) (locs : List Loc) (ls : Array Slot), lp_X9_findCrowned_122  rec_75_1 N (v1, v2, v3, v4, o_me) = some y → Wd dC dI A s.heap [wX9 h_me q_me k_me o_me] H locs → lv_has ls 5 [(0, .ref h_me), (1, .int v1), (2, .int v2), (3, .int v3), (4, .int v4)] → W p l e ({ frames := 6, cells := 0, slots := 0, locals := 145 } : Room) s m ([.ref h_me] : List Value).toArray below meth c H locs 0 0 Qz (F0 m 122 ls []) := by
    intro rec_75_1 hrec_75_1
    intro N
    induction N with
    | zero =>
      intro v1 v2 v3 v4 o_me H locs ls h hw hl
      exact absurd (show (none : Option (Int32 × Ob)) = some y from h) (by simp)
    | succ N ih =>
      intro v1 v2 v3 v4 o_me H locs ls h hw hl
      have h : lb_X9_findCrowned_122  rec_75_1 (lp_X9_findCrowned_122  rec_75_1 N) v1 v2 v3 v4 o_me = some y := h
      unfold lb_X9_findCrowned_122 at h
      refine lv_iload hx hb dX9_findCrowned_122 (lv_at hl 4 rfl) ?_
      refine lv_iconst (v := 4) hx hb dX9_findCrowned_124 (by decide) ?_
      refine lv_icmp_ge (tgt := 153) hx hb dX9_findCrowned_125 (by decide) (fun c => ?_) (fun c => ?_)
      · have h := z_t h c
        exact bk_153_5 rec_75_1 hrec_75_1 v1 v2 v3 o_me _ _ _ h hw (lv_sub hl [0, 1, 2, 3] rfl)
      · have h := z_f h c
        refine lv_iload_n hx hb dX9_findCrowned_128 rfl (lv_at hl 3 rfl) ?_
        refine lv_iload_n hx hb dX9_findCrowned_129 rfl (lv_at hl 1 rfl) ?_
        refine lv_icmp_le (tgt := 153) hx hb dX9_findCrowned_130 (by decide) (fun c => ?_) (fun c => ?_)
        · have h := z_t h c
          exact bk_153_5 rec_75_1 hrec_75_1 v1 v2 v3 o_me _ _ _ h hw (lv_sub hl [0, 1, 2, 3] rfl)
        · have h := z_f h c
          refine lv_aload_n hx hb dX9_findCrowned_133 rfl (lv_at hl 0 rfl) ?_
          refine fgX9_49 hx hb hts hown hK hw 0 rfl kw1225 dX9_findCrowned_134 ?_
          refine lv_iload hx hb dX9_findCrowned_137 (lv_at hl 4 rfl) ?_
          refine lv_aload_n hx hb dX9_findCrowned_139 rfl (lv_at hl 0 rfl) ?_
          refine fgX9_48 hx hb hts hown hK hw 0 rfl kw1224 dX9_findCrowned_140 ?_
          refine lv_iload hx hb dX9_findCrowned_143 (lv_at hl 4 rfl) ?_
          obtain ⟨g6, h⟩ := z_gd h
          refine faX9_48 hx hb hK hw 0 rfl rfl g6 dX9_findCrowned_145 ?_
          obtain ⟨g7, h⟩ := z_gd h
          refine fbX9_49 hx hb hK hw 0 rfl rfl g7 dX9_findCrowned_146 (fun H locs hw => ?_)
          obtain ⟨o8, eo8, h⟩ := z_lt h
          have hw : Wd dC dI A s.heap [wX9 h_me q_me k_me o8] H locs := by rw [eo8]; exact hw
          obtain ⟨x9, ex9, h⟩ := z_lt h
          refine lv_iinc (v := x9) (lv' := [(4, .int x9), (0, .ref h_me), (1, .int v1), (2, .int v2), (3, .int v3)]) hx hb dX9_findCrowned_147 hl (k := 4) rfl ((congrArg (v4 + ·) (show Int32.ofInt 1 = (1 : Int32) from by decide)).trans ex9.symm) (by decide) rfl (fun ls hl => ?_)
          refine lv_goto (tgt := 122) hx hb dX9_findCrowned_150 (by decide) ?_
          exact ih v1 v2 v3 x9 o8 _ _ _ h hw (lv_sub hl [1, 2, 3, 4, 0] rfl)
  have bk_118_3 : ∀ (rec_75_1 : Int32 × Int32 × Ob → Option (Int32 × Ob)) (hrec_75_1 : ∀ (v1 : Int32) (v2 : Int32) (o_me : Ob) (H : Heap) (locs : List Loc) (ls : Array Slot), rec_75_1 (v1, v2, o_me) = some y → Wd dC dI A s.heap [wX9 h_me q_me k_me o_me] H locs → lv_has ls 5 [(0, .ref h_me), (1, .int v1), (2, .int v2)] → W p l e ({ frames := 6, cells := 0, slots := 0, locals := 145 } : Room) s m ([.ref h_me] : List Value).toArray below meth c H locs 0 0 Qz (F0 m 75 ls [])), ∀ (v1 : Int32) (v2 : Int32) (s0 : Int32) (o_me : Ob) (H : Heap) (locs : List Loc) (ls : Array Slot), bk_X9_findCrowned_118  rec_75_1 v1 v2 s0 o_me = some y → Wd dC dI A s.heap [wX9 h_me q_me k_me o_me] H locs → lv_has ls 5 [(0, .ref h_me), (1, .int v1), (2, .int v2)] → W p l e ({ frames := 6, cells := 0, slots := 0, locals := 145 } : Room) s m ([.ref h_me] : List Value).toArray below meth c H locs 0 0 Qz (F0 m 118 ls [.int s0]) := by
    intro rec_75_1 hrec_75_1
    intro v1 v2 s0 o_me H locs ls h hw hl
    unfold bk_X9_findCrowned_118 at h
    refine lv_istore_n (lv' := [(3, .int s0), (0, .ref h_me), (1, .int v1), (2, .int v2)]) hx hb dX9_findCrowned_118 rfl hl (by decide) rfl (fun ls hl => ?_)
    refine lv_iconst (v := 0) hx hb dX9_findCrowned_119 (by decide) ?_
    refine lv_istore (lv' := [(4, .int (0 : Int32)), (3, .int s0), (0, .ref h_me), (1, .int v1), (2, .int v2)]) hx hb dX9_findCrowned_120 hl (by decide) rfl (fun ls hl => ?_)
    exact lp_122_4 rec_75_1 hrec_75_1 zfu v1 v2 s0 (0 : Int32) o_me _ _ _ h hw (lv_sub hl [2, 3, 4, 1, 0] rfl)
  have bk_105_2 : ∀ (rec_75_1 : Int32 × Int32 × Ob → Option (Int32 × Ob)) (hrec_75_1 : ∀ (v1 : Int32) (v2 : Int32) (o_me : Ob) (H : Heap) (locs : List Loc) (ls : Array Slot), rec_75_1 (v1, v2, o_me) = some y → Wd dC dI A s.heap [wX9 h_me q_me k_me o_me] H locs → lv_has ls 5 [(0, .ref h_me), (1, .int v1), (2, .int v2)] → W p l e ({ frames := 6, cells := 0, slots := 0, locals := 145 } : Room) s m ([.ref h_me] : List Value).toArray below meth c H locs 0 0 Qz (F0 m 75 ls [])), ∀ (v1 : Int32) (v2 : Int32) (o_me : Ob) (H : Heap) (locs : List Loc) (ls : Array Slot), bk_X9_findCrowned_105  rec_75_1 v1 v2 o_me = some y → Wd dC dI A s.heap [wX9 h_me q_me k_me o_me] H locs → lv_has ls 5 [(0, .ref h_me), (1, .int v1), (2, .int v2)] → W p l e ({ frames := 6, cells := 0, slots := 0, locals := 145 } : Room) s m ([.ref h_me] : List Value).toArray below meth c H locs 0 0 Qz (F0 m 105 ls []) := by
    intro rec_75_1 hrec_75_1
    intro v1 v2 o_me H locs ls h hw hl
    unfold bk_X9_findCrowned_105 at h
    refine lv_iload_n hx hb dX9_findCrowned_105 rfl (lv_at hl 2 rfl) ?_
    refine lv_iconst (v := 4) hx hb dX9_findCrowned_106 (by decide) ?_
    refine lv_icmp_ne (tgt := 117) hx hb dX9_findCrowned_107 (by decide) (fun c => ?_) (fun c => ?_)
    · have h := z_f h c
      refine lv_iconst (v := (-1)) hx hb dX9_findCrowned_117 (by decide) ?_
      exact bk_118_3 rec_75_1 hrec_75_1 v1 v2 (-1 : Int32) o_me _ _ _ h hw (lv_sub hl [0, 1, 2] rfl)
    · have h := z_t h c
      refine lv_aload_n hx hb dX9_findCrowned_110 rfl (lv_at hl 0 rfl) ?_
      obtain ⟨z10, ez10, h⟩ := z_bd h
      refine xj_i (xrV (As := []) (rest := []) ⟨hx, hb, hml, hown, hts⟩ (m_X9_scoreNow l dC dI _ h_me q_me k_me o_me z10 ez10) kw1759 kw1756 kw1758 kw96 kw120 hd_X9_scoreNow ⟨rfl, rfl⟩ rfl rfl ⟨rfl, rfl⟩ hX hK hw [0] (by decide) rfl rfl rfl rfl rfl hl.1 rfl rfl dX9_findCrowned_111) hw hA [0] (by decide) rfl rfl (fun H locs hw => ?_)
      have hw : Wd dC dI A s.heap [wX9 h_me q_me k_me o_me] H locs := hw
      refine lv_goto (tgt := 118) hx hb dX9_findCrowned_114 (by decide) ?_
      exact bk_118_3 rec_75_1 hrec_75_1 v1 v2 z10 o_me _ _ _ h hw (lv_sub hl [0, 1, 2] rfl)
  have lp_75_1 : ∀ (N : Nat), ∀ (v1 : Int32) (v2 : Int32) (o_me : Ob) (H : Heap) (locs : List Loc) (ls : Array Slot), lp_X9_findCrowned_75   N (v1, v2, o_me) = some y → Wd dC dI A s.heap [wX9 h_me q_me k_me o_me] H locs → lv_has ls 5 [(0, .ref h_me), (1, .int v1), (2, .int v2)] → W p l e ({ frames := 6, cells := 0, slots := 0, locals := 145 } : Room) s m ([.ref h_me] : List Value).toArray below meth c H locs 0 0 Qz (F0 m 75 ls []) := by
    intro N
    induction N with
    | zero =>
      intro v1 v2 o_me H locs ls h hw hl
      exact absurd (show (none : Option (Int32 × Ob)) = some y from h) (by simp)
    | succ N ih =>
      intro v1 v2 o_me H locs ls h hw hl
      have h : lb_X9_findCrowned_75   (lp_X9_findCrowned_75   N) v1 v2 o_me = some y := h
      unfold lb_X9_findCrowned_75 at h
      refine lv_iload_n hx hb dX9_findCrowned_75 rfl (lv_at hl 2 rfl) ?_
      refine lv_if_lt (tgt := 191) hx hb dX9_findCrowned_76 (by decide) (fun c => ?_) (fun c => ?_)
      · have h := z_t h c
        refine lv_iload_n hx hb dX9_findCrowned_191 rfl (lv_at hl 1 rfl) ?_
        have hy := Option.some.inj h
        rw [← hQz, ← hy]
        exact xr_i (v := v1) hx hb hr rfl hlk hK hw dX9_findCrowned_192
      · have h := z_f h c
        refine lv_aload_n hx hb dX9_findCrowned_79 rfl (lv_at hl 0 rfl) ?_
        refine fgX9_48 hx hb hts hown hK hw 0 rfl kw1224 dX9_findCrowned_80 ?_
        refine lv_iload_n hx hb dX9_findCrowned_83 rfl (lv_at hl 2 rfl) ?_
        refine lv_dup2_11 hx hb dX9_findCrowned_84 rfl rfl ?_
        obtain ⟨g2, h⟩ := z_gd h
        refine faX9_48 hx hb hK hw 0 rfl rfl g2 dX9_findCrowned_85 ?_
        refine lv_iconst (v := 1) hx hb dX9_findCrowned_86 (by decide) ?_
        refine lv_iadd hx hb dX9_findCrowned_87 ?_
        obtain ⟨g3, h⟩ := z_gd h
        refine fbX9_48 hx hb hK hw 0 rfl rfl g3 dX9_findCrowned_88 (fun H locs hw => ?_)
        obtain ⟨o4, eo4, h⟩ := z_lt h
        have hw : Wd dC dI A s.heap [wX9 h_me q_me k_me o4] H locs := by rw [eo4]; exact hw
        refine lv_iload_n hx hb dX9_findCrowned_89 rfl (lv_at hl 2 rfl) ?_
        refine lv_iconst (v := 4) hx hb dX9_findCrowned_90 (by decide) ?_
        refine lv_icmp_eq (tgt := 105) hx hb dX9_findCrowned_91 (by decide) (fun c => ?_) (fun c => ?_)
        · have h := z_t h c
          exact bk_105_2 (lp_X9_findCrowned_75   N) ih v1 v2 o4 _ _ _ h hw (lv_sub hl [0, 1, 2] rfl)
        · have h := z_f h c
          refine lv_aload_n hx hb dX9_findCrowned_94 rfl (lv_at hl 0 rfl) ?_
          refine fgX9_48 hx hb hts hown hK hw 0 rfl kw1224 dX9_findCrowned_95 ?_
          refine lv_iload_n hx hb dX9_findCrowned_98 rfl (lv_at hl 2 rfl) ?_
          obtain ⟨g11, h⟩ := z_gd h
          refine faX9_48 hx hb hK hw 0 rfl rfl g11 dX9_findCrowned_99 ?_
          refine lv_bipush (v := 7) hx hb dX9_findCrowned_100 (by decide) ?_
          refine lv_icmp_le (tgt := 170) hx hb dX9_findCrowned_102 (by decide) (fun c => ?_) (fun c => ?_)
          · have h := z_t h c
            refine lv_aload_n hx hb dX9_findCrowned_170 rfl (lv_at hl 0 rfl) ?_
            refine lv_iload_n hx hb dX9_findCrowned_171 rfl (lv_at hl 2 rfl) ?_
            obtain ⟨z12, ez12, h⟩ := z_bd h
            refine xj_i (xrV (As := [.int v2]) (rest := []) ⟨hx, hb, hml, hown, hts⟩ (m_X9_isFree l dC dI _ h_me q_me k_me o4 v2 z12 ez12) kw1763 kw1760 kw1762 kw97 kw120 hd_X9_isFree ⟨rfl, rfl⟩ rfl rfl ⟨rfl, rfl⟩ hX hK hw [0] (by decide) rfl rfl rfl rfl rfl hl.1 rfl rfl dX9_findCrowned_172) hw hA [0] (by decide) rfl rfl (fun H locs hw => ?_)
            have hw : Wd dC dI A s.heap [wX9 h_me q_me k_me o4] H locs := hw
            refine lv_if_eq (tgt := 75) hx hb dX9_findCrowned_175 (by decide) (fun c => ?_) (fun c => ?_)
            · have h := z_t h c
              exact ih v1 v2 o4 _ _ _ h hw (lv_sub hl [0, 1, 2] rfl)
            · have h := z_f h c
              obtain ⟨x13, ex13, h⟩ := z_lt h
              refine lv_iinc (v := x13) (lv' := [(2, .int x13), (0, .ref h_me), (1, .int v1)]) hx hb dX9_findCrowned_178 hl (k := 2) rfl ((congrArg (v2 + ·) (show Int32.ofInt 1 = (1 : Int32) from by decide)).trans ex13.symm) (by decide) rfl (fun ls hl => ?_)
              refine lv_aload_n hx hb dX9_findCrowned_181 rfl (lv_at hl 1 rfl) ?_
              refine fgX9_48 hx hb hts hown hK hw 0 rfl kw1224 dX9_findCrowned_182 ?_
              refine lv_iload_n hx hb dX9_findCrowned_185 rfl (lv_at hl 0 rfl) ?_
              refine lv_iconst (v := (-1)) hx hb dX9_findCrowned_186 (by decide) ?_
              obtain ⟨g14, h⟩ := z_gd h
              refine fbX9_48 hx hb hK hw 0 rfl rfl g14 dX9_findCrowned_187 (fun H locs hw => ?_)
              obtain ⟨o15, eo15, h⟩ := z_lt h
              have hw : Wd dC dI A s.heap [wX9 h_me q_me k_me o15] H locs := by rw [eo15]; exact hw
              refine lv_goto (tgt := 75) hx hb dX9_findCrowned_188 (by decide) ?_
              exact ih v1 x13 o15 _ _ _ h hw (lv_sub hl [1, 2, 0] rfl)
          · have h := z_f h c
            exact bk_105_2 (lp_X9_findCrowned_75   N) ih v1 v2 o4 _ _ _ h hw (lv_sub hl [0, 1, 2] rfl)
  have bk_51_9 : ∀ (rec_2_0 : Int32 × Ob → Option (Int32 × Ob)) (hrec_2_0 : ∀ (v1 : Int32) (o_me : Ob) (H : Heap) (locs : List Loc) (ls : Array Slot), rec_2_0 (v1, o_me) = some y → Wd dC dI A s.heap [wX9 h_me q_me k_me o_me] H locs → lv_has ls 5 [(0, .ref h_me), (1, .int v1)] → W p l e ({ frames := 6, cells := 0, slots := 0, locals := 145 } : Room) s m ([.ref h_me] : List Value).toArray below meth c H locs 0 0 Qz (F0 m 2 ls [])) (rec_10_7 : Int32 × Int32 × Ob → Option (Int32 × Ob)) (hrec_10_7 : ∀ (v1 : Int32) (v2 : Int32) (o_me : Ob) (H : Heap) (locs : List Loc) (ls : Array Slot), rec_10_7 (v1, v2, o_me) = some y → Wd dC dI A s.heap [wX9 h_me q_me k_me o_me] H locs → lv_has ls 5 [(0, .ref h_me), (1, .int v1), (2, .int v2)] → W p l e ({ frames := 6, cells := 0, slots := 0, locals := 145 } : Room) s m ([.ref h_me] : List Value).toArray below meth c H locs 0 0 Qz (F0 m 10 ls [])), ∀ (v1 : Int32) (v2 : Int32) (s0 : Int32) (s1 : Int32) (o_me : Ob) (H : Heap) (locs : List Loc) (ls : Array Slot), bk_X9_findCrowned_51  rec_2_0 rec_10_7 v1 v2 s0 s1 o_me = some y → Wd dC dI A s.heap [wX9 h_me q_me k_me o_me] H locs → lv_has ls 5 [(0, .ref h_me), (1, .int v1), (2, .int v2)] → W p l e ({ frames := 6, cells := 0, slots := 0, locals := 145 } : Room) s m ([.ref h_me] : List Value).toArray below meth c H locs 0 0 Qz (F0 m 51 ls [.int s0, .int s1, .ref (q_me 47)]) := by
    intro rec_2_0 hrec_2_0 rec_10_7 hrec_10_7
    intro v1 v2 s0 s1 o_me H locs ls h hw hl
    unfold bk_X9_findCrowned_51 at h
    obtain ⟨g18, h⟩ := z_gd h
    refine fbX9_47 hx hb hK hw 0 rfl rfl g18 dX9_findCrowned_51 (fun H locs hw => ?_)
    obtain ⟨o19, eo19, h⟩ := z_lt h
    have hw : Wd dC dI A s.heap [wX9 h_me q_me k_me o19] H locs := by rw [eo19]; exact hw
    obtain ⟨x20, ex20, h⟩ := z_lt h
    refine lv_iinc (v := x20) (lv' := [(2, .int x20), (0, .ref h_me), (1, .int v1)]) hx hb dX9_findCrowned_52 hl (k := 2) rfl ((congrArg (v2 + ·) (show Int32.ofInt 1 = (1 : Int32) from by decide)).trans ex20.symm) (by decide) rfl (fun ls hl => ?_)
    refine lv_goto (tgt := 10) hx hb dX9_findCrowned_55 (by decide) ?_
    exact hrec_10_7 v1 x20 o19 _ _ _ h hw (lv_sub hl [1, 2, 0] rfl)
  have bk_50_8 : ∀ (rec_2_0 : Int32 × Ob → Option (Int32 × Ob)) (hrec_2_0 : ∀ (v1 : Int32) (o_me : Ob) (H : Heap) (locs : List Loc) (ls : Array Slot), rec_2_0 (v1, o_me) = some y → Wd dC dI A s.heap [wX9 h_me q_me k_me o_me] H locs → lv_has ls 5 [(0, .ref h_me), (1, .int v1)] → W p l e ({ frames := 6, cells := 0, slots := 0, locals := 145 } : Room) s m ([.ref h_me] : List Value).toArray below meth c H locs 0 0 Qz (F0 m 2 ls [])) (rec_10_7 : Int32 × Int32 × Ob → Option (Int32 × Ob)) (hrec_10_7 : ∀ (v1 : Int32) (v2 : Int32) (o_me : Ob) (H : Heap) (locs : List Loc) (ls : Array Slot), rec_10_7 (v1, v2, o_me) = some y → Wd dC dI A s.heap [wX9 h_me q_me k_me o_me] H locs → lv_has ls 5 [(0, .ref h_me), (1, .int v1), (2, .int v2)] → W p l e ({ frames := 6, cells := 0, slots := 0, locals := 145 } : Room) s m ([.ref h_me] : List Value).toArray below meth c H locs 0 0 Qz (F0 m 10 ls [])), ∀ (v1 : Int32) (v2 : Int32) (s0 : Int32) (o_me : Ob) (H : Heap) (locs : List Loc) (ls : Array Slot), bk_X9_findCrowned_50  rec_2_0 rec_10_7 v1 v2 s0 o_me = some y → Wd dC dI A s.heap [wX9 h_me q_me k_me o_me] H locs → lv_has ls 5 [(0, .ref h_me), (1, .int v1), (2, .int v2)] → W p l e ({ frames := 6, cells := 0, slots := 0, locals := 145 } : Room) s m ([.ref h_me] : List Value).toArray below meth c H locs 0 0 Qz (F0 m 50 ls [.int s0, .ref (q_me 47)]) := by
    intro rec_2_0 hrec_2_0 rec_10_7 hrec_10_7
    intro v1 v2 s0 o_me H locs ls h hw hl
    unfold bk_X9_findCrowned_50 at h
    refine lv_iconst (v := (-1)) hx hb dX9_findCrowned_50 (by decide) ?_
    exact bk_51_9 rec_2_0 hrec_2_0 rec_10_7 hrec_10_7 v1 v2 (-1 : Int32) s0 o_me _ _ _ h hw (lv_sub hl [0, 1, 2] rfl)
  have lp_10_7 : ∀ (rec_2_0 : Int32 × Ob → Option (Int32 × Ob)) (hrec_2_0 : ∀ (v1 : Int32) (o_me : Ob) (H : Heap) (locs : List Loc) (ls : Array Slot), rec_2_0 (v1, o_me) = some y → Wd dC dI A s.heap [wX9 h_me q_me k_me o_me] H locs → lv_has ls 5 [(0, .ref h_me), (1, .int v1)] → W p l e ({ frames := 6, cells := 0, slots := 0, locals := 145 } : Room) s m ([.ref h_me] : List Value).toArray below meth c H locs 0 0 Qz (F0 m 2 ls [])) (N : Nat), ∀ (v1 : Int32) (v2 : Int32) (o_me : Ob) (H : Heap) (locs : List Loc) (ls : Array Slot), lp_X9_findCrowned_10  rec_2_0 N (v1, v2, o_me) = some y → Wd dC dI A s.heap [wX9 h_me q_me k_me o_me] H locs → lv_has ls 5 [(0, .ref h_me), (1, .int v1), (2, .int v2)] → W p l e ({ frames := 6, cells := 0, slots := 0, locals := 145 } : Room) s m ([.ref h_me] : List Value).toArray below meth c H locs 0 0 Qz (F0 m 10 ls []) := by
    intro rec_2_0 hrec_2_0
    intro N
    induction N with
    | zero =>
      intro v1 v2 o_me H locs ls h hw hl
      exact absurd (show (none : Option (Int32 × Ob)) = some y from h) (by simp)
    | succ N ih =>
      intro v1 v2 o_me H locs ls h hw hl
      have h : lb_X9_findCrowned_10  rec_2_0 (lp_X9_findCrowned_10  rec_2_0 N) v1 v2 o_me = some y := h
      unfold lb_X9_findCrowned_10 at h
      refine lv_iload_n hx hb dX9_findCrowned_10 rfl (lv_at hl 2 rfl) ?_
      refine lv_iconst (v := 4) hx hb dX9_findCrowned_11 (by decide) ?_
      refine lv_icmp_ge (tgt := 58) hx hb dX9_findCrowned_12 (by decide) (fun c => ?_) (fun c => ?_)
      · have h := z_t h c
        obtain ⟨x16, ex16, h⟩ := z_lt h
        refine lv_iinc (v := x16) (lv' := [(1, .int x16), (0, .ref h_me), (2, .int v2)]) hx hb dX9_findCrowned_58 hl (k := 1) rfl ((congrArg (v1 + ·) (show Int32.ofInt 1 = (1 : Int32) from by decide)).trans ex16.symm) (by decide) rfl (fun ls hl => ?_)
        refine lv_goto (tgt := 2) hx hb dX9_findCrowned_61 (by decide) ?_
        exact hrec_2_0 x16 o_me _ _ _ h hw (lv_sub hl [1, 0] rfl)
      · have h := z_f h c
        refine lv_aload_n hx hb dX9_findCrowned_15 rfl (lv_at hl 0 rfl) ?_
        refine fgX9_47 hx hb hts hown hK hw 0 rfl kw1223 dX9_findCrowned_16 ?_
        refine lv_iconst (v := 4) hx hb dX9_findCrowned_19 (by decide) ?_
        refine lv_iload_n hx hb dX9_findCrowned_20 rfl (lv_at hl 1 rfl) ?_
        refine lv_imul hx hb dX9_findCrowned_21 ?_
        refine lv_iload_n hx hb dX9_findCrowned_22 rfl (lv_at hl 2 rfl) ?_
        refine lv_iadd hx hb dX9_findCrowned_23 ?_
        refine lv_aload_n hx hb dX9_findCrowned_24 rfl (lv_at hl 0 rfl) ?_
        refine lv_iload_n hx hb dX9_findCrowned_25 rfl (lv_at hl 1 rfl) ?_
        obtain ⟨z17, ez17, h⟩ := z_bd h
        refine xj_i (xrV (As := [.int v1]) (rest := [.int (((4 : Int32) * v1) + v2), .ref (q_me 47)]) ⟨hx, hb, hml, hown, hts⟩ (m_X9_isPerson l dC dI _ h_me q_me k_me o_me v1 z17 ez17) kw1402 kw1399 kw1401 kw42 kw120 hd_X9_isPerson ⟨rfl, rfl⟩ rfl rfl ⟨rfl, rfl⟩ hX hK hw [0] (by decide) rfl rfl rfl rfl rfl hl.1 rfl rfl dX9_findCrowned_26) hw hA [0] (by decide) rfl rfl (fun H locs hw => ?_)
        have hw : Wd dC dI A s.heap [wX9 h_me q_me k_me o_me] H locs := hw
        refine lv_if_eq (tgt := 50) hx hb dX9_findCrowned_29 (by decide) (fun c => ?_) (fun c => ?_)
        · have h := z_t h c
          exact bk_50_8 rec_2_0 hrec_2_0 (lp_X9_findCrowned_10  rec_2_0 N) ih v1 v2 (((4 : Int32) * v1) + v2) o_me _ _ _ h hw (lv_sub hl [0, 1, 2] rfl)
        · have h := z_f h c
          refine lv_aload_n hx hb dX9_findCrowned_32 rfl (lv_at hl 0 rfl) ?_
          refine lv_iload_n hx hb dX9_findCrowned_33 rfl (lv_at hl 1 rfl) ?_
          refine lv_iload_n hx hb dX9_findCrowned_34 rfl (lv_at hl 2 rfl) ?_
          obtain ⟨z21, ez21, h⟩ := z_bd h
          refine xj_i (xrV (As := [.int v1, .int v2]) (rest := [.int (((4 : Int32) * v1) + v2), .ref (q_me 47)]) ⟨hx, hb, hml, hown, hts⟩ (m_X9_isBarred l dC dI _ h_me q_me k_me o_me v1 v2 z21 ez21) kw1437 kw1434 kw1436 kw48 kw120 hd_X9_isBarred ⟨rfl, rfl⟩ rfl rfl ⟨rfl, rfl⟩ hX hK hw [0] (by decide) rfl rfl rfl rfl rfl hl.1 rfl rfl dX9_findCrowned_35) hw hA [0] (by decide) rfl rfl (fun H locs hw => ?_)
          have hw : Wd dC dI A s.heap [wX9 h_me q_me k_me z21.2] H locs := hw
          refine lv_if_ne (tgt := 50) hx hb dX9_findCrowned_38 (by decide) (fun c => ?_) (fun c => ?_)
          · have h := z_f h c
            exact bk_50_8 rec_2_0 hrec_2_0 (lp_X9_findCrowned_10  rec_2_0 N) ih v1 v2 (((4 : Int32) * v1) + v2) z21.2 _ _ _ h hw (lv_sub hl [0, 1, 2] rfl)
          · have h := z_t h c
            refine lv_aload_n hx hb dX9_findCrowned_41 rfl (lv_at hl 0 rfl) ?_
            refine lv_iload_n hx hb dX9_findCrowned_42 rfl (lv_at hl 1 rfl) ?_
            refine lv_iload_n hx hb dX9_findCrowned_43 rfl (lv_at hl 2 rfl) ?_
            obtain ⟨z22, ez22, h⟩ := z_bd h
            refine xj_i (xrV (As := [.int v1, .int v2]) (rest := [.int (((4 : Int32) * v1) + v2), .ref (q_me 47)]) ⟨hx, hb, hml, hown, hts⟩ (m_X9_runsOf l dC dI _ h_me q_me k_me z21.2 v1 v2 z22 ez22) kw1411 kw1408 kw1410 kw43 kw120 hd_X9_runsOf ⟨rfl, rfl⟩ rfl rfl ⟨rfl, rfl⟩ hX hK hw [0] (by decide) rfl rfl rfl rfl rfl hl.1 rfl rfl dX9_findCrowned_44) hw hA [0] (by decide) rfl rfl (fun H locs hw => ?_)
            have hw : Wd dC dI A s.heap [wX9 h_me q_me k_me z22.2] H locs := hw
            refine lv_goto (tgt := 51) hx hb dX9_findCrowned_47 (by decide) ?_
            exact bk_51_9 rec_2_0 hrec_2_0 (lp_X9_findCrowned_10  rec_2_0 N) ih v1 v2 z22.1 (((4 : Int32) * v1) + v2) z22.2 _ _ _ h hw (lv_sub hl [0, 1, 2] rfl)
  have lp_2_0 : ∀ (N : Nat), ∀ (v1 : Int32) (o_me : Ob) (H : Heap) (locs : List Loc) (ls : Array Slot), lp_X9_findCrowned_2   N (v1, o_me) = some y → Wd dC dI A s.heap [wX9 h_me q_me k_me o_me] H locs → lv_has ls 5 [(0, .ref h_me), (1, .int v1)] → W p l e ({ frames := 6, cells := 0, slots := 0, locals := 145 } : Room) s m ([.ref h_me] : List Value).toArray below meth c H locs 0 0 Qz (F0 m 2 ls []) := by
    intro N
    induction N with
    | zero =>
      intro v1 o_me H locs ls h hw hl
      exact absurd (show (none : Option (Int32 × Ob)) = some y from h) (by simp)
    | succ N ih =>
      intro v1 o_me H locs ls h hw hl
      have h : lb_X9_findCrowned_2   (lp_X9_findCrowned_2   N) v1 o_me = some y := h
      unfold lb_X9_findCrowned_2 at h
      refine lv_iload_n hx hb dX9_findCrowned_2 rfl (lv_at hl 1 rfl) ?_
      refine lv_bipush (v := 7) hx hb dX9_findCrowned_3 (by decide) ?_
      refine lv_icmp_ge (tgt := 64) hx hb dX9_findCrowned_5 (by decide) (fun c => ?_) (fun c => ?_)
      · have h := z_t h c
        refine lv_iconst (v := (-1)) hx hb dX9_findCrowned_64 (by decide) ?_
        refine lv_istore_n (lv' := [(1, .int (-1 : Int32)), (0, .ref h_me)]) hx hb dX9_findCrowned_65 rfl hl (by decide) rfl (fun ls hl => ?_)
        refine lv_iconst (v := 0) hx hb dX9_findCrowned_66 (by decide) ?_
        refine lv_istore_n (lv' := [(2, .int (0 : Int32)), (1, .int (-1 : Int32)), (0, .ref h_me)]) hx hb dX9_findCrowned_67 rfl hl (by decide) rfl (fun ls hl => ?_)
        refine lv_aload_n hx hb dX9_findCrowned_68 rfl (lv_at hl 2 rfl) ?_
        refine fgX9_48 hx hb hts hown hK hw 0 rfl kw1224 dX9_findCrowned_69 ?_
        refine lv_iconst (v := 0) hx hb dX9_findCrowned_72 (by decide) ?_
        refine lv_iconst (v := (-1)) hx hb dX9_findCrowned_73 (by decide) ?_
        refine fbX9_48 hx hb hK hw 0 rfl rfl (by decide) dX9_findCrowned_74 (fun H locs hw => ?_)
        obtain ⟨o1, eo1, h⟩ := z_lt h
        have hw : Wd dC dI A s.heap [wX9 h_me q_me k_me o1] H locs := by rw [eo1]; exact hw
        exact lp_75_1  zfu (-1 : Int32) (0 : Int32) o1 _ _ _ h hw (lv_sub hl [2, 1, 0] rfl)
      · have h := z_f h c
        refine lv_iconst (v := 0) hx hb dX9_findCrowned_8 (by decide) ?_
        refine lv_istore_n (lv' := [(2, .int (0 : Int32)), (0, .ref h_me), (1, .int v1)]) hx hb dX9_findCrowned_9 rfl hl (by decide) rfl (fun ls hl => ?_)
        exact lp_10_7 (lp_X9_findCrowned_2   N) ih zfu v1 (0 : Int32) o_me _ _ _ h hw (lv_sub hl [1, 2, 0] rfl)
  unfold f_X9_findCrowned at h
  refine lv_iconst (v := 0) hx hb dX9_findCrowned_0 (by decide) ?_
  refine lv_istore_n (lv' := [(1, .int (0 : Int32)), (0, .ref h_me)]) hx hb dX9_findCrowned_1 rfl hl (by decide) rfl (fun ls hl => ?_)
  exact lp_2_0  zfu (0 : Int32) o_me _ _ _ h hw (lv_sub hl [1, 0] rfl)

