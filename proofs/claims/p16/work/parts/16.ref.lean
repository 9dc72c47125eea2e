def bk_X9_isTold_48 (o_me : Ob) (rec_13_0 : Int32 × Int32 × Int32 → Option (Int32)) (v1 : Int32) (v3 : Int32) (s0 : Int32) : Option (Int32) :=
  zlt (v3 + (1 : Int32)) fun x4 =>
  rec_13_0 (v1, s0, x4)
def bk_X9_isTold_47 (o_me : Ob) (rec_13_0 : Int32 × Int32 × Int32 → Option (Int32)) (v1 : Int32) (v3 : Int32) : Option (Int32) :=
  bk_X9_isTold_48 o_me rec_13_0 v1 v3 (0 : Int32)
def lb_X9_isTold_13 (o_me : Ob)  (rec_13_0 : Int32 × Int32 × Int32 → Option (Int32)) (v1 : Int32) (v2 : Int32) (v3 : Int32) : Option (Int32) :=
  if (4 : Int32) ≤ v3 then
  (zgd (zbo v2) <|
  some v2)
  else
  (if v2 = (0 : Int32) then
  (bk_X9_isTold_47 o_me rec_13_0 v1 v3)
  else
  (zgd (zin ((v1 + (1 : Int32)) + v3) 400) <|
  (f_X9_in ((gA o_me 12 ((v1 + (1 : Int32)) + v3).toNatClampNeg).toInt64) (0 : Int64) (9 : Int64)).bind fun z6 =>
  if z6 = (0 : Int32) then
  (bk_X9_isTold_47 o_me rec_13_0 v1 v3)
  else
  (bk_X9_isTold_48 o_me rec_13_0 v1 v3 (1 : Int32))))
def lp_X9_isTold_13 (o_me : Ob)  : Nat → (Int32 × Int32 × Int32) → Option (Int32) := zit (fun rec a => lb_X9_isTold_13 o_me  rec a.1 a.2.1 a.2.2)
def f_X9_isTold (o_me : Ob) (p0 : Int32) : Option (Int32) :=
  zgd (zin p0 400) <|
  (f_X9_isPerson o_me (gA o_me 12 p0.toNatClampNeg)).bind fun z2 =>
  lp_X9_isTold_13 o_me  zfu (p0, z2, (0 : Int32))
set_option maxHeartbeats 4000000 in
set_option maxRecDepth 100000 in
theorem m_X9_isTold (l : Launch) (dC : Nat → ClassId) (dI : Nat → Nat → Nat) (sz : Nat) (h_me : Nat) (q_me : Nat → Nat) (k_me : Nat → ClassId) (o_me : Ob) (p0 : Int32) (y : Int32) (h : f_X9_isTold o_me p0 = some y) : CI l yX9_isTold cX9_isTold 4 (some .boolean) ({ frames := 2, cells := 0, slots := 0, locals := 46 } : Room) dC dI sz [.ref h_me, .int p0] [wX9 h_me q_me k_me o_me] [tX9 k_me] y [wX9 h_me q_me k_me o_me] := by
  refine CC_of (by decide) (Nat.le_of_ble_eq_true rfl) ?_
  intro p e s m below meth c A ls hx hb hml hr hlk hnm hown hts hX hK hP hD hA hl
  have hl : lv_has ls 4 [(0, .ref h_me), (1, .int p0)] := hl
  have hown : s.vm.findClass RX9 = some m.cls := hown
  have hw : Wd dC dI A s.heap [wX9 h_me q_me k_me o_me] s.heap [] := ⟨hP, hD, va_S.rf⟩
  generalize hQz : (MQ below (QI dC dI (fun r (_ : Unit) => r = y) (fun _ => Jn [wX9 h_me q_me k_me o_me]) (fun _ => Jt [tX9 k_me]) A) ([.ref h_me, .int p0] : List Value).toArray s 0 0 A) = Qz
  clear hP hD hnm
  have bk_48_2 : ∀ (rec_13_0 : Int32 × Int32 × Int32 → Option (Int32)) (hrec_13_0 : ∀ (v1 : Int32) (v2 : Int32) (v3 : Int32) (H : Heap) (locs : List Loc) (ls : Array Slot), rec_13_0 (v1, v2, v3) = some y → Wd dC dI A s.heap [wX9 h_me q_me k_me o_me] H locs → lv_has ls 4 [(0, .ref h_me), (1, .int v1), (2, .int v2), (3, .int v3)] → W p l e ({ frames := 2, cells := 0, slots := 0, locals := 46 } : Room) s m ([.ref h_me, .int p0] : List Value).toArray below meth c H locs 0 0 Qz (F0 m 13 ls [])), ∀ (v1 : Int32) (v3 : Int32) (s0 : Int32) (H : Heap) (locs : List Loc) (ls : Array Slot), bk_X9_isTold_48 o_me rec_13_0 v1 v3 s0 = some y → Wd dC dI A s.heap [wX9 h_me q_me k_me o_me] H locs → lv_has ls 4 [(0, .ref h_me), (1, .int v1), (3, .int v3)] → W p l e ({ frames := 2, cells := 0, slots := 0, locals := 46 } : Room) s m ([.ref h_me, .int p0] : List Value).toArray below meth c H locs 0 0 Qz (F0 m 48 ls [.int s0]) := by
    intro rec_13_0 hrec_13_0
    intro v1 v3 s0 H locs ls h hw hl
    unfold bk_X9_isTold_48 at h
    refine lv_istore_n (lv' := [(2, .int s0), (0, .ref h_me), (1, .int v1), (3, .int v3)]) hx hb dX9_isTold_48 rfl hl (by decide) rfl (fun ls hl => ?_)
    obtain ⟨x4, ex4, h⟩ := z_lt h
    refine lv_iinc (v := x4) (lv' := [(3, .int x4), (2, .int s0), (0, .ref h_me), (1, .int v1)]) hx hb dX9_isTold_49 hl (k := 3) rfl ((congrArg (v3 + ·) (show Int32.ofInt 1 = (1 : Int32) from by decide)).trans ex4.symm) (by decide) rfl (fun ls hl => ?_)
    refine lv_goto (tgt := 13) hx hb dX9_isTold_52 (by decide) ?_
    exact hrec_13_0 v1 s0 x4 _ _ _ h hw (lv_sub hl [2, 3, 1, 0] rfl)
  have bk_47_1 : ∀ (rec_13_0 : Int32 × Int32 × Int32 → Option (Int32)) (hrec_13_0 : ∀ (v1 : Int32) (v2 : Int32) (v3 : Int32) (H : Heap) (locs : List Loc) (ls : Array Slot), rec_13_0 (v1, v2, v3) = some y → Wd dC dI A s.heap [wX9 h_me q_me k_me o_me] H locs → lv_has ls 4 [(0, .ref h_me), (1, .int v1), (2, .int v2), (3, .int v3)] → W p l e ({ frames := 2, cells := 0, slots := 0, locals := 46 } : Room) s m ([.ref h_me, .int p0] : List Value).toArray below meth c H locs 0 0 Qz (F0 m 13 ls [])), ∀ (v1 : Int32) (v3 : Int32) (H : Heap) (locs : List Loc) (ls : Array Slot), bk_X9_isTold_47 o_me rec_13_0 v1 v3 = some y → Wd dC dI A s.heap [wX9 h_me q_me k_me o_me] H locs → lv_has ls 4 [(0, .ref h_me), (1, .int v1), (3, .int v3)] → W p l e ({ frames := 2, cells := 0, slots := 0, locals := 46 } : Room) s m ([.ref h_me, .int p0] : List Value).toArray below meth c H locs 0 0 Qz (F0 m 47 ls []) := by
    intro rec_13_0 hrec_13_0
    intro v1 v3 H locs ls h hw hl
    unfold bk_X9_isTold_47 at h
    refine lv_iconst (v := 0) hx hb dX9_isTold_47 (by decide) ?_
    exact bk_48_2 rec_13_0 hrec_13_0 v1 v3 (0 : Int32) _ _ _ h hw (lv_sub hl [0, 1, 2] rfl)
  have lp_13_0 : ∀ (N : Nat), ∀ (v1 : Int32) (v2 : Int32) (v3 : Int32) (H : Heap) (locs : List Loc) (ls : Array Slot), lp_X9_isTold_13 o_me  N (v1, v2, v3) = some y → Wd dC dI A s.heap [wX9 h_me q_me k_me o_me] H locs → lv_has ls 4 [(0, .ref h_me), (1, .int v1), (2, .int v2), (3, .int v3)] → W p l e ({ frames := 2, cells := 0, slots := 0, locals := 46 } : Room) s m ([.ref h_me, .int p0] : List Value).toArray below meth c H locs 0 0 Qz (F0 m 13 ls []) := by
    intro N
    induction N with
    | zero =>
      intro v1 v2 v3 H locs ls h hw hl
      exact absurd (show (none : Option (Int32)) = some y from h) (by simp)
    | succ N ih =>
      intro v1 v2 v3 H locs ls h hw hl
      have h : lb_X9_isTold_13 o_me  (lp_X9_isTold_13 o_me  N) v1 v2 v3 = some y := h
      unfold lb_X9_isTold_13 at h
      refine lv_iload_n hx hb dX9_isTold_13 rfl (lv_at hl 3 rfl) ?_
      refine lv_iconst (v := 4) hx hb dX9_isTold_14 (by decide) ?_
      refine lv_icmp_ge (tgt := 55) hx hb dX9_isTold_15 (by decide) (fun c => ?_) (fun c => ?_)
      · have h := z_t h c
        refine lv_iload_n hx hb dX9_isTold_55 rfl (lv_at hl 2 rfl) ?_
        obtain ⟨g3, h⟩ := z_gd h
        have hy := Option.some.inj h
        rw [← hQz, ← hy]
        exact xr_i (v := v2) hx hb hr (z_nar g3) hlk hK hw dX9_isTold_56
      · have h := z_f h c
        refine lv_iload_n hx hb dX9_isTold_18 rfl (lv_at hl 2 rfl) ?_
        refine lv_if_eq (tgt := 47) hx hb dX9_isTold_19 (by decide) (fun c => ?_) (fun c => ?_)
        · have h := z_t h c
          exact bk_47_1 (lp_X9_isTold_13 o_me  N) ih v1 v3 _ _ _ h hw (lv_sub hl [0, 1, 3] rfl)
        · have h := z_f h c
          refine lv_aload_n hx hb dX9_isTold_22 rfl (lv_at hl 0 rfl) ?_
          refine fgX9_12 hx hb hts hown hK hw 0 rfl kw1188 dX9_isTold_23 ?_
          refine lv_iload_n hx hb dX9_isTold_26 rfl (lv_at hl 1 rfl) ?_
          refine lv_iconst (v := 1) hx hb dX9_isTold_27 (by decide) ?_
          refine lv_iadd hx hb dX9_isTold_28 ?_
          refine lv_iload_n hx hb dX9_isTold_29 rfl (lv_at hl 3 rfl) ?_
          refine lv_iadd hx hb dX9_isTold_30 ?_
          obtain ⟨g5, h⟩ := z_gd h
          refine faX9_12 hx hb hK hw 0 rfl rfl g5 dX9_isTold_31 ?_
          refine lv_i2l hx hb dX9_isTold_32 rfl ?_
          refine lv_lconst (v := 0) hx hb dX9_isTold_33 (by decide) ?_
          refine lv_ldc2 (v := 9) hx hb hown (hts _ kw1398) dX9_isTold_34 ?_
          obtain ⟨z6, ez6, h⟩ := z_bd h
          refine xj_i (xrS (As := [.long ((gA o_me 12 ((v1 + (1 : Int32)) + v3).toNatClampNeg).toInt64), .long (0 : Int64), .long (9 : Int64)]) (rest := []) ⟨hx, hb, hml, hown, hts⟩ (m_X9_in l dC dI _  ((gA o_me 12 ((v1 + (1 : Int32)) + v3).toNatClampNeg).toInt64) (0 : Int64) (9 : Int64) z6 ez6) kw1385 kw1383 kw1384 kw120 hd_X9_in ⟨rfl, rfl⟩ rfl rfl ⟨rfl, rfl⟩ hX hK hw [] (by decide) rfl rfl hl.1 rfl rfl dX9_isTold_37) hw hA [] (by decide) rfl rfl (fun H locs hw => ?_)
          refine lv_if_eq (tgt := 47) hx hb dX9_isTold_40 (by decide) (fun c => ?_) (fun c => ?_)
          · have h := z_t h c
            exact bk_47_1 (lp_X9_isTold_13 o_me  N) ih v1 v3 _ _ _ h hw (lv_sub hl [0, 1, 3] rfl)
          · have h := z_f h c
            refine lv_iconst (v := 1) hx hb dX9_isTold_43 (by decide) ?_
            refine lv_goto (tgt := 48) hx hb dX9_isTold_44 (by decide) ?_
            exact bk_48_2 (lp_X9_isTold_13 o_me  N) ih v1 v3 (1 : Int32) _ _ _ h hw (lv_sub hl [0, 1, 3] rfl)
  unfold f_X9_isTold at h
  refine lv_aload_n hx hb dX9_isTold_0 rfl (lv_at hl 0 rfl) ?_
  refine lv_aload_n hx hb dX9_isTold_1 rfl (lv_at hl 0 rfl) ?_
  refine fgX9_12 hx hb hts hown hK hw 0 rfl kw1188 dX9_isTold_2 ?_
  refine lv_iload_n hx hb dX9_isTold_5 rfl (lv_at hl 1 rfl) ?_
  obtain ⟨g1, h⟩ := z_gd h
  refine faX9_12 hx hb hK hw 0 rfl rfl g1 dX9_isTold_6 ?_
  obtain ⟨z2, ez2, h⟩ := z_bd h
  refine xj_i (xrV (As := [.int (gA o_me 12 p0.toNatClampNeg)]) (rest := []) ⟨hx, hb, hml, hown, hts⟩ (m_X9_isPerson l dC dI _ h_me q_me k_me o_me (gA o_me 12 p0.toNatClampNeg) z2 ez2) kw1402 kw1399 kw1401 kw42 kw120 hd_X9_isPerson ⟨rfl, rfl⟩ rfl rfl ⟨rfl, rfl⟩ hX hK hw [0] (by decide) rfl rfl rfl rfl rfl hl.1 rfl rfl dX9_isTold_7) hw hA [0] (by decide) rfl rfl (fun H locs hw => ?_)
  have hw : Wd dC dI A s.heap [wX9 h_me q_me k_me o_me] H locs := hw
  refine lv_istore_n (lv' := [(2, .int z2), (0, .ref h_me), (1, .int p0)]) hx hb dX9_isTold_10 rfl hl (by decide) rfl (fun ls hl => ?_)
  refine lv_iconst (v := 0) hx hb dX9_isTold_11 (by decide) ?_
  refine lv_istore_n (lv' := [(3, .int (0 : Int32)), (2, .int z2), (0, .ref h_me), (1, .int p0)]) hx hb dX9_isTold_12 rfl hl (by decide) rfl (fun ls hl => ?_)
  exact lp_13_0  zfu p0 z2 (0 : Int32) _ _ _ h hw (lv_sub hl [2, 3, 1, 0] rfl)

def bk_X9_ladder_98  (rec_42_0 : Int32 × Int32 × Int32 × Ob → Option (Int64 × Ob)) (v1 : Int32) (v2 : Int32) (v3 : Int32) (o_me : Ob) : Option (Int64 × Ob) :=
  zlt (v3 + (1 : Int32)) fun x8 =>
  rec_42_0 (v1, v2, x8, o_me)
def lb_X9_ladder_57  (rec_42_0 : Int32 × Int32 × Int32 × Ob → Option (Int64 × Ob)) (rec_57_1 : Int32 × Int32 × Int32 × Int32 × Ob → Option (Int64 × Ob)) (v1 : Int32) (v2 : Int32) (v3 : Int32) (v4 : Int32) (o_me : Ob) : Option (Int64 × Ob) :=
  if v2 < v4 then
  (bk_X9_ladder_98  rec_42_0 v1 v2 v3 o_me)
  else
  (if v3 < v4 then
  (bk_X9_ladder_98  rec_42_0 v1 v2 v3 o_me)
  else
  (if v3 = (2 : Int32) then
  (bk_X9_ladder_98  rec_42_0 v1 v2 v3 o_me)
  else
  (zgd (zin v3 61) <|
  zgd (zin (v3 - v4) 61) <|
  zgd (zin v3 61) <|
  zlt (tM o_me 52 v3.toNatClampNeg ((gM o_me 52 v3.toNatClampNeg) + (gM o_me 52 (v3 - v4).toNatClampNeg))) fun o12 =>
  zlt (v4 + (1 : Int32)) fun x13 =>
  rec_57_1 (v1, v2, v3, x13, o12))))
def lp_X9_ladder_57  (rec_42_0 : Int32 × Int32 × Int32 × Ob → Option (Int64 × Ob)) : Nat → (Int32 × Int32 × Int32 × Int32 × Ob) → Option (Int64 × Ob) := zit (fun rec a => lb_X9_ladder_57  rec_42_0 rec a.1 a.2.1 a.2.2.1 a.2.2.2.1 a.2.2.2.2)
def lb_X9_ladder_42   (rec_42_0 : Int32 × Int32 × Int32 × Ob → Option (Int64 × Ob)) (v1 : Int32) (v2 : Int32) (v3 : Int32) (o_me : Ob) : Option (Int64 × Ob) :=
  if v1 < v3 then
  (zgd (zin v1 61) <|
  some (gM o_me 52 v1.toNatClampNeg, o_me))
  else
  (zgd (zin v3 61) <|
  zlt (tM o_me 52 v3.toNatClampNeg (0 : Int64)) fun o7 =>
  lp_X9_ladder_57  rec_42_0 zfu (v1, v2, v3, (1 : Int32), o7))
def lp_X9_ladder_42   : Nat → (Int32 × Int32 × Int32 × Ob) → Option (Int64 × Ob) := zit (fun rec a => lb_X9_ladder_42   rec a.1 a.2.1 a.2.2.1 a.2.2.2)
def f_X9_ladder (o_me : Ob) (p0 : Int32) (p1 : Int32) : Option (Int64 × Ob) :=
  zlt (sI o_me 0 (0 : Int32)) fun o1 =>
  (f_X9_in p0.toInt64 (1 : Int64) (60 : Int64)).bind fun z2 =>
  if z2 = (0 : Int32) then
  (some ((-1 : Int64), o1))
  else
  ((f_X9_in p1.toInt64 (1 : Int64) (5 : Int64)).bind fun z3 =>
  if z3 = (0 : Int32) then
  (some ((-1 : Int64), o1))
  else
  (zlt (tM o1 52 (0 : Int32).toNatClampNeg (1 : Int64)) fun o4 =>
  lp_X9_ladder_42   zfu (p0, p1, (1 : Int32), o4)))
set_option maxHeartbeats 4000000 in
set_option maxRecDepth 100000 in
theorem m_X9_ladder (l : Launch) (dC : Nat → ClassId) (dI : Nat → Nat → Nat) (sz : Nat) (h_me : Nat) (q_me : Nat → Nat) (k_me : Nat → ClassId) (o_me : Ob) (p0 : Int32) (p1 : Int32) (y : Int64 × Ob) (h : f_X9_ladder o_me p0 p1 = some y) : CL l yX9_ladder cX9_ladder 5 (some .long) ({ frames := 1, cells := 0, slots := 0, locals := 25 } : Room) dC dI sz [.ref h_me, .int p0, .int p1] [wX9 h_me q_me k_me o_me] [tX9 k_me] y.1 [wX9 h_me q_me k_me y.2] := by
  refine CC_of (by decide) (Nat.le_of_ble_eq_true rfl) ?_
  intro p e s m below meth c A ls hx hb hml hr hlk hnm hown hts hX hK hP hD hA hl
  have hl : lv_has ls 5 [(0, .ref h_me), (1, .int p0), (2, .int p1)] := hl
  have hown : s.vm.findClass RX9 = some m.cls := hown
  have hw : Wd dC dI A s.heap [wX9 h_me q_me k_me o_me] s.heap [] := ⟨hP, hD, va_S.rf⟩
  generalize hQz : (MQ below (QL dC dI (fun r (_ : Unit) => r = y.1) (fun _ => Jn [wX9 h_me q_me k_me y.2]) (fun _ => Jt [tX9 k_me]) A) ([.ref h_me, .int p0, .int p1] : List Value).toArray s 0 0 A) = Qz
  clear hP hD hnm
  have bk_98_2 : ∀ (rec_42_0 : Int32 × Int32 × Int32 × Ob → Option (Int64 × Ob)) (hrec_42_0 : ∀ (v1 : Int32) (v2 : Int32) (v3 : Int32) (o_me : Ob) (H : Heap) (locs : List Loc) (ls : Array Slot), rec_42_0 (v1, v2, v3, o_me) = some y → Wd dC dI A s.heap [wX9 h_me q_me k_me o_me] H locs → lv_has ls 5 [(0, .ref h_me), (1, .int v1), (2, .int v2), (3, .int v3)] → W p l e ({ frames := 1, cells := 0, slots := 0, locals := 25 } : Room) s m ([.ref h_me, .int p0, .int p1] : List Value).toArray below meth c H locs 0 0 Qz (F0 m 42 ls [])), ∀ (v1 : Int32) (v2 : Int32) (v3 : Int32) (o_me : Ob) (H : Heap) (locs : List Loc) (ls : Array Slot), bk_X9_ladder_98  rec_42_0 v1 v2 v3 o_me = some y → Wd dC dI A s.heap [wX9 h_me q_me k_me o_me] H locs → lv_has ls 5 [(0, .ref h_me), (1, .int v1), (2, .int v2), (3, .int v3)] → W p l e ({ frames := 1, cells := 0, slots := 0, locals := 25 } : Room) s m ([.ref h_me, .int p0, .int p1] : List Value).toArray below meth c H locs 0 0 Qz (F0 m 98 ls []) := by
    intro rec_42_0 hrec_42_0
    intro v1 v2 v3 o_me H locs ls h hw hl
    unfold bk_X9_ladder_98 at h
    obtain ⟨x8, ex8, h⟩ := z_lt h
    refine lv_iinc (v := x8) (lv' := [(3, .int x8), (0, .ref h_me), (1, .int v1), (2, .int v2)]) hx hb dX9_ladder_98 hl (k := 3) rfl ((congrArg (v3 + ·) (show Int32.ofInt 1 = (1 : Int32) from by decide)).trans ex8.symm) (by decide) rfl (fun ls hl => ?_)
    refine lv_goto (tgt := 42) hx hb dX9_ladder_101 (by decide) ?_
    exact hrec_42_0 v1 v2 x8 o_me _ _ _ h hw (lv_sub hl [1, 2, 3, 0] rfl)
  have lp_57_1 : ∀ (rec_42_0 : Int32 × Int32 × Int32 × Ob → Option (Int64 × Ob)) (hrec_42_0 : ∀ (v1 : Int32) (v2 : Int32) (v3 : Int32) (o_me : Ob) (H : Heap) (locs : List Loc) (ls : Array Slot), rec_42_0 (v1, v2, v3, o_me) = some y → Wd dC dI A s.heap [wX9 h_me q_me k_me o_me] H locs → lv_has ls 5 [(0, .ref h_me), (1, .int v1), (2, .int v2), (3, .int v3)] → W p l e ({ frames := 1, cells := 0, slots := 0, locals := 25 } : Room) s m ([.ref h_me, .int p0, .int p1] : List Value).toArray below meth c H locs 0 0 Qz (F0 m 42 ls [])) (N : Nat), ∀ (v1 : Int32) (v2 : Int32) (v3 : Int32) (v4 : Int32) (o_me : Ob) (H : Heap) (locs : List Loc) (ls : Array Slot), lp_X9_ladder_57  rec_42_0 N (v1, v2, v3, v4, o_me) = some y → Wd dC dI A s.heap [wX9 h_me q_me k_me o_me] H locs → lv_has ls 5 [(0, .ref h_me), (1, .int v1), (2, .int v2), (3, .int v3), (4, .int v4)] → W p l e ({ frames := 1, cells := 0, slots := 0, locals := 25 } : Room) s m ([.ref h_me, .int p0, .int p1] : List Value).toArray below meth c H locs 0 0 Qz (F0 m 57 ls []) := by
    intro rec_42_0 hrec_42_0
    intro N
    induction N with
    | zero =>
      intro v1 v2 v3 v4 o_me H locs ls h hw hl
      exact absurd (show (none : Option (Int64 × Ob)) = some y from h) (by simp)
    | succ N ih =>
      intro v1 v2 v3 v4 o_me H locs ls h hw hl
      have h : lb_X9_ladder_57  rec_42_0 (lp_X9_ladder_57  rec_42_0 N) v1 v2 v3 v4 o_me = some y := h
      unfold lb_X9_ladder_57 at h
      refine lv_iload hx hb dX9_ladder_57 (lv_at hl 4 rfl) ?_
      refine lv_iload_n hx hb dX9_ladder_59 rfl (lv_at hl 2 rfl) ?_
      refine lv_icmp_gt (tgt := 98) hx hb dX9_ladder_60 (by decide) (fun c => ?_) (fun c => ?_)
      · have h := z_t h c
        exact bk_98_2 rec_42_0 hrec_42_0 v1 v2 v3 o_me _ _ _ h hw (lv_sub hl [0, 1, 2, 3] rfl)
      · have h := z_f h c
        refine lv_iload hx hb dX9_ladder_63 (lv_at hl 4 rfl) ?_
        refine lv_iload_n hx hb dX9_ladder_65 rfl (lv_at hl 3 rfl) ?_
        refine lv_icmp_gt (tgt := 98) hx hb dX9_ladder_66 (by decide) (fun c => ?_) (fun c => ?_)
        · have h := z_t h c
          exact bk_98_2 rec_42_0 hrec_42_0 v1 v2 v3 o_me _ _ _ h hw (lv_sub hl [0, 1, 2, 3] rfl)
        · have h := z_f h c
          refine lv_iload_n hx hb dX9_ladder_69 rfl (lv_at hl 3 rfl) ?_
          refine lv_iconst (v := 2) hx hb dX9_ladder_70 (by decide) ?_
          refine lv_icmp_eq (tgt := 98) hx hb dX9_ladder_71 (by decide) (fun c => ?_) (fun c => ?_)
          · have h := z_t h c
            exact bk_98_2 rec_42_0 hrec_42_0 v1 v2 v3 o_me _ _ _ h hw (lv_sub hl [0, 1, 2, 3] rfl)
          · have h := z_f h c
            refine lv_aload_n hx hb dX9_ladder_74 rfl (lv_at hl 0 rfl) ?_
            refine fgX9_52 hx hb hts hown hK hw 0 rfl kw1228 dX9_ladder_75 ?_
            refine lv_iload_n hx hb dX9_ladder_78 rfl (lv_at hl 3 rfl) ?_
            refine lv_dup2_11 hx hb dX9_ladder_79 rfl rfl ?_
            obtain ⟨g9, h⟩ := z_gd h
            refine faX9_52 hx hb hK hw 0 rfl rfl g9 dX9_ladder_80 ?_
            refine lv_aload_n hx hb dX9_ladder_81 rfl (lv_at hl 0 rfl) ?_
            refine fgX9_52 hx hb hts hown hK hw 0 rfl kw1228 dX9_ladder_82 ?_
            refine lv_iload_n hx hb dX9_ladder_85 rfl (lv_at hl 3 rfl) ?_
            refine lv_iload hx hb dX9_ladder_86 (lv_at hl 4 rfl) ?_
            refine lv_isub hx hb dX9_ladder_88 ?_
            obtain ⟨g10, h⟩ := z_gd h
            refine faX9_52 hx hb hK hw 0 rfl rfl g10 dX9_ladder_89 ?_
            refine lv_ladd hx hb dX9_ladder_90 ?_
            obtain ⟨g11, h⟩ := z_gd h
            refine fbX9_52 hx hb hK hw 0 rfl rfl g11 dX9_ladder_91 (fun H locs hw => ?_)
            obtain ⟨o12, eo12, h⟩ := z_lt h
            have hw : Wd dC dI A s.heap [wX9 h_me q_me k_me o12] H locs := by rw [eo12]; exact hw
            obtain ⟨x13, ex13, h⟩ := z_lt h
            refine lv_iinc (v := x13) (lv' := [(4, .int x13), (0, .ref h_me), (1, .int v1), (2, .int v2), (3, .int v3)]) hx hb dX9_ladder_92 hl (k := 4) rfl ((congrArg (v4 + ·) (show Int32.ofInt 1 = (1 : Int32) from by decide)).trans ex13.symm) (by decide) rfl (fun ls hl => ?_)
            refine lv_goto (tgt := 57) hx hb dX9_ladder_95 (by decide) ?_
            exact ih v1 v2 v3 x13 o12 _ _ _ h hw (lv_sub hl [1, 2, 3, 4, 0] rfl)
  have lp_42_0 : ∀ (N : Nat), ∀ (v1 : Int32) (v2 : Int32) (v3 : Int32) (o_me : Ob) (H : Heap) (locs : List Loc) (ls : Array Slot), lp_X9_ladder_42   N (v1, v2, v3, o_me) = some y → Wd dC dI A s.heap [wX9 h_me q_me k_me o_me] H locs → lv_has ls 5 [(0, .ref h_me), (1, .int v1), (2, .int v2), (3, .int v3)] → W p l e ({ frames := 1, cells := 0, slots := 0, locals := 25 } : Room) s m ([.ref h_me, .int p0, .int p1] : List Value).toArray below meth c H locs 0 0 Qz (F0 m 42 ls []) := by
    intro N
    induction N with
    | zero =>
      intro v1 v2 v3 o_me H locs ls h hw hl
      exact absurd (show (none : Option (Int64 × Ob)) = some y from h) (by simp)
    | succ N ih =>
      intro v1 v2 v3 o_me H locs ls h hw hl
      have h : lb_X9_ladder_42   (lp_X9_ladder_42   N) v1 v2 v3 o_me = some y := h
      unfold lb_X9_ladder_42 at h
      refine lv_iload_n hx hb dX9_ladder_42 rfl (lv_at hl 3 rfl) ?_
      refine lv_iload_n hx hb dX9_ladder_43 rfl (lv_at hl 1 rfl) ?_
      refine lv_icmp_gt (tgt := 104) hx hb dX9_ladder_44 (by decide) (fun c => ?_) (fun c => ?_)
      · have h := z_t h c
        refine lv_aload_n hx hb dX9_ladder_104 rfl (lv_at hl 0 rfl) ?_
        refine fgX9_52 hx hb hts hown hK hw 0 rfl kw1228 dX9_ladder_105 ?_
        refine lv_iload_n hx hb dX9_ladder_108 rfl (lv_at hl 1 rfl) ?_
        obtain ⟨g5, h⟩ := z_gd h
        refine faX9_52 hx hb hK hw 0 rfl rfl g5 dX9_ladder_109 ?_
        have hy := Option.some.inj h
        rw [← hQz, ← hy]
        exact xr_l (v := gM o_me 52 v1.toNatClampNeg) hx hb hr hlk hK hw dX9_ladder_110
      · have h := z_f h c
        refine lv_aload_n hx hb dX9_ladder_47 rfl (lv_at hl 0 rfl) ?_
        refine fgX9_52 hx hb hts hown hK hw 0 rfl kw1228 dX9_ladder_48 ?_
        refine lv_iload_n hx hb dX9_ladder_51 rfl (lv_at hl 3 rfl) ?_
        refine lv_lconst (v := 0) hx hb dX9_ladder_52 (by decide) ?_
        obtain ⟨g6, h⟩ := z_gd h
        refine fbX9_52 hx hb hK hw 0 rfl rfl g6 dX9_ladder_53 (fun H locs hw => ?_)
        obtain ⟨o7, eo7, h⟩ := z_lt h
        have hw : Wd dC dI A s.heap [wX9 h_me q_me k_me o7] H locs := by rw [eo7]; exact hw
        refine lv_iconst (v := 1) hx hb dX9_ladder_54 (by decide) ?_
        refine lv_istore (lv' := [(4, .int (1 : Int32)), (0, .ref h_me), (1, .int v1), (2, .int v2), (3, .int v3)]) hx hb dX9_ladder_55 hl (by decide) rfl (fun ls hl => ?_)
        exact lp_57_1 (lp_X9_ladder_42   N) ih zfu v1 v2 v3 (1 : Int32) o7 _ _ _ h hw (lv_sub hl [1, 2, 3, 4, 0] rfl)
  unfold f_X9_ladder at h
  refine lv_aload_n hx hb dX9_ladder_0 rfl (lv_at hl 0 rfl) ?_
  refine lv_iconst (v := 0) hx hb dX9_ladder_1 (by decide) ?_
  refine fpX9_0 hx hb hts hown hK hw 0 rfl kw1176 dX9_ladder_2 (fun H locs hw => ?_)
  obtain ⟨o1, eo1, h⟩ := z_lt h
  have hw : Wd dC dI A s.heap [wX9 h_me q_me k_me o1] H locs := by rw [eo1]; exact hw
  refine lv_iload_n hx hb dX9_ladder_5 rfl (lv_at hl 1 rfl) ?_
  refine lv_i2l hx hb dX9_ladder_6 rfl ?_
  refine lv_lconst (v := 1) hx hb dX9_ladder_7 (by decide) ?_
  refine lv_ldc2 (v := 60) hx hb hown (hts _ kw1780) dX9_ladder_8 ?_
  obtain ⟨z2, ez2, h⟩ := z_bd h
  refine xj_i (xrS (As := [.long p0.toInt64, .long (1 : Int64), .long (60 : Int64)]) (rest := []) ⟨hx, hb, hml, hown, hts⟩ (m_X9_in l dC dI _  p0.toInt64 (1 : Int64) (60 : Int64) z2 ez2) kw1385 kw1383 kw1384 kw120 hd_X9_in ⟨rfl, rfl⟩ rfl rfl ⟨rfl, rfl⟩ hX hK hw [] (by decide) rfl rfl hl.1 rfl rfl dX9_ladder_11) hw hA [] (by decide) rfl rfl (fun H locs hw => ?_)
  refine lv_if_eq (tgt := 29) hx hb dX9_ladder_14 (by decide) (fun c => ?_) (fun c => ?_)
  · have h := z_t h c
    refine lv_ldc2 (v := (-1)) hx hb hown (hts _ kw1424) dX9_ladder_29 ?_
    have hy := Option.some.inj h
    rw [← hQz, ← hy]
    exact xr_l (v := (-1 : Int64)) hx hb hr hlk hK hw dX9_ladder_32
  · have h := z_f h c
    refine lv_iload_n hx hb dX9_ladder_17 rfl (lv_at hl 2 rfl) ?_
    refine lv_i2l hx hb dX9_ladder_18 rfl ?_
    refine lv_lconst (v := 1) hx hb dX9_ladder_19 (by decide) ?_
    refine lv_ldc2 (v := 5) hx hb hown (hts _ kw1781) dX9_ladder_20 ?_
    obtain ⟨z3, ez3, h⟩ := z_bd h
    refine xj_i (xrS (As := [.long p1.toInt64, .long (1 : Int64), .long (5 : Int64)]) (rest := []) ⟨hx, hb, hml, hown, hts⟩ (m_X9_in l dC dI _  p1.toInt64 (1 : Int64) (5 : Int64) z3 ez3) kw1385 kw1383 kw1384 kw120 hd_X9_in ⟨rfl, rfl⟩ rfl rfl ⟨rfl, rfl⟩ hX hK hw [] (by decide) rfl rfl hl.1 rfl rfl dX9_ladder_23) hw hA [] (by decide) rfl rfl (fun H locs hw => ?_)
    refine lv_if_ne (tgt := 33) hx hb dX9_ladder_26 (by decide) (fun c => ?_) (fun c => ?_)
    · have h := z_f h c
      refine lv_aload_n hx hb dX9_ladder_33 rfl (lv_at hl 0 rfl) ?_
      refine fgX9_52 hx hb hts hown hK hw 0 rfl kw1228 dX9_ladder_34 ?_
      refine lv_iconst (v := 0) hx hb dX9_ladder_37 (by decide) ?_
      refine lv_lconst (v := 1) hx hb dX9_ladder_38 (by decide) ?_
      refine fbX9_52 hx hb hK hw 0 rfl rfl (by decide) dX9_ladder_39 (fun H locs hw => ?_)
      obtain ⟨o4, eo4, h⟩ := z_lt h
      have hw : Wd dC dI A s.heap [wX9 h_me q_me k_me o4] H locs := by rw [eo4]; exact hw
      refine lv_iconst (v := 1) hx hb dX9_ladder_40 (by decide) ?_
      refine lv_istore_n (lv' := [(3, .int (1 : Int32)), (0, .ref h_me), (1, .int p0), (2, .int p1)]) hx hb dX9_ladder_41 rfl hl (by decide) rfl (fun ls hl => ?_)
      exact lp_42_0  zfu p0 p1 (1 : Int32) o4 _ _ _ h hw (lv_sub hl [1, 2, 3, 0] rfl)
    · have h := z_t h c
      refine lv_ldc2 (v := (-1)) hx hb hown (hts _ kw1424) dX9_ladder_29 ?_
      have hy := Option.some.inj h
      rw [← hQz, ← hy]
      exact xr_l (v := (-1 : Int64)) hx hb hr hlk hK hw dX9_ladder_32

def bk_X9_partAt_30 (o_me : Ob) (rec_4_0 : Int32 × Int32 → Option (Int32)) (v2 : Int32) (s0 : Int32) : Option (Int32) :=
  zlt (v2 + (1 : Int32)) fun x3 =>
  rec_4_0 (s0, x3)
def lb_X9_partAt_4 (o_me : Ob)  (rec_4_0 : Int32 × Int32 → Option (Int32)) (v1 : Int32) (v2 : Int32) : Option (Int32) :=
  if (9 : Int32) ≤ v2 then
  (some v1)
  else
  (zgd (zin v2 9) <|
  (f_X9_isWord o_me (gM o_me 31 v2.toNatClampNeg)).bind fun z2 =>
  if z2 = (0 : Int32) then
  (bk_X9_partAt_30 o_me rec_4_0 v2 v1)
  else
  (bk_X9_partAt_30 o_me rec_4_0 v2 (v2 + (1 : Int32))))
def lp_X9_partAt_4 (o_me : Ob)  : Nat → (Int32 × Int32) → Option (Int32) := zit (fun rec a => lb_X9_partAt_4 o_me  rec a.1 a.2)
def f_X9_partAt (o_me : Ob) : Option (Int32) :=
  lp_X9_partAt_4 o_me  zfu ((-1 : Int32), (0 : Int32))
set_option maxHeartbeats 4000000 in
set_option maxRecDepth 100000 in
theorem m_X9_partAt (l : Launch) (dC : Nat → ClassId) (dI : Nat → Nat → Nat) (sz : Nat) (h_me : Nat) (q_me : Nat → Nat) (k_me : Nat → ClassId) (o_me : Ob) (y : Int32) (h : f_X9_partAt o_me = some y) : CI l yX9_partAt cX9_partAt 3 (some .int) ({ frames := 1, cells := 0, slots := 0, locals := 22 } : Room) dC dI sz [.ref h_me] [wX9 h_me q_me k_me o_me] [tX9 k_me] y [wX9 h_me q_me k_me o_me] := by
  refine CC_of (by decide) (Nat.le_of_ble_eq_true rfl) ?_
  intro p e s m below meth c A ls hx hb hml hr hlk hnm hown hts hX hK hP hD hA hl
  have hl : lv_has ls 3 [(0, .ref h_me)] := hl
  have hown : s.vm.findClass RX9 = some m.cls := hown
  have hw : Wd dC dI A s.heap [wX9 h_me q_me k_me o_me] s.heap [] := ⟨hP, hD, va_S.rf⟩
  generalize hQz : (MQ below (QI dC dI (fun r (_ : Unit) => r = y) (fun _ => Jn [wX9 h_me q_me k_me o_me]) (fun _ => Jt [tX9 k_me]) A) ([.ref h_me] : List Value).toArray s 0 0 A) = Qz
  clear hP hD hnm
  have bk_30_1 : ∀ (rec_4_0 : Int32 × Int32 → Option (Int32)) (hrec_4_0 : ∀ (v1 : Int32) (v2 : Int32) (H : Heap) (locs : List Loc) (ls : Array Slot), rec_4_0 (v1, v2) = some y → Wd dC dI A s.heap [wX9 h_me q_me k_me o_me] H locs → lv_has ls 3 [(0, .ref h_me), (1, .int v1), (2, .int v2)] → W p l e ({ frames := 1, cells := 0, slots := 0, locals := 22 } : Room) s m ([.ref h_me] : List Value).toArray below meth c H locs 0 0 Qz (F0 m 4 ls [])), ∀ (v2 : Int32) (s0 : Int32) (H : Heap) (locs : List Loc) (ls : Array Slot), bk_X9_partAt_30 o_me rec_4_0 v2 s0 = some y → Wd dC dI A s.heap [wX9 h_me q_me k_me o_me] H locs → lv_has ls 3 [(0, .ref h_me), (2, .int v2)] → W p l e ({ frames := 1, cells := 0, slots := 0, locals := 22 } : Room) s m ([.ref h_me] : List Value).toArray below meth c H locs 0 0 Qz (F0 m 30 ls [.int s0]) := by
    intro rec_4_0 hrec_4_0
    intro v2 s0 H locs ls h hw hl
    unfold bk_X9_partAt_30 at h
    refine lv_istore_n (lv' := [(1, .int s0), (0, .ref h_me), (2, .int v2)]) hx hb dX9_partAt_30 rfl hl (by decide) rfl (fun ls hl => ?_)
    obtain ⟨x3, ex3, h⟩ := z_lt h
    refine lv_iinc (v := x3) (lv' := [(2, .int x3), (1, .int s0), (0, .ref h_me)]) hx hb dX9_partAt_31 hl (k := 2) rfl ((congrArg (v2 + ·) (show Int32.ofInt 1 = (1 : Int32) from by decide)).trans ex3.symm) (by decide) rfl (fun ls hl => ?_)
    refine lv_goto (tgt := 4) hx hb dX9_partAt_34 (by decide) ?_
    exact hrec_4_0 s0 x3 _ _ _ h hw (lv_sub hl [2, 1, 0] rfl)
  have lp_4_0 : ∀ (N : Nat), ∀ (v1 : Int32) (v2 : Int32) (H : Heap) (locs : List Loc) (ls : Array Slot), lp_X9_partAt_4 o_me  N (v1, v2) = some y → Wd dC dI A s.heap [wX9 h_me q_me k_me o_me] H locs → lv_has ls 3 [(0, .ref h_me), (1, .int v1), (2, .int v2)] → W p l e ({ frames := 1, cells := 0, slots := 0, locals := 22 } : Room) s m ([.ref h_me] : List Value).toArray below meth c H locs 0 0 Qz (F0 m 4 ls []) := by
    intro N
    induction N with
    | zero =>
      intro v1 v2 H locs ls h hw hl
      exact absurd (show (none : Option (Int32)) = some y from h) (by simp)
    | succ N ih =>
      intro v1 v2 H locs ls h hw hl
      have h : lb_X9_partAt_4 o_me  (lp_X9_partAt_4 o_me  N) v1 v2 = some y := h
      unfold lb_X9_partAt_4 at h
      refine lv_iload_n hx hb dX9_partAt_4 rfl (lv_at hl 2 rfl) ?_
      refine lv_bipush (v := 9) hx hb dX9_partAt_5 (by decide) ?_
      refine lv_icmp_ge (tgt := 37) hx hb dX9_partAt_7 (by decide) (fun c => ?_) (fun c => ?_)
      · have h := z_t h c
        refine lv_iload_n hx hb dX9_partAt_37 rfl (lv_at hl 1 rfl) ?_
        have hy := Option.some.inj h
        rw [← hQz, ← hy]
        exact xr_i (v := v1) hx hb hr rfl hlk hK hw dX9_partAt_38
      · have h := z_f h c
        refine lv_aload_n hx hb dX9_partAt_10 rfl (lv_at hl 0 rfl) ?_
        refine lv_aload_n hx hb dX9_partAt_11 rfl (lv_at hl 0 rfl) ?_
        refine fgX9_31 hx hb hts hown hK hw 0 rfl kw1207 dX9_partAt_12 ?_
        refine lv_iload_n hx hb dX9_partAt_15 rfl (lv_at hl 2 rfl) ?_
        obtain ⟨g1, h⟩ := z_gd h
        refine faX9_31 hx hb hK hw 0 rfl rfl g1 dX9_partAt_16 ?_
        obtain ⟨z2, ez2, h⟩ := z_bd h
        refine xj_i (xrV (As := [.long (gM o_me 31 v2.toNatClampNeg)]) (rest := []) ⟨hx, hb, hml, hown, hts⟩ (m_X9_isWord l dC dI _ h_me q_me k_me o_me (gM o_me 31 v2.toNatClampNeg) z2 ez2) kw1530 kw1527 kw1529 kw57 kw120 hd_X9_isWord ⟨rfl, rfl⟩ rfl rfl ⟨rfl, rfl⟩ hX hK hw [0] (by decide) rfl rfl rfl rfl rfl hl.1 rfl rfl dX9_partAt_17) hw hA [0] (by decide) rfl rfl (fun H locs hw => ?_)
        have hw : Wd dC dI A s.heap [wX9 h_me q_me k_me o_me] H locs := hw
        refine lv_if_eq (tgt := 29) hx hb dX9_partAt_20 (by decide) (fun c => ?_) (fun c => ?_)
        · have h := z_t h c
          refine lv_iload_n hx hb dX9_partAt_29 rfl (lv_at hl 1 rfl) ?_
          exact bk_30_1 (lp_X9_partAt_4 o_me  N) ih v2 v1 _ _ _ h hw (lv_sub hl [0, 2] rfl)
        · have h := z_f h c
          refine lv_iload_n hx hb dX9_partAt_23 rfl (lv_at hl 2 rfl) ?_
          refine lv_iconst (v := 1) hx hb dX9_partAt_24 (by decide) ?_
          refine lv_iadd hx hb dX9_partAt_25 ?_
          refine lv_goto (tgt := 30) hx hb dX9_partAt_26 (by decide) ?_
          exact bk_30_1 (lp_X9_partAt_4 o_me  N) ih v2 (v2 + (1 : Int32)) _ _ _ h hw (lv_sub hl [0, 2] rfl)
  unfold f_X9_partAt at h
  refine lv_iconst (v := (-1)) hx hb dX9_partAt_0 (by decide) ?_
  refine lv_istore_n (lv' := [(1, .int (-1 : Int32)), (0, .ref h_me)]) hx hb dX9_partAt_1 rfl hl (by decide) rfl (fun ls hl => ?_)
  refine lv_iconst (v := 0) hx hb dX9_partAt_2 (by decide) ?_
  refine lv_istore_n (lv' := [(2, .int (0 : Int32)), (1, .int (-1 : Int32)), (0, .ref h_me)]) hx hb dX9_partAt_3 rfl hl (by decide) rfl (fun ls hl => ?_)
  exact lp_4_0  zfu (-1 : Int32) (0 : Int32) _ _ _ h hw (lv_sub hl [2, 1, 0] rfl)

def bk_X9_leaf_19   (v2 : Int32) (v3 : Int32) (s0 : Int32) (o_me : Ob) : Option (Ob) :=
  (f_X9_must o_me s0).bind fun z1 =>
  if (gI z1 19) = (0 : Int32) then
  ((f_X9_emit z1 v2 v3).bind fun z2 =>
  zlt (sI z2 26 ((gI z2 26) + (1 : Int32))) fun o3 =>
  some o3)
  else
  (some z1)
def bk_X9_leaf_18   (v2 : Int32) (v3 : Int32) (o_me : Ob) : Option (Ob) :=
  bk_X9_leaf_19   v2 v3 (0 : Int32) o_me
def f_X9_leaf (o_me : Ob) (p0 : Int32) (p1 : Int32) (p2 : Int32) : Option (Ob) :=
  if p0 = (0 : Int32) then
  (bk_X9_leaf_18   p1 p2 o_me)
  else
  (if (50 : Int32) ≤ (gI o_me 26) then
  (bk_X9_leaf_18   p1 p2 o_me)
  else
  (bk_X9_leaf_19   p1 p2 (1 : Int32) o_me))
set_option maxHeartbeats 4000000 in
set_option maxRecDepth 100000 in
theorem m_X9_leaf (l : Launch) (dC : Nat → ClassId) (dI : Nat → Nat → Nat) (sz : Nat) (h_me : Nat) (q_me : Nat → Nat) (k_me : Nat → ClassId) (o_me : Ob) (p0 : Int32) (p1 : Int32) (p2 : Int32) (y : Ob) (h : f_X9_leaf o_me p0 p1 p2 = some y) : CV l yX9_leaf cX9_leaf 4 none ({ frames := 3, cells := 0, slots := 0, locals := 61 } : Room) dC dI sz [.ref h_me, .int p0, .int p1, .int p2] [wX9 h_me q_me k_me o_me] [tX9 k_me] [wX9 h_me q_me k_me y] := by
  refine CC_of (by decide) (Nat.le_of_ble_eq_true rfl) ?_
  intro p e s m below meth c A ls hx hb hml hr hlk hnm hown hts hX hK hP hD hA hl
  have hl : lv_has ls 4 [(0, .ref h_me), (1, .int p0), (2, .int p1), (3, .int p2)] := hl
  have hown : s.vm.findClass RX9 = some m.cls := hown
  have hw : Wd dC dI A s.heap [wX9 h_me q_me k_me o_me] s.heap [] := ⟨hP, hD, va_S.rf⟩
  generalize hQz : (MQ below (QV dC dI (fun (_ : Unit) => True) (fun _ => Jn [wX9 h_me q_me k_me y]) (fun _ => Jt [tX9 k_me]) A) ([.ref h_me, .int p0, .int p1, .int p2] : List Value).toArray s 0 0 A) = Qz
  clear hP hD hnm
  have bk_19_1 : ∀ (v2 : Int32) (v3 : Int32) (s0 : Int32) (o_me : Ob) (H : Heap) (locs : List Loc) (ls : Array Slot), bk_X9_leaf_19   v2 v3 s0 o_me = some y → Wd dC dI A s.heap [wX9 h_me q_me k_me o_me] H locs → lv_has ls 4 [(0, .ref h_me), (2, .int v2), (3, .int v3)] → W p l e ({ frames := 3, cells := 0, slots := 0, locals := 61 } : Room) s m ([.ref h_me, .int p0, .int p1, .int p2] : List Value).toArray below meth c H locs 0 0 Qz (F0 m 19 ls [.int s0, .ref h_me]) := by
    intro v2 v3 s0 o_me H locs ls h hw hl
    unfold bk_X9_leaf_19 at h
    obtain ⟨z1, ez1, h⟩ := z_bd h
    refine xj_v (xrV (As := [.int s0]) (rest := []) ⟨hx, hb, hml, hown, hts⟩ (m_X9_must l dC dI _ h_me q_me k_me o_me s0 z1 ez1) kw1534 kw1531 kw1533 kw58 kw120 hd_X9_must ⟨rfl, rfl⟩ rfl rfl ⟨rfl, rfl⟩ hX hK hw [0] (by decide) rfl rfl rfl rfl rfl hl.1 rfl rfl dX9_leaf_19) hw hA [0] (by decide) rfl rfl (fun H locs hw => ?_)
    have hw : Wd dC dI A s.heap [wX9 h_me q_me k_me z1] H locs := hw
    refine lv_aload_n hx hb dX9_leaf_22 rfl (lv_at hl 0 rfl) ?_
    refine fgX9_19 hx hb hts hown hK hw 0 rfl kw1195 dX9_leaf_23 ?_
    refine lv_if_ne (tgt := 45) hx hb dX9_leaf_26 (by decide) (fun c => ?_) (fun c => ?_)
    · have h := z_f h c
      have hy := Option.some.inj h
      rw [← hQz, ← hy]
      exact xr_v hx hb hr hlk hK hw dX9_leaf_45
    · have h := z_t h c
      refine lv_aload_n hx hb dX9_leaf_29 rfl (lv_at hl 0 rfl) ?_
      refine lv_iload_n hx hb dX9_leaf_30 rfl (lv_at hl 1 rfl) ?_
      refine lv_iload_n hx hb dX9_leaf_31 rfl (lv_at hl 2 rfl) ?_
      obtain ⟨z2, ez2, h⟩ := z_bd h
      refine xj_v (xrV (As := [.int v2, .int v3]) (rest := []) ⟨hx, hb, hml, hown, hts⟩ (m_X9_emit l dC dI _ h_me q_me k_me z1 v2 v3 z2 ez2) kw1576 kw1573 kw1575 kw68 kw120 hd_X9_emit ⟨rfl, rfl⟩ rfl rfl ⟨rfl, rfl⟩ hX hK hw [0] (by decide) rfl rfl rfl rfl rfl hl.1 rfl rfl dX9_leaf_32) hw hA [0] (by decide) rfl rfl (fun H locs hw => ?_)
      have hw : Wd dC dI A s.heap [wX9 h_me q_me k_me z2] H locs := hw
      refine lv_aload_n hx hb dX9_leaf_35 rfl (lv_at hl 0 rfl) ?_
      refine lv_dup hx hb dX9_leaf_36 rfl ?_
      refine fgX9_26 hx hb hts hown hK hw 0 rfl kw1202 dX9_leaf_37 ?_
      refine lv_iconst (v := 1) hx hb dX9_leaf_40 (by decide) ?_
      refine lv_iadd hx hb dX9_leaf_41 ?_
      refine fpX9_26 hx hb hts hown hK hw 0 rfl kw1202 dX9_leaf_42 (fun H locs hw => ?_)
      obtain ⟨o3, eo3, h⟩ := z_lt h
      have hw : Wd dC dI A s.heap [wX9 h_me q_me k_me o3] H locs := by rw [eo3]; exact hw
      have hy := Option.some.inj h
      rw [← hQz, ← hy]
      exact xr_v hx hb hr hlk hK hw dX9_leaf_45
  have bk_18_0 : ∀ (v2 : Int32) (v3 : Int32) (o_me : Ob) (H : Heap) (locs : List Loc) (ls : Array Slot), bk_X9_leaf_18   v2 v3 o_me = some y → Wd dC dI A s.heap [wX9 h_me q_me k_me o_me] H locs → lv_has ls 4 [(0, .ref h_me), (2, .int v2), (3, .int v3)] → W p l e ({ frames := 3, cells := 0, slots := 0, locals := 61 } : Room) s m ([.ref h_me, .int p0, .int p1, .int p2] : List Value).toArray below meth c H locs 0 0 Qz (F0 m 18 ls [.ref h_me]) := by
    intro v2 v3 o_me H locs ls h hw hl
    unfold bk_X9_leaf_18 at h
    refine lv_iconst (v := 0) hx hb dX9_leaf_18 (by decide) ?_
    exact bk_19_1  v2 v3 (0 : Int32) o_me _ _ _ h hw (lv_sub hl [0, 1, 2] rfl)
  unfold f_X9_leaf at h
  refine lv_aload_n hx hb dX9_leaf_0 rfl (lv_at hl 0 rfl) ?_
  refine lv_iload_n hx hb dX9_leaf_1 rfl (lv_at hl 1 rfl) ?_
  refine lv_if_eq (tgt := 18) hx hb dX9_leaf_2 (by decide) (fun c => ?_) (fun c => ?_)
  · have h := z_t h c
    exact bk_18_0  p1 p2 o_me _ _ _ h hw (lv_sub hl [0, 2, 3] rfl)
  · have h := z_f h c
    refine lv_aload_n hx hb dX9_leaf_5 rfl (lv_at hl 0 rfl) ?_
    refine fgX9_26 hx hb hts hown hK hw 0 rfl kw1202 dX9_leaf_6 ?_
    refine lv_bipush (v := 50) hx hb dX9_leaf_9 (by decide) ?_
    refine lv_icmp_ge (tgt := 18) hx hb dX9_leaf_11 (by decide) (fun c => ?_) (fun c => ?_)
    · have h := z_t h c
      exact bk_18_0  p1 p2 o_me _ _ _ h hw (lv_sub hl [0, 2, 3] rfl)
    · have h := z_f h c
      refine lv_iconst (v := 1) hx hb dX9_leaf_14 (by decide) ?_
      refine lv_goto (tgt := 19) hx hb dX9_leaf_15 (by decide) ?_
      exact bk_19_1  p1 p2 (1 : Int32) o_me _ _ _ h hw (lv_sub hl [0, 2, 3] rfl)

def bk_X9_number_33   (v5 : Int32) (s0 : Int32) (o_me : Ob) : Option (Int32 × Ob) :=
  (f_X9_must o_me s0).bind fun z2 =>
  some (v5, z2)
def bk_X9_number_32   (v5 : Int32) (o_me : Ob) : Option (Int32 × Ob) :=
  bk_X9_number_33   v5 (0 : Int32) o_me
def f_X9_number (o_me : Ob) (p0 : Int64) (p1 : Int64) : Option (Int32 × Ob) :=
  zlt ((gL o_me 17).toInt32) fun x1 =>
  if (gI o_me 16) = (2 : Int32) then
  ((f_X9_in (gL o_me 17) p0 p1).bind fun z3 =>
  if z3 = (0 : Int32) then
  (bk_X9_number_32   x1 o_me)
  else
  (bk_X9_number_33   x1 (1 : Int32) o_me))
  else
  (bk_X9_number_32   x1 o_me)
set_option maxHeartbeats 4000000 in
set_option maxRecDepth 100000 in
theorem m_X9_number (l : Launch) (dC : Nat → ClassId) (dI : Nat → Nat → Nat) (sz : Nat) (h_me : Nat) (q_me : Nat → Nat) (k_me : Nat → ClassId) (o_me : Ob) (p0 : Int64) (p1 : Int64) (y : Int32 × Ob) (h : f_X9_number o_me p0 p1 = some y) : CI l yX9_number cX9_number 6 (some .int) ({ frames := 3, cells := 0, slots := 0, locals := 61 } : Room) dC dI sz [.ref h_me, .long p0, .long p1] [wX9 h_me q_me k_me o_me] [tX9 k_me] y.1 [wX9 h_me q_me k_me y.2] := by
  refine CC_of (by decide) (Nat.le_of_ble_eq_true rfl) ?_
  intro p e s m below meth c A ls hx hb hml hr hlk hnm hown hts hX hK hP hD hA hl
  have hl : lv_has ls 6 [(0, .ref h_me), (1, .long p0), (3, .long p1)] := hl
  have hown : s.vm.findClass RX9 = some m.cls := hown
  have hw : Wd dC dI A s.heap [wX9 h_me q_me k_me o_me] s.heap [] := ⟨hP, hD, va_S.rf⟩
  generalize hQz : (MQ below (QI dC dI (fun r (_ : Unit) => r = y.1) (fun _ => Jn [wX9 h_me q_me k_me y.2]) (fun _ => Jt [tX9 k_me]) A) ([.ref h_me, .long p0, .long p1] : List Value).toArray s 0 0 A) = Qz
  clear hP hD hnm
  have bk_33_1 : ∀ (v5 : Int32) (s0 : Int32) (o_me : Ob) (H : Heap) (locs : List Loc) (ls : Array Slot), bk_X9_number_33   v5 s0 o_me = some y → Wd dC dI A s.heap [wX9 h_me q_me k_me o_me] H locs → lv_has ls 6 [(5, .int v5)] → W p l e ({ frames := 3, cells := 0, slots := 0, locals := 61 } : Room) s m ([.ref h_me, .long p0, .long p1] : List Value).toArray below meth c H locs 0 0 Qz (F0 m 33 ls [.int s0, .ref h_me]) := by
    intro v5 s0 o_me H locs ls h hw hl
    unfold bk_X9_number_33 at h
    obtain ⟨z2, ez2, h⟩ := z_bd h
    refine xj_v (xrV (As := [.int s0]) (rest := []) ⟨hx, hb, hml, hown, hts⟩ (m_X9_must l dC dI _ h_me q_me k_me o_me s0 z2 ez2) kw1534 kw1531 kw1533 kw58 kw120 hd_X9_must ⟨rfl, rfl⟩ rfl rfl ⟨rfl, rfl⟩ hX hK hw [0] (by decide) rfl rfl rfl rfl rfl hl.1 rfl rfl dX9_number_33) hw hA [0] (by decide) rfl rfl (fun H locs hw => ?_)
    have hw : Wd dC dI A s.heap [wX9 h_me q_me k_me z2] H locs := hw
    refine lv_iload hx hb dX9_number_36 (lv_at hl 0 rfl) ?_
    have hy := Option.some.inj h
    rw [← hQz, ← hy]
    exact xr_i (v := v5) hx hb hr rfl hlk hK hw dX9_number_38
  have bk_32_0 : ∀ (v5 : Int32) (o_me : Ob) (H : Heap) (locs : List Loc) (ls : Array Slot), bk_X9_number_32   v5 o_me = some y → Wd dC dI A s.heap [wX9 h_me q_me k_me o_me] H locs → lv_has ls 6 [(5, .int v5)] → W p l e ({ frames := 3, cells := 0, slots := 0, locals := 61 } : Room) s m ([.ref h_me, .long p0, .long p1] : List Value).toArray below meth c H locs 0 0 Qz (F0 m 32 ls [.ref h_me]) := by
    intro v5 o_me H locs ls h hw hl
    unfold bk_X9_number_32 at h
    refine lv_iconst (v := 0) hx hb dX9_number_32 (by decide) ?_
    exact bk_33_1  v5 (0 : Int32) o_me _ _ _ h hw (lv_sub hl [0] rfl)
  unfold f_X9_number at h
  refine lv_aload_n hx hb dX9_number_0 rfl (lv_at hl 0 rfl) ?_
  refine fgX9_17 hx hb hts hown hK hw 0 rfl kw1193 dX9_number_1 ?_
  refine lv_l2i hx hb dX9_number_4 rfl ?_
  obtain ⟨x1, ex1, h⟩ := z_lt h
  refine lv_fi (v := x1) ex1.symm ?_
  refine lv_istore (lv' := [(5, .int x1), (0, .ref h_me), (1, .long p0), (3, .long p1)]) hx hb dX9_number_5 hl (by decide) rfl (fun ls hl => ?_)
  refine lv_aload_n hx hb dX9_number_7 rfl (lv_at hl 1 rfl) ?_
  refine lv_aload_n hx hb dX9_number_8 rfl (lv_at hl 1 rfl) ?_
  refine fgX9_16 hx hb hts hown hK hw 0 rfl kw1192 dX9_number_9 ?_
  refine lv_iconst (v := 2) hx hb dX9_number_12 (by decide) ?_
  refine lv_icmp_ne (tgt := 32) hx hb dX9_number_13 (by decide) (fun c => ?_) (fun c => ?_)
  · have h := z_f h c
    exact bk_32_0  x1 o_me _ _ _ h hw (lv_sub hl [0] rfl)
  · have h := z_t h c
    refine lv_aload_n hx hb dX9_number_16 rfl (lv_at hl 1 rfl) ?_
    refine fgX9_17 hx hb hts hown hK hw 0 rfl kw1193 dX9_number_17 ?_
    refine lv_lload_n hx hb dX9_number_20 rfl (lv_at hl 2 rfl) ?_
    refine lv_lload_n hx hb dX9_number_21 rfl (lv_at hl 3 rfl) ?_
    obtain ⟨z3, ez3, h⟩ := z_bd h
    refine xj_i (xrS (As := [.long (gL o_me 17), .long p0, .long p1]) (rest := [.ref h_me]) ⟨hx, hb, hml, hown, hts⟩ (m_X9_in l dC dI _  (gL o_me 17) p0 p1 z3 ez3) kw1385 kw1383 kw1384 kw120 hd_X9_in ⟨rfl, rfl⟩ rfl rfl ⟨rfl, rfl⟩ hX hK hw [] (by decide) rfl rfl hl.1 rfl rfl dX9_number_22) hw hA [] (by decide) rfl rfl (fun H locs hw => ?_)
    refine lv_if_eq (tgt := 32) hx hb dX9_number_25 (by decide) (fun c => ?_) (fun c => ?_)
    · have h := z_t h c
      exact bk_32_0  x1 o_me _ _ _ h hw (lv_sub hl [0] rfl)
    · have h := z_f h c
      refine lv_iconst (v := 1) hx hb dX9_number_28 (by decide) ?_
      refine lv_goto (tgt := 33) hx hb dX9_number_29 (by decide) ?_
      exact bk_33_1  x1 (1 : Int32) o_me _ _ _ h hw (lv_sub hl [0] rfl)

def bk_X9_orderPartAt_30 (o_me : Ob) (rec_4_0 : Int32 × Int32 → Option (Int32)) (v2 : Int32) (s0 : Int32) : Option (Int32) :=
  zlt (v2 + (1 : Int32)) fun x3 =>
  rec_4_0 (s0, x3)
def lb_X9_orderPartAt_4 (o_me : Ob)  (rec_4_0 : Int32 × Int32 → Option (Int32)) (v1 : Int32) (v2 : Int32) : Option (Int32) :=
  if (7 : Int32) ≤ v2 then
  (some v1)
  else
  (zgd (zin v2 7) <|
  (f_X9_isWord o_me (gM o_me 32 v2.toNatClampNeg)).bind fun z2 =>
  if z2 = (0 : Int32) then
  (bk_X9_orderPartAt_30 o_me rec_4_0 v2 v1)
  else
  (bk_X9_orderPartAt_30 o_me rec_4_0 v2 (v2 + (1 : Int32))))
def lp_X9_orderPartAt_4 (o_me : Ob)  : Nat → (Int32 × Int32) → Option (Int32) := zit (fun rec a => lb_X9_orderPartAt_4 o_me  rec a.1 a.2)
def f_X9_orderPartAt (o_me : Ob) : Option (Int32) :=
  lp_X9_orderPartAt_4 o_me  zfu ((-1 : Int32), (0 : Int32))
set_option maxHeartbeats 4000000 in
set_option maxRecDepth 100000 in
theorem m_X9_orderPartAt (l : Launch) (dC : Nat → ClassId) (dI : Nat → Nat → Nat) (sz : Nat) (h_me : Nat) (q_me : Nat → Nat) (k_me : Nat → ClassId) (o_me : Ob) (y : Int32) (h : f_X9_orderPartAt o_me = some y) : CI l yX9_orderPartAt cX9_orderPartAt 3 (some .int) ({ frames := 1, cells := 0, slots := 0, locals := 22 } : Room) dC dI sz [.ref h_me] [wX9 h_me q_me k_me o_me] [tX9 k_me] y [wX9 h_me q_me k_me o_me] := by
  refine CC_of (by decide) (Nat.le_of_ble_eq_true rfl) ?_
  intro p e s m below meth c A ls hx hb hml hr hlk hnm hown hts hX hK hP hD hA hl
  have hl : lv_has ls 3 [(0, .ref h_me)] := hl
  have hown : s.vm.findClass RX9 = some m.cls := hown
  have hw : Wd dC dI A s.heap [wX9 h_me q_me k_me o_me] s.heap [] := ⟨hP, hD, va_S.rf⟩
  generalize hQz : (MQ below (QI dC dI (fun r (_ : Unit) => r = y) (fun _ => Jn [wX9 h_me q_me k_me o_me]) (fun _ => Jt [tX9 k_me]) A) ([.ref h_me] : List Value).toArray s 0 0 A) = Qz
  clear hP hD hnm
  have bk_30_1 : ∀ (rec_4_0 : Int32 × Int32 → Option (Int32)) (hrec_4_0 : ∀ (v1 : Int32) (v2 : Int32) (H : Heap) (locs : List Loc) (ls : Array Slot), rec_4_0 (v1, v2) = some y → Wd dC dI A s.heap [wX9 h_me q_me k_me o_me] H locs → lv_has ls 3 [(0, .ref h_me), (1, .int v1), (2, .int v2)] → W p l e ({ frames := 1, cells := 0, slots := 0, locals := 22 } : Room) s m ([.ref h_me] : List Value).toArray below meth c H locs 0 0 Qz (F0 m 4 ls [])), ∀ (v2 : Int32) (s0 : Int32) (H : Heap) (locs : List Loc) (ls : Array Slot), bk_X9_orderPartAt_30 o_me rec_4_0 v2 s0 = some y → Wd dC dI A s.heap [wX9 h_me q_me k_me o_me] H locs → lv_has ls 3 [(0, .ref h_me), (2, .int v2)] → W p l e ({ frames := 1, cells := 0, slots := 0, locals := 22 } : Room) s m ([.ref h_me] : List Value).toArray below meth c H locs 0 0 Qz (F0 m 30 ls [.int s0]) := by
    intro rec_4_0 hrec_4_0
    intro v2 s0 H locs ls h hw hl
    unfold bk_X9_orderPartAt_30 at h
    refine lv_istore_n (lv' := [(1, .int s0), (0, .ref h_me), (2, .int v2)]) hx hb dX9_orderPartAt_30 rfl hl (by decide) rfl (fun ls hl => ?_)
    obtain ⟨x3, ex3, h⟩ := z_lt h
    refine lv_iinc (v := x3) (lv' := [(2, .int x3), (1, .int s0), (0, .ref h_me)]) hx hb dX9_orderPartAt_31 hl (k := 2) rfl ((congrArg (v2 + ·) (show Int32.ofInt 1 = (1 : Int32) from by decide)).trans ex3.symm) (by decide) rfl (fun ls hl => ?_)
    refine lv_goto (tgt := 4) hx hb dX9_orderPartAt_34 (by decide) ?_
    exact hrec_4_0 s0 x3 _ _ _ h hw (lv_sub hl [2, 1, 0] rfl)
  have lp_4_0 : ∀ (N : Nat), ∀ (v1 : Int32) (v2 : Int32) (H : Heap) (locs : List Loc) (ls : Array Slot), lp_X9_orderPartAt_4 o_me  N (v1, v2) = some y → Wd dC dI A s.heap [wX9 h_me q_me k_me o_me] H locs → lv_has ls 3 [(0, .ref h_me), (1, .int v1), (2, .int v2)] → W p l e ({ frames := 1, cells := 0, slots := 0, locals := 22 } : Room) s m ([.ref h_me] : List Value).toArray below meth c H locs 0 0 Qz (F0 m 4 ls []) := by
    intro N
    induction N with
    | zero =>
      intro v1 v2 H locs ls h hw hl
      exact absurd (show (none : Option (Int32)) = some y from h) (by simp)
    | succ N ih =>
      intro v1 v2 H locs ls h hw hl
      have h : lb_X9_orderPartAt_4 o_me  (lp_X9_orderPartAt_4 o_me  N) v1 v2 = some y := h
      unfold lb_X9_orderPartAt_4 at h
      refine lv_iload_n hx hb dX9_orderPartAt_4 rfl (lv_at hl 2 rfl) ?_
      refine lv_bipush (v := 7) hx hb dX9_orderPartAt_5 (by decide) ?_
      refine lv_icmp_ge (tgt := 37) hx hb dX9_orderPartAt_7 (by decide) (fun c => ?_) (fun c => ?_)
      · have h := z_t h c
        refine lv_iload_n hx hb dX9_orderPartAt_37 rfl (lv_at hl 1 rfl) ?_
        have hy := Option.some.inj h
        rw [← hQz, ← hy]
        exact xr_i (v := v1) hx hb hr rfl hlk hK hw dX9_orderPartAt_38
      · have h := z_f h c
        refine lv_aload_n hx hb dX9_orderPartAt_10 rfl (lv_at hl 0 rfl) ?_
        refine lv_aload_n hx hb dX9_orderPartAt_11 rfl (lv_at hl 0 rfl) ?_
        refine fgX9_32 hx hb hts hown hK hw 0 rfl kw1208 dX9_orderPartAt_12 ?_
        refine lv_iload_n hx hb dX9_orderPartAt_15 rfl (lv_at hl 2 rfl) ?_
        obtain ⟨g1, h⟩ := z_gd h
        refine faX9_32 hx hb hK hw 0 rfl rfl g1 dX9_orderPartAt_16 ?_
        obtain ⟨z2, ez2, h⟩ := z_bd h
        refine xj_i (xrV (As := [.long (gM o_me 32 v2.toNatClampNeg)]) (rest := []) ⟨hx, hb, hml, hown, hts⟩ (m_X9_isWord l dC dI _ h_me q_me k_me o_me (gM o_me 32 v2.toNatClampNeg) z2 ez2) kw1530 kw1527 kw1529 kw57 kw120 hd_X9_isWord ⟨rfl, rfl⟩ rfl rfl ⟨rfl, rfl⟩ hX hK hw [0] (by decide) rfl rfl rfl rfl rfl hl.1 rfl rfl dX9_orderPartAt_17) hw hA [0] (by decide) rfl rfl (fun H locs hw => ?_)
        have hw : Wd dC dI A s.heap [wX9 h_me q_me k_me o_me] H locs := hw
        refine lv_if_eq (tgt := 29) hx hb dX9_orderPartAt_20 (by decide) (fun c => ?_) (fun c => ?_)
        · have h := z_t h c
          refine lv_iload_n hx hb dX9_orderPartAt_29 rfl (lv_at hl 1 rfl) ?_
          exact bk_30_1 (lp_X9_orderPartAt_4 o_me  N) ih v2 v1 _ _ _ h hw (lv_sub hl [0, 2] rfl)
        · have h := z_f h c
          refine lv_iload_n hx hb dX9_orderPartAt_23 rfl (lv_at hl 2 rfl) ?_
          refine lv_iconst (v := 1) hx hb dX9_orderPartAt_24 (by decide) ?_
          refine lv_iadd hx hb dX9_orderPartAt_25 ?_
          refine lv_goto (tgt := 30) hx hb dX9_orderPartAt_26 (by decide) ?_
          exact bk_30_1 (lp_X9_orderPartAt_4 o_me  N) ih v2 (v2 + (1 : Int32)) _ _ _ h hw (lv_sub hl [0, 2] rfl)
  unfold f_X9_orderPartAt at h
  refine lv_iconst (v := (-1)) hx hb dX9_orderPartAt_0 (by decide) ?_
  refine lv_istore_n (lv' := [(1, .int (-1 : Int32)), (0, .ref h_me)]) hx hb dX9_orderPartAt_1 rfl hl (by decide) rfl (fun ls hl => ?_)
  refine lv_iconst (v := 0) hx hb dX9_orderPartAt_2 (by decide) ?_
  refine lv_istore_n (lv' := [(2, .int (0 : Int32)), (1, .int (-1 : Int32)), (0, .ref h_me)]) hx hb dX9_orderPartAt_3 rfl hl (by decide) rfl (fun ls hl => ?_)
  exact lp_4_0  zfu (-1 : Int32) (0 : Int32) _ _ _ h hw (lv_sub hl [2, 1, 0] rfl)

def bk_X9_openBracket_15   (v1 : Int32) (s0 : Int32) (o_me : Ob) : Option (Ob) :=
  (f_X9_must o_me s0).bind fun z1 =>
  if (gI z1 19) = (0 : Int32) then
  (zlt (sI z1 30 ((gI z1 30) + (1 : Int32))) fun o2 =>
  (f_X9_push o2 v1 (0 : Int32)).bind fun z3 =>
  some z3)
  else
  (some z1)
def f_X9_openBracket (o_me : Ob) (p0 : Int32) : Option (Ob) :=
  if (8 : Int32) ≤ (gI o_me 30) then
  (bk_X9_openBracket_15   p0 (0 : Int32) o_me)
  else
  (bk_X9_openBracket_15   p0 (1 : Int32) o_me)
set_option maxHeartbeats 4000000 in
set_option maxRecDepth 100000 in
theorem m_X9_openBracket (l : Launch) (dC : Nat → ClassId) (dI : Nat → Nat → Nat) (sz : Nat) (h_me : Nat) (q_me : Nat → Nat) (k_me : Nat → ClassId) (o_me : Ob) (p0 : Int32) (y : Ob) (h : f_X9_openBracket o_me p0 = some y) : CV l yX9_openBracket cX9_openBracket 2 none ({ frames := 3, cells := 0, slots := 0, locals := 61 } : Room) dC dI sz [.ref h_me, .int p0] [wX9 h_me q_me k_me o_me] [tX9 k_me] [wX9 h_me q_me k_me y] := by
  refine CC_of (by decide) (Nat.le_of_ble_eq_true rfl) ?_
  intro p e s m below meth c A ls hx hb hml hr hlk hnm hown hts hX hK hP hD hA hl
  have hl : lv_has ls 2 [(0, .ref h_me), (1, .int p0)] := hl
  have hown : s.vm.findClass RX9 = some m.cls := hown
  have hw : Wd dC dI A s.heap [wX9 h_me q_me k_me o_me] s.heap [] := ⟨hP, hD, va_S.rf⟩
  generalize hQz : (MQ below (QV dC dI (fun (_ : Unit) => True) (fun _ => Jn [wX9 h_me q_me k_me y]) (fun _ => Jt [tX9 k_me]) A) ([.ref h_me, .int p0] : List Value).toArray s 0 0 A) = Qz
  clear hP hD hnm
  have bk_15_0 : ∀ (v1 : Int32) (s0 : Int32) (o_me : Ob) (H : Heap) (locs : List Loc) (ls : Array Slot), bk_X9_openBracket_15   v1 s0 o_me = some y → Wd dC dI A s.heap [wX9 h_me q_me k_me o_me] H locs → lv_has ls 2 [(0, .ref h_me), (1, .int v1)] → W p l e ({ frames := 3, cells := 0, slots := 0, locals := 61 } : Room) s m ([.ref h_me, .int p0] : List Value).toArray below meth c H locs 0 0 Qz (F0 m 15 ls [.int s0, .ref h_me]) := by
    intro v1 s0 o_me H locs ls h hw hl
    unfold bk_X9_openBracket_15 at h
    obtain ⟨z1, ez1, h⟩ := z_bd h
    refine xj_v (xrV (As := [.int s0]) (rest := []) ⟨hx, hb, hml, hown, hts⟩ (m_X9_must l dC dI _ h_me q_me k_me o_me s0 z1 ez1) kw1534 kw1531 kw1533 kw58 kw120 hd_X9_must ⟨rfl, rfl⟩ rfl rfl ⟨rfl, rfl⟩ hX hK hw [0] (by decide) rfl rfl rfl rfl rfl hl.1 rfl rfl dX9_openBracket_15) hw hA [0] (by decide) rfl rfl (fun H locs hw => ?_)
    have hw : Wd dC dI A s.heap [wX9 h_me q_me k_me z1] H locs := hw
    refine lv_aload_n hx hb dX9_openBracket_18 rfl (lv_at hl 0 rfl) ?_
    refine fgX9_19 hx hb hts hown hK hw 0 rfl kw1195 dX9_openBracket_19 ?_
    refine lv_if_ne (tgt := 41) hx hb dX9_openBracket_22 (by decide) (fun c => ?_) (fun c => ?_)
    · have h := z_f h c
      have hy := Option.some.inj h
      rw [← hQz, ← hy]
      exact xr_v hx hb hr hlk hK hw dX9_openBracket_41
    · have h := z_t h c
      refine lv_aload_n hx hb dX9_openBracket_25 rfl (lv_at hl 0 rfl) ?_
      refine lv_dup hx hb dX9_openBracket_26 rfl ?_
      refine fgX9_30 hx hb hts hown hK hw 0 rfl kw1206 dX9_openBracket_27 ?_
      refine lv_iconst (v := 1) hx hb dX9_openBracket_30 (by decide) ?_
      refine lv_iadd hx hb dX9_openBracket_31 ?_
      refine fpX9_30 hx hb hts hown hK hw 0 rfl kw1206 dX9_openBracket_32 (fun H locs hw => ?_)
      obtain ⟨o2, eo2, h⟩ := z_lt h
      have hw : Wd dC dI A s.heap [wX9 h_me q_me k_me o2] H locs := by rw [eo2]; exact hw
      refine lv_aload_n hx hb dX9_openBracket_35 rfl (lv_at hl 0 rfl) ?_
      refine lv_iload_n hx hb dX9_openBracket_36 rfl (lv_at hl 1 rfl) ?_
      refine lv_iconst (v := 0) hx hb dX9_openBracket_37 (by decide) ?_
      obtain ⟨z3, ez3, h⟩ := z_bd h
      refine xj_v (xrV (As := [.int v1, .int (0 : Int32)]) (rest := []) ⟨hx, hb, hml, hown, hts⟩ (m_X9_push l dC dI _ h_me q_me k_me o2 v1 (0 : Int32) z3 ez3) kw1547 kw1544 kw1546 kw61 kw120 hd_X9_push ⟨rfl, rfl⟩ rfl rfl ⟨rfl, rfl⟩ hX hK hw [0] (by decide) rfl rfl rfl rfl rfl hl.1 rfl rfl dX9_openBracket_38) hw hA [0] (by decide) rfl rfl (fun H locs hw => ?_)
      have hw : Wd dC dI A s.heap [wX9 h_me q_me k_me z3] H locs := hw
      have hy := Option.some.inj h
      rw [← hQz, ← hy]
      exact xr_v hx hb hr hlk hK hw dX9_openBracket_41
  unfold f_X9_openBracket at h
  refine lv_aload_n hx hb dX9_openBracket_0 rfl (lv_at hl 0 rfl) ?_
  refine lv_aload_n hx hb dX9_openBracket_1 rfl (lv_at hl 0 rfl) ?_
  refine fgX9_30 hx hb hts hown hK hw 0 rfl kw1206 dX9_openBracket_2 ?_
  refine lv_bipush (v := 8) hx hb dX9_openBracket_5 (by decide) ?_
  refine lv_icmp_ge (tgt := 14) hx hb dX9_openBracket_7 (by decide) (fun c => ?_) (fun c => ?_)
  · have h := z_t h c
    refine lv_iconst (v := 0) hx hb dX9_openBracket_14 (by decide) ?_
    exact bk_15_0  p0 (0 : Int32) o_me _ _ _ h hw (lv_sub hl [0, 1] rfl)
  · have h := z_f h c
    refine lv_iconst (v := 1) hx hb dX9_openBracket_10 (by decide) ?_
    refine lv_goto (tgt := 15) hx hb dX9_openBracket_11 (by decide) ?_
    exact bk_15_0  p0 (1 : Int32) o_me _ _ _ h hw (lv_sub hl [0, 1] rfl)

def bk_X9_readPart_99   (v1 : Int32) (s0 : Int32) (s1 : Int32) (s2 : Int32) (o_me : Ob) : Option (Int32 × Ob) :=
  (f_X9_leaf o_me s2 s1 s0).bind fun z3 =>
  if (gI z3 20) = (0 : Int32) then
  (some ((3 : Int32), z3))
  else
  (if v1 < (6 : Int32) then
  (some ((3 : Int32), z3))
  else
  (if (gI z3 19) = (0 : Int32) then
  (zlt ((gI z3 23) - (1 : Int32)) fun x4 =>
  (f_X9_number z3 (0 : Int64) (6 : Int64)).bind fun z5 =>
  zgd (zin x4 400) <|
  zlt (tA z5.2 25 x4.toNatClampNeg z5.1) fun o7 =>
  some ((3 : Int32), o7))
  else
  (some ((3 : Int32), z3))))
def bk_X9_readPart_86   (v1 : Int32) (v2 : Int32) (s0 : Int32) (s1 : Int32) (o_me : Ob) : Option (Int32 × Ob) :=
  if v2 = (0 : Int32) then
  (bk_X9_readPart_99   v1 (0 : Int32) s0 s1 o_me)
  else
  (bk_X9_readPart_99   v1 ((gL o_me 17).toInt32) s0 s1 o_me)
def bk_X9_readPart_76   (v1 : Int32) (v2 : Int32) (s0 : Int32) (o_me : Ob) : Option (Int32 × Ob) :=
  if v1 = (-1 : Int32) then
  (bk_X9_readPart_86   v1 v2 (0 : Int32) s0 o_me)
  else
  (bk_X9_readPart_86   v1 v2 v1 s0 o_me)
def bk_X9_readPart_71   (v1 : Int32) (v2 : Int32) (o_me : Ob) : Option (Int32 × Ob) :=
  bk_X9_readPart_76   v1 v2 (1 : Int32) o_me
def bk_X9_readPart_60   (v1 : Int32) (s0 : Int32) (o_me : Ob) : Option (Int32 × Ob) :=
  if v1 = (-1 : Int32) then
  (if s0 = (0 : Int32) then
  (bk_X9_readPart_76   v1 s0 (0 : Int32) o_me)
  else
  (bk_X9_readPart_71   v1 s0 o_me))
  else
  (bk_X9_readPart_71   v1 s0 o_me)
def bk_X9_readPart_59   (v1 : Int32) (o_me : Ob) : Option (Int32 × Ob) :=
  bk_X9_readPart_60   v1 (0 : Int32) o_me
def bk_X9_readPart_35   (s0 : Int32) (o_me : Ob) : Option (Int32 × Ob) :=
  if (gI o_me 16) = (2 : Int32) then
  (if (0 : Int32) < (lg_cmp (gL o_me 17) (1000 : Int64)) then
  (bk_X9_readPart_59   s0 o_me)
  else
  (bk_X9_readPart_60   s0 (1 : Int32) o_me))
  else
  (bk_X9_readPart_59   s0 o_me)
def f_X9_readPart (o_me : Ob) : Option (Int32 × Ob) :=
  (f_X9_isSign o_me (91 : Int32)).bind fun z1 =>
  if z1 = (0 : Int32) then
  (if (gI o_me 20) = (0 : Int32) then
  ((f_X9_partAt o_me).bind fun z2 =>
  bk_X9_readPart_35   z2 o_me)
  else
  ((f_X9_orderPartAt o_me).bind fun z8 =>
  bk_X9_readPart_35   z8 o_me))
  else
  ((f_X9_openBracket o_me (32 : Int32)).bind fun z9 =>
  some ((1 : Int32), z9))
set_option maxHeartbeats 4000000 in
set_option maxRecDepth 100000 in
theorem m_X9_readPart (l : Launch) (dC : Nat → ClassId) (dI : Nat → Nat → Nat) (sz : Nat) (h_me : Nat) (q_me : Nat → Nat) (k_me : Nat → ClassId) (o_me : Ob) (y : Int32 × Ob) (h : f_X9_readPart o_me = some y) : CI l yX9_readPart cX9_readPart 4 (some .int) ({ frames := 4, cells := 0, slots := 0, locals := 86 } : Room) dC dI sz [.ref h_me] [wX9 h_me q_me k_me o_me] [tX9 k_me] y.1 [wX9 h_me q_me k_me y.2] := by
  refine CC_of (by decide) (Nat.le_of_ble_eq_true rfl) ?_
  intro p e s m below meth c A ls hx hb hml hr hlk hnm hown hts hX hK hP hD hA hl
  have hl : lv_has ls 4 [(0, .ref h_me)] := hl
  have hown : s.vm.findClass RX9 = some m.cls := hown
  have hw : Wd dC dI A s.heap [wX9 h_me q_me k_me o_me] s.heap [] := ⟨hP, hD, va_S.rf⟩
  generalize hQz : (MQ below (QI dC dI (fun r (_ : Unit) => r = y.1) (fun _ => Jn [wX9 h_me q_me k_me y.2]) (fun _ => Jt [tX9 k_me]) A) ([.ref h_me] : List Value).toArray s 0 0 A) = Qz
  clear hP hD hnm
  have bk_99_6 : ∀ (v1 : Int32) (s0 : Int32) (s1 : Int32) (s2 : Int32) (o_me : Ob) (H : Heap) (locs : List Loc) (ls : Array Slot), bk_X9_readPart_99   v1 s0 s1 s2 o_me = some y → Wd dC dI A s.heap [wX9 h_me q_me k_me o_me] H locs → lv_has ls 4 [(0, .ref h_me), (1, .int v1)] → W p l e ({ frames := 4, cells := 0, slots := 0, locals := 86 } : Room) s m ([.ref h_me] : List Value).toArray below meth c H locs 0 0 Qz (F0 m 99 ls [.int s0, .int s1, .int s2, .ref h_me]) := by
    intro v1 s0 s1 s2 o_me H locs ls h hw hl
    unfold bk_X9_readPart_99 at h
    obtain ⟨z3, ez3, h⟩ := z_bd h
    refine xj_v (xrV (As := [.int s2, .int s1, .int s0]) (rest := []) ⟨hx, hb, hml, hown, hts⟩ (m_X9_leaf l dC dI _ h_me q_me k_me o_me s2 s1 s0 z3 ez3) kw1572 kw1569 kw1571 kw67 kw120 hd_X9_leaf ⟨rfl, rfl⟩ rfl rfl ⟨rfl, rfl⟩ hX hK hw [0] (by decide) rfl rfl rfl rfl rfl hl.1 rfl rfl dX9_readPart_99) hw hA [0] (by decide) rfl rfl (fun H locs hw => ?_)
    have hw : Wd dC dI A s.heap [wX9 h_me q_me k_me z3] H locs := hw
    refine lv_aload_n hx hb dX9_readPart_102 rfl (lv_at hl 0 rfl) ?_
    refine fgX9_20 hx hb hts hown hK hw 0 rfl kw1196 dX9_readPart_103 ?_
    refine lv_if_eq (tgt := 143) hx hb dX9_readPart_106 (by decide) (fun c => ?_) (fun c => ?_)
    · have h := z_t h c
      refine lv_iconst (v := 3) hx hb dX9_readPart_143 (by decide) ?_
      have hy := Option.some.inj h
      rw [← hQz, ← hy]
      exact xr_i (v := (3 : Int32)) hx hb hr rfl hlk hK hw dX9_readPart_144
    · have h := z_f h c
      refine lv_iload_n hx hb dX9_readPart_109 rfl (lv_at hl 1 rfl) ?_
      refine lv_bipush (v := 6) hx hb dX9_readPart_110 (by decide) ?_
      refine lv_icmp_lt (tgt := 143) hx hb dX9_readPart_112 (by decide) (fun c => ?_) (fun c => ?_)
      · have h := z_t h c
        refine lv_iconst (v := 3) hx hb dX9_readPart_143 (by decide) ?_
        have hy := Option.some.inj h
        rw [← hQz, ← hy]
        exact xr_i (v := (3 : Int32)) hx hb hr rfl hlk hK hw dX9_readPart_144
      · have h := z_f h c
        refine lv_aload_n hx hb dX9_readPart_115 rfl (lv_at hl 0 rfl) ?_
        refine fgX9_19 hx hb hts hown hK hw 0 rfl kw1195 dX9_readPart_116 ?_
        refine lv_if_ne (tgt := 143) hx hb dX9_readPart_119 (by decide) (fun c => ?_) (fun c => ?_)
        · have h := z_f h c
          refine lv_iconst (v := 3) hx hb dX9_readPart_143 (by decide) ?_
          have hy := Option.some.inj h
          rw [← hQz, ← hy]
          exact xr_i (v := (3 : Int32)) hx hb hr rfl hlk hK hw dX9_readPart_144
        · have h := z_t h c
          refine lv_aload_n hx hb dX9_readPart_122 rfl (lv_at hl 0 rfl) ?_
          refine fgX9_23 hx hb hts hown hK hw 0 rfl kw1199 dX9_readPart_123 ?_
          refine lv_iconst (v := 1) hx hb dX9_readPart_126 (by decide) ?_
          refine lv_isub hx hb dX9_readPart_127 ?_
          obtain ⟨x4, ex4, h⟩ := z_lt h
          refine lv_fi (v := x4) ex4.symm ?_
          refine lv_istore_n (lv' := [(3, .int x4), (0, .ref h_me), (1, .int v1)]) hx hb dX9_readPart_128 rfl hl (by decide) rfl (fun ls hl => ?_)
          refine lv_aload_n hx hb dX9_readPart_129 rfl (lv_at hl 1 rfl) ?_
          refine fgX9_25 hx hb hts hown hK hw 0 rfl kw1201 dX9_readPart_130 ?_
          refine lv_iload_n hx hb dX9_readPart_133 rfl (lv_at hl 0 rfl) ?_
          refine lv_aload_n hx hb dX9_readPart_134 rfl (lv_at hl 1 rfl) ?_
          refine lv_lconst (v := 0) hx hb dX9_readPart_135 (by decide) ?_
          refine lv_ldc2 (v := 6) hx hb hown (hts _ kw1577) dX9_readPart_136 ?_
          obtain ⟨z5, ez5, h⟩ := z_bd h
          refine xj_i (xrV (As := [.long (0 : Int64), .long (6 : Int64)]) (rest := [.int x4, .ref (q_me 25)]) ⟨hx, hb, hml, hown, hts⟩ (m_X9_number l dC dI _ h_me q_me k_me z3 (0 : Int64) (6 : Int64) z5 ez5) kw1581 kw1578 kw1580 kw69 kw120 hd_X9_number ⟨rfl, rfl⟩ rfl rfl ⟨rfl, rfl⟩ hX hK hw [0] (by decide) rfl rfl rfl rfl rfl hl.1 rfl rfl dX9_readPart_139) hw hA [0] (by decide) rfl rfl (fun H locs hw => ?_)
          have hw : Wd dC dI A s.heap [wX9 h_me q_me k_me z5.2] H locs := hw
          obtain ⟨g6, h⟩ := z_gd h
          refine fbX9_25 hx hb hK hw 0 rfl rfl g6 dX9_readPart_142 (fun H locs hw => ?_)
          obtain ⟨o7, eo7, h⟩ := z_lt h
          have hw : Wd dC dI A s.heap [wX9 h_me q_me k_me o7] H locs := by rw [eo7]; exact hw
          refine lv_iconst (v := 3) hx hb dX9_readPart_143 (by decide) ?_
          have hy := Option.some.inj h
          rw [← hQz, ← hy]
          exact xr_i (v := (3 : Int32)) hx hb hr rfl hlk hK hw dX9_readPart_144
  have bk_86_5 : ∀ (v1 : Int32) (v2 : Int32) (s0 : Int32) (s1 : Int32) (o_me : Ob) (H : Heap) (locs : List Loc) (ls : Array Slot), bk_X9_readPart_86   v1 v2 s0 s1 o_me = some y → Wd dC dI A s.heap [wX9 h_me q_me k_me o_me] H locs → lv_has ls 4 [(0, .ref h_me), (1, .int v1), (2, .int v2)] → W p l e ({ frames := 4, cells := 0, slots := 0, locals := 86 } : Room) s m ([.ref h_me] : List Value).toArray below meth c H locs 0 0 Qz (F0 m 86 ls [.int s0, .int s1, .ref h_me]) := by
    intro v1 v2 s0 s1 o_me H locs ls h hw hl
    unfold bk_X9_readPart_86 at h
    refine lv_iload_n hx hb dX9_readPart_86 rfl (lv_at hl 2 rfl) ?_
    refine lv_if_eq (tgt := 98) hx hb dX9_readPart_87 (by decide) (fun c => ?_) (fun c => ?_)
    · have h := z_t h c
      refine lv_iconst (v := 0) hx hb dX9_readPart_98 (by decide) ?_
      exact bk_99_6  v1 (0 : Int32) s0 s1 o_me _ _ _ h hw (lv_sub hl [0, 1] rfl)
    · have h := z_f h c
      refine lv_aload_n hx hb dX9_readPart_90 rfl (lv_at hl 0 rfl) ?_
      refine fgX9_17 hx hb hts hown hK hw 0 rfl kw1193 dX9_readPart_91 ?_
      refine lv_l2i hx hb dX9_readPart_94 rfl ?_
      refine lv_goto (tgt := 99) hx hb dX9_readPart_95 (by decide) ?_
      exact bk_99_6  v1 ((gL o_me 17).toInt32) s0 s1 o_me _ _ _ h hw (lv_sub hl [0, 1] rfl)
  have bk_76_4 : ∀ (v1 : Int32) (v2 : Int32) (s0 : Int32) (o_me : Ob) (H : Heap) (locs : List Loc) (ls : Array Slot), bk_X9_readPart_76   v1 v2 s0 o_me = some y → Wd dC dI A s.heap [wX9 h_me q_me k_me o_me] H locs → lv_has ls 4 [(0, .ref h_me), (1, .int v1), (2, .int v2)] → W p l e ({ frames := 4, cells := 0, slots := 0, locals := 86 } : Room) s m ([.ref h_me] : List Value).toArray below meth c H locs 0 0 Qz (F0 m 76 ls [.int s0, .ref h_me]) := by
    intro v1 v2 s0 o_me H locs ls h hw hl
    unfold bk_X9_readPart_76 at h
    refine lv_iload_n hx hb dX9_readPart_76 rfl (lv_at hl 1 rfl) ?_
    refine lv_iconst (v := (-1)) hx hb dX9_readPart_77 (by decide) ?_
    refine lv_icmp_ne (tgt := 85) hx hb dX9_readPart_78 (by decide) (fun c => ?_) (fun c => ?_)
    · have h := z_f h c
      refine lv_iload_n hx hb dX9_readPart_85 rfl (lv_at hl 1 rfl) ?_
      exact bk_86_5  v1 v2 v1 s0 o_me _ _ _ h hw (lv_sub hl [0, 1, 2] rfl)
    · have h := z_t h c
      refine lv_iconst (v := 0) hx hb dX9_readPart_81 (by decide) ?_
      refine lv_goto (tgt := 86) hx hb dX9_readPart_82 (by decide) ?_
      exact bk_86_5  v1 v2 (0 : Int32) s0 o_me _ _ _ h hw (lv_sub hl [0, 1, 2] rfl)
  have bk_71_3 : ∀ (v1 : Int32) (v2 : Int32) (o_me : Ob) (H : Heap) (locs : List Loc) (ls : Array Slot), bk_X9_readPart_71   v1 v2 o_me = some y → Wd dC dI A s.heap [wX9 h_me q_me k_me o_me] H locs → lv_has ls 4 [(0, .ref h_me), (1, .int v1), (2, .int v2)] → W p l e ({ frames := 4, cells := 0, slots := 0, locals := 86 } : Room) s m ([.ref h_me] : List Value).toArray below meth c H locs 0 0 Qz (F0 m 71 ls [.ref h_me]) := by
    intro v1 v2 o_me H locs ls h hw hl
    unfold bk_X9_readPart_71 at h
    refine lv_iconst (v := 1) hx hb dX9_readPart_71 (by decide) ?_
    refine lv_goto (tgt := 76) hx hb dX9_readPart_72 (by decide) ?_
    exact bk_76_4  v1 v2 (1 : Int32) o_me _ _ _ h hw (lv_sub hl [0, 1, 2] rfl)
  have bk_60_2 : ∀ (v1 : Int32) (s0 : Int32) (o_me : Ob) (H : Heap) (locs : List Loc) (ls : Array Slot), bk_X9_readPart_60   v1 s0 o_me = some y → Wd dC dI A s.heap [wX9 h_me q_me k_me o_me] H locs → lv_has ls 4 [(0, .ref h_me), (1, .int v1)] → W p l e ({ frames := 4, cells := 0, slots := 0, locals := 86 } : Room) s m ([.ref h_me] : List Value).toArray below meth c H locs 0 0 Qz (F0 m 60 ls [.int s0]) := by
    intro v1 s0 o_me H locs ls h hw hl
    unfold bk_X9_readPart_60 at h
    refine lv_istore_n (lv' := [(2, .int s0), (0, .ref h_me), (1, .int v1)]) hx hb dX9_readPart_60 rfl hl (by decide) rfl (fun ls hl => ?_)
    refine lv_aload_n hx hb dX9_readPart_61 rfl (lv_at hl 1 rfl) ?_
    refine lv_iload_n hx hb dX9_readPart_62 rfl (lv_at hl 2 rfl) ?_
    refine lv_iconst (v := (-1)) hx hb dX9_readPart_63 (by decide) ?_
    refine lv_icmp_ne (tgt := 71) hx hb dX9_readPart_64 (by decide) (fun c => ?_) (fun c => ?_)
    · have h := z_f h c
      exact bk_71_3  v1 s0 o_me _ _ _ h hw (lv_sub hl [1, 2, 0] rfl)
    · have h := z_t h c
      refine lv_iload_n hx hb dX9_readPart_67 rfl (lv_at hl 0 rfl) ?_
      refine lv_if_eq (tgt := 75) hx hb dX9_readPart_68 (by decide) (fun c => ?_) (fun c => ?_)
      · have h := z_t h c
        refine lv_iconst (v := 0) hx hb dX9_readPart_75 (by decide) ?_
        exact bk_76_4  v1 s0 (0 : Int32) o_me _ _ _ h hw (lv_sub hl [1, 2, 0] rfl)
      · have h := z_f h c
        exact bk_71_3  v1 s0 o_me _ _ _ h hw (lv_sub hl [1, 2, 0] rfl)
  have bk_59_1 : ∀ (v1 : Int32) (o_me : Ob) (H : Heap) (locs : List Loc) (ls : Array Slot), bk_X9_readPart_59   v1 o_me = some y → Wd dC dI A s.heap [wX9 h_me q_me k_me o_me] H locs → lv_has ls 4 [(0, .ref h_me), (1, .int v1)] → W p l e ({ frames := 4, cells := 0, slots := 0, locals := 86 } : Room) s m ([.ref h_me] : List Value).toArray below meth c H locs 0 0 Qz (F0 m 59 ls []) := by
    intro v1 o_me H locs ls h hw hl
    unfold bk_X9_readPart_59 at h
    refine lv_iconst (v := 0) hx hb dX9_readPart_59 (by decide) ?_
    exact bk_60_2  v1 (0 : Int32) o_me _ _ _ h hw (lv_sub hl [0, 1] rfl)
  have bk_35_0 : ∀ (s0 : Int32) (o_me : Ob) (H : Heap) (locs : List Loc) (ls : Array Slot), bk_X9_readPart_35   s0 o_me = some y → Wd dC dI A s.heap [wX9 h_me q_me k_me o_me] H locs → lv_has ls 4 [(0, .ref h_me)] → W p l e ({ frames := 4, cells := 0, slots := 0, locals := 86 } : Room) s m ([.ref h_me] : List Value).toArray below meth c H locs 0 0 Qz (F0 m 35 ls [.int s0]) := by
    intro s0 o_me H locs ls h hw hl
    unfold bk_X9_readPart_35 at h
    refine lv_istore_n (lv' := [(1, .int s0), (0, .ref h_me)]) hx hb dX9_readPart_35 rfl hl (by decide) rfl (fun ls hl => ?_)
    refine lv_aload_n hx hb dX9_readPart_36 rfl (lv_at hl 1 rfl) ?_
    refine fgX9_16 hx hb hts hown hK hw 0 rfl kw1192 dX9_readPart_37 ?_
    refine lv_iconst (v := 2) hx hb dX9_readPart_40 (by decide) ?_
    refine lv_icmp_ne (tgt := 59) hx hb dX9_readPart_41 (by decide) (fun c => ?_) (fun c => ?_)
    · have h := z_f h c
      exact bk_59_1  s0 o_me _ _ _ h hw (lv_sub hl [1, 0] rfl)
    · have h := z_t h c
      refine lv_aload_n hx hb dX9_readPart_44 rfl (lv_at hl 1 rfl) ?_
      refine fgX9_17 hx hb hts hown hK hw 0 rfl kw1193 dX9_readPart_45 ?_
      refine lv_ldc2 (v := 1000) hx hb hown (hts _ kw1568) dX9_readPart_48 ?_
      refine W.lcmp hx hb dX9_readPart_51 ?_
      refine lv_if_gt (tgt := 59) hx hb dX9_readPart_52 (by decide) (fun c => ?_) (fun c => ?_)
      · have h := z_t h c
        exact bk_59_1  s0 o_me _ _ _ h hw (lv_sub hl [1, 0] rfl)
      · have h := z_f h c
        refine lv_iconst (v := 1) hx hb dX9_readPart_55 (by decide) ?_
        refine lv_goto (tgt := 60) hx hb dX9_readPart_56 (by decide) ?_
        exact bk_60_2  s0 (1 : Int32) o_me _ _ _ h hw (lv_sub hl [1, 0] rfl)
  unfold f_X9_readPart at h
  refine lv_aload_n hx hb dX9_readPart_0 rfl (lv_at hl 0 rfl) ?_
  refine lv_bipush (v := 91) hx hb dX9_readPart_1 (by decide) ?_
  obtain ⟨z1, ez1, h⟩ := z_bd h
  refine xj_i (xrV (As := [.int (91 : Int32)]) (rest := []) ⟨hx, hb, hml, hown, hts⟩ (m_X9_isSign l dC dI _ h_me q_me k_me o_me (91 : Int32) z1 ez1) kw1551 kw1548 kw1550 kw62 kw120 hd_X9_isSign ⟨rfl, rfl⟩ rfl rfl ⟨rfl, rfl⟩ hX hK hw [0] (by decide) rfl rfl rfl rfl rfl hl.1 rfl rfl dX9_readPart_3) hw hA [0] (by decide) rfl rfl (fun H locs hw => ?_)
  have hw : Wd dC dI A s.heap [wX9 h_me q_me k_me o_me] H locs := hw
  refine lv_if_eq (tgt := 17) hx hb dX9_readPart_6 (by decide) (fun c => ?_) (fun c => ?_)
  · have h := z_t h c
    refine lv_aload_n hx hb dX9_readPart_17 rfl (lv_at hl 0 rfl) ?_
    refine fgX9_20 hx hb hts hown hK hw 0 rfl kw1196 dX9_readPart_18 ?_
    refine lv_if_eq (tgt := 31) hx hb dX9_readPart_21 (by decide) (fun c => ?_) (fun c => ?_)
    · have h := z_t h c
      refine lv_aload_n hx hb dX9_readPart_31 rfl (lv_at hl 0 rfl) ?_
      obtain ⟨z2, ez2, h⟩ := z_bd h
      refine xj_i (xrV (As := []) (rest := []) ⟨hx, hb, hml, hown, hts⟩ (m_X9_partAt l dC dI _ h_me q_me k_me o_me z2 ez2) kw1567 kw1564 kw1566 kw66 kw120 hd_X9_partAt ⟨rfl, rfl⟩ rfl rfl ⟨rfl, rfl⟩ hX hK hw [0] (by decide) rfl rfl rfl rfl rfl hl.1 rfl rfl dX9_readPart_32) hw hA [0] (by decide) rfl rfl (fun H locs hw => ?_)
      have hw : Wd dC dI A s.heap [wX9 h_me q_me k_me o_me] H locs := hw
      exact bk_35_0  z2 o_me _ _ _ h hw (lv_sub hl [0] rfl)
    · have h := z_f h c
      refine lv_aload_n hx hb dX9_readPart_24 rfl (lv_at hl 0 rfl) ?_
      obtain ⟨z8, ez8, h⟩ := z_bd h
      refine xj_i (xrV (As := []) (rest := []) ⟨hx, hb, hml, hown, hts⟩ (m_X9_orderPartAt l dC dI _ h_me q_me k_me o_me z8 ez8) kw1563 kw1560 kw1562 kw65 kw120 hd_X9_orderPartAt ⟨rfl, rfl⟩ rfl rfl ⟨rfl, rfl⟩ hX hK hw [0] (by decide) rfl rfl rfl rfl rfl hl.1 rfl rfl dX9_readPart_25) hw hA [0] (by decide) rfl rfl (fun H locs hw => ?_)
      have hw : Wd dC dI A s.heap [wX9 h_me q_me k_me o_me] H locs := hw
      refine lv_goto (tgt := 35) hx hb dX9_readPart_28 (by decide) ?_
      exact bk_35_0  z8 o_me _ _ _ h hw (lv_sub hl [0] rfl)
  · have h := z_f h c
    refine lv_aload_n hx hb dX9_readPart_9 rfl (lv_at hl 0 rfl) ?_
    refine lv_bipush (v := 32) hx hb dX9_readPart_10 (by decide) ?_
    obtain ⟨z9, ez9, h⟩ := z_bd h
    refine xj_v (xrV (As := [.int (32 : Int32)]) (rest := []) ⟨hx, hb, hml, hown, hts⟩ (m_X9_openBracket l dC dI _ h_me q_me k_me o_me (32 : Int32) z9 ez9) kw1555 kw1552 kw1554 kw63 kw120 hd_X9_openBracket ⟨rfl, rfl⟩ rfl rfl ⟨rfl, rfl⟩ hX hK hw [0] (by decide) rfl rfl rfl rfl rfl hl.1 rfl rfl dX9_readPart_12) hw hA [0] (by decide) rfl rfl (fun H locs hw => ?_)
    have hw : Wd dC dI A s.heap [wX9 h_me q_me k_me z9] H locs := hw
    refine lv_iconst (v := 1) hx hb dX9_readPart_15 (by decide) ?_
    have hy := Option.some.inj h
    rw [← hQz, ← hy]
    exact xr_i (v := (1 : Int32)) hx hb hr rfl hlk hK hw dX9_readPart_16

def f_X9_readPlain (o_me : Ob) : Option (Int32 × Ob) :=
  (f_X9_isWord o_me (14836 : Int64)).bind fun z1 =>
  if z1 = (0 : Int32) then
  ((f_X9_isSign o_me (40 : Int32)).bind fun z2 =>
  if z2 = (0 : Int32) then
  ((f_X9_readPart o_me).bind fun z3 =>
  some (z3.1, z3.2))
  else
  ((f_X9_openBracket o_me (31 : Int32)).bind fun z4 =>
  some ((0 : Int32), z4)))
  else
  ((f_X9_push o_me (28 : Int32) (0 : Int32)).bind fun z5 =>
  (f_X9_next z5).bind fun z6 =>
  some ((0 : Int32), z6))
set_option maxHeartbeats 4000000 in
set_option maxRecDepth 100000 in
theorem m_X9_readPlain (l : Launch) (dC : Nat → ClassId) (dI : Nat → Nat → Nat) (sz : Nat) (h_me : Nat) (q_me : Nat → Nat) (k_me : Nat → ClassId) (o_me : Ob) (y : Int32 × Ob) (h : f_X9_readPlain o_me = some y) : CI l yX9_readPlain cX9_readPlain 1 (some .int) ({ frames := 5, cells := 0, slots := 0, locals := 109 } : Room) dC dI sz [.ref h_me] [wX9 h_me q_me k_me o_me] [tX9 k_me] y.1 [wX9 h_me q_me k_me y.2] := by
  refine CC_of (by decide) (Nat.le_of_ble_eq_true rfl) ?_
  intro p e s m below meth c A ls hx hb hml hr hlk hnm hown hts hX hK hP hD hA hl
  have hl : lv_has ls 1 [(0, .ref h_me)] := hl
  have hown : s.vm.findClass RX9 = some m.cls := hown
  have hw : Wd dC dI A s.heap [wX9 h_me q_me k_me o_me] s.heap [] := ⟨hP, hD, va_S.rf⟩
  generalize hQz : (MQ below (QI dC dI (fun r (_ : Unit) => r = y.1) (fun _ => Jn [wX9 h_me q_me k_me y.2]) (fun _ => Jt [tX9 k_me]) A) ([.ref h_me] : List Value).toArray s 0 0 A) = Qz
  clear hP hD hnm
  unfold f_X9_readPlain at h
  refine lv_aload_n hx hb dX9_readPlain_0 rfl (lv_at hl 0 rfl) ?_
  refine lv_ldc2 (v := 14836) hx hb hown (hts _ kw1543) dX9_readPlain_1 ?_
  obtain ⟨z1, ez1, h⟩ := z_bd h
  refine xj_i (xrV (As := [.long (14836 : Int64)]) (rest := []) ⟨hx, hb, hml, hown, hts⟩ (m_X9_isWord l dC dI _ h_me q_me k_me o_me (14836 : Int64) z1 ez1) kw1530 kw1527 kw1529 kw57 kw120 hd_X9_isWord ⟨rfl, rfl⟩ rfl rfl ⟨rfl, rfl⟩ hX hK hw [0] (by decide) rfl rfl rfl rfl rfl hl.1 rfl rfl dX9_readPlain_4) hw hA [0] (by decide) rfl rfl (fun H locs hw => ?_)
  have hw : Wd dC dI A s.heap [wX9 h_me q_me k_me o_me] H locs := hw
  refine lv_if_eq (tgt := 23) hx hb dX9_readPlain_7 (by decide) (fun c => ?_) (fun c => ?_)
  · have h := z_t h c
    refine lv_aload_n hx hb dX9_readPlain_23 rfl (lv_at hl 0 rfl) ?_
    refine lv_bipush (v := 40) hx hb dX9_readPlain_24 (by decide) ?_
    obtain ⟨z2, ez2, h⟩ := z_bd h
    refine xj_i (xrV (As := [.int (40 : Int32)]) (rest := []) ⟨hx, hb, hml, hown, hts⟩ (m_X9_isSign l dC dI _ h_me q_me k_me o_me (40 : Int32) z2 ez2) kw1551 kw1548 kw1550 kw62 kw120 hd_X9_isSign ⟨rfl, rfl⟩ rfl rfl ⟨rfl, rfl⟩ hX hK hw [0] (by decide) rfl rfl rfl rfl rfl hl.1 rfl rfl dX9_readPlain_26) hw hA [0] (by decide) rfl rfl (fun H locs hw => ?_)
    have hw : Wd dC dI A s.heap [wX9 h_me q_me k_me o_me] H locs := hw
    refine lv_if_eq (tgt := 40) hx hb dX9_readPlain_29 (by decide) (fun c => ?_) (fun c => ?_)
    · have h := z_t h c
      refine lv_aload_n hx hb dX9_readPlain_40 rfl (lv_at hl 0 rfl) ?_
      obtain ⟨z3, ez3, h⟩ := z_bd h
      refine xj_i (xrV (As := []) (rest := []) ⟨hx, hb, hml, hown, hts⟩ (m_X9_readPart l dC dI _ h_me q_me k_me o_me z3 ez3) kw1559 kw1556 kw1558 kw64 kw120 hd_X9_readPart ⟨rfl, rfl⟩ rfl rfl ⟨rfl, rfl⟩ hX hK hw [0] (by decide) rfl rfl rfl rfl rfl hl.1 rfl rfl dX9_readPlain_41) hw hA [0] (by decide) rfl rfl (fun H locs hw => ?_)
      have hw : Wd dC dI A s.heap [wX9 h_me q_me k_me z3.2] H locs := hw
      have hy := Option.some.inj h
      rw [← hQz, ← hy]
      exact xr_i (v := z3.1) hx hb hr rfl hlk hK hw dX9_readPlain_44
    · have h := z_f h c
      refine lv_aload_n hx hb dX9_readPlain_32 rfl (lv_at hl 0 rfl) ?_
      refine lv_bipush (v := 31) hx hb dX9_readPlain_33 (by decide) ?_
      obtain ⟨z4, ez4, h⟩ := z_bd h
      refine xj_v (xrV (As := [.int (31 : Int32)]) (rest := []) ⟨hx, hb, hml, hown, hts⟩ (m_X9_openBracket l dC dI _ h_me q_me k_me o_me (31 : Int32) z4 ez4) kw1555 kw1552 kw1554 kw63 kw120 hd_X9_openBracket ⟨rfl, rfl⟩ rfl rfl ⟨rfl, rfl⟩ hX hK hw [0] (by decide) rfl rfl rfl rfl rfl hl.1 rfl rfl dX9_readPlain_35) hw hA [0] (by decide) rfl rfl (fun H locs hw => ?_)
      have hw : Wd dC dI A s.heap [wX9 h_me q_me k_me z4] H locs := hw
      refine lv_iconst (v := 0) hx hb dX9_readPlain_38 (by decide) ?_
      have hy := Option.some.inj h
      rw [← hQz, ← hy]
      exact xr_i (v := (0 : Int32)) hx hb hr rfl hlk hK hw dX9_readPlain_39
  · have h := z_f h c
    refine lv_aload_n hx hb dX9_readPlain_10 rfl (lv_at hl 0 rfl) ?_
    refine lv_bipush (v := 28) hx hb dX9_readPlain_11 (by decide) ?_
    refine lv_iconst (v := 0) hx hb dX9_readPlain_13 (by decide) ?_
    obtain ⟨z5, ez5, h⟩ := z_bd h
    refine xj_v (xrV (As := [.int (28 : Int32), .int (0 : Int32)]) (rest := []) ⟨hx, hb, hml, hown, hts⟩ (m_X9_push l dC dI _ h_me q_me k_me o_me (28 : Int32) (0 : Int32) z5 ez5) kw1547 kw1544 kw1546 kw61 kw120 hd_X9_push ⟨rfl, rfl⟩ rfl rfl ⟨rfl, rfl⟩ hX hK hw [0] (by decide) rfl rfl rfl rfl rfl hl.1 rfl rfl dX9_readPlain_14) hw hA [0] (by decide) rfl rfl (fun H locs hw => ?_)
    have hw : Wd dC dI A s.heap [wX9 h_me q_me k_me z5] H locs := hw
    refine lv_aload_n hx hb dX9_readPlain_17 rfl (lv_at hl 0 rfl) ?_
    obtain ⟨z6, ez6, h⟩ := z_bd h
    refine xj_v (xrV (As := []) (rest := []) ⟨hx, hb, hml, hown, hts⟩ (m_X9_next l dC dI _ h_me q_me k_me z5 z6 ez6) kw1512 kw1509 kw1511 kw55 kw120 hd_X9_next ⟨rfl, rfl⟩ rfl rfl ⟨rfl, rfl⟩ hX hK hw [0] (by decide) rfl rfl rfl rfl rfl hl.1 rfl rfl dX9_readPlain_18) hw hA [0] (by decide) rfl rfl (fun H locs hw => ?_)
    have hw : Wd dC dI A s.heap [wX9 h_me q_me k_me z6] H locs := hw
    refine lv_iconst (v := 0) hx hb dX9_readPlain_21 (by decide) ?_
    have hy := Option.some.inj h
    rw [← hQz, ← hy]
    exact xr_i (v := (0 : Int32)) hx hb hr rfl hlk hK hw dX9_readPlain_22

def bk_X9_readExpression_76   (o_me : Ob) : Option (Ob) :=
  (f_X9_settle o_me (1 : Int32)).bind fun z3 =>
  some z3
def bk_X9_readExpression_72  (rec_20_1 : Int32 × Int32 × Ob → Option (Ob)) (v1 : Int32) (s0 : Int32) (o_me : Ob) : Option (Ob) :=
  rec_20_1 (v1, s0, o_me)
def lb_X9_readExpression_20   (rec_20_1 : Int32 × Int32 × Ob → Option (Ob)) (v1 : Int32) (v2 : Int32) (o_me : Ob) : Option (Ob) :=
  if (gI o_me 19) = (0 : Int32) then
  (if v2 = (4 : Int32) then
  (bk_X9_readExpression_76   o_me)
  else
  (if v2 = (0 : Int32) then
  ((f_X9_readPlain o_me).bind fun z7 =>
  bk_X9_readExpression_72  rec_20_1 v1 z7.1 z7.2)
  else
  (if v2 = (1 : Int32) then
  ((f_X9_readPart o_me).bind fun z6 =>
  bk_X9_readExpression_72  rec_20_1 v1 z6.1 z6.2)
  else
  (if v2 = (3 : Int32) then
  ((f_X9_behindSum o_me v1).bind fun z5 =>
  bk_X9_readExpression_72  rec_20_1 v1 z5.1 z5.2)
  else
  ((f_X9_behindTest o_me).bind fun z4 =>
  bk_X9_readExpression_72  rec_20_1 v1 z4.1 z4.2)))))
  else
  (bk_X9_readExpression_76   o_me)
def lp_X9_readExpression_20   : Nat → (Int32 × Int32 × Ob) → Option (Ob) := zit (fun rec a => lb_X9_readExpression_20   rec a.1 a.2.1 a.2.2)
def bk_X9_readExpression_19   (v1 : Int32) (s0 : Int32) (o_me : Ob) : Option (Ob) :=
  lp_X9_readExpression_20   zfu (v1, s0, o_me)
def f_X9_readExpression (o_me : Ob) (p0 : Int32) : Option (Ob) :=
  zlt (sI o_me 29 (0 : Int32)) fun o1 =>
  zlt (sI o1 30 (0 : Int32)) fun o2 =>
  if p0 = (0 : Int32) then
  (bk_X9_readExpression_19   p0 (1 : Int32) o2)
  else
  (bk_X9_readExpression_19   p0 (0 : Int32) o2)
set_option maxHeartbeats 4000000 in
set_option maxRecDepth 100000 in
theorem m_X9_readExpression (l : Launch) (dC : Nat → ClassId) (dI : Nat → Nat → Nat) (sz : Nat) (h_me : Nat) (q_me : Nat → Nat) (k_me : Nat → ClassId) (o_me : Ob) (p0 : Int32) (y : Ob) (h : f_X9_readExpression o_me p0 = some y) : CV l yX9_readExpression cX9_readExpression 3 none ({ frames := 6, cells := 0, slots := 0, locals := 129 } : Room) dC dI sz [.ref h_me, .int p0] [wX9 h_me q_me k_me o_me] [tX9 k_me] [wX9 h_me q_me k_me y] := by
  refine CC_of (by decide) (Nat.le_of_ble_eq_true rfl) ?_
  intro p e s m below meth c A ls hx hb hml hr hlk hnm hown hts hX hK hP hD hA hl
  have hl : lv_has ls 3 [(0, .ref h_me), (1, .int p0)] := hl
  have hown : s.vm.findClass RX9 = some m.cls := hown
  have hw : Wd dC dI A s.heap [wX9 h_me q_me k_me o_me] s.heap [] := ⟨hP, hD, va_S.rf⟩
  generalize hQz : (MQ below (QV dC dI (fun (_ : Unit) => True) (fun _ => Jn [wX9 h_me q_me k_me y]) (fun _ => Jt [tX9 k_me]) A) ([.ref h_me, .int p0] : List Value).toArray s 0 0 A) = Qz
  clear hP hD hnm
  have bk_76_2 : ∀ (o_me : Ob) (H : Heap) (locs : List Loc) (ls : Array Slot), bk_X9_readExpression_76   o_me = some y → Wd dC dI A s.heap [wX9 h_me q_me k_me o_me] H locs → lv_has ls 3 [(0, .ref h_me)] → W p l e ({ frames := 6, cells := 0, slots := 0, locals := 129 } : Room) s m ([.ref h_me, .int p0] : List Value).toArray below meth c H locs 0 0 Qz (F0 m 76 ls []) := by
    intro o_me H locs ls h hw hl
    unfold bk_X9_readExpression_76 at h
    refine lv_aload_n hx hb dX9_readExpression_76 rfl (lv_at hl 0 rfl) ?_
    refine lv_iconst (v := 1) hx hb dX9_readExpression_77 (by decide) ?_
    obtain ⟨z3, ez3, h⟩ := z_bd h
    refine xj_v (xrV (As := [.int (1 : Int32)]) (rest := []) ⟨hx, hb, hml, hown, hts⟩ (m_X9_settle l dC dI _ h_me q_me k_me o_me (1 : Int32) z3 ez3) kw1592 kw1589 kw1591 kw71 kw120 hd_X9_settle ⟨rfl, rfl⟩ rfl rfl ⟨rfl, rfl⟩ hX hK hw [0] (by decide) rfl rfl rfl rfl rfl hl.1 rfl rfl dX9_readExpression_78) hw hA [0] (by decide) rfl rfl (fun H locs hw => ?_)
    have hw : Wd dC dI A s.heap [wX9 h_me q_me k_me z3] H locs := hw
    have hy := Option.some.inj h
    rw [← hQz, ← hy]
    exact xr_v hx hb hr hlk hK hw dX9_readExpression_81
  have bk_72_3 : ∀ (rec_20_1 : Int32 × Int32 × Ob → Option (Ob)) (hrec_20_1 : ∀ (v1 : Int32) (v2 : Int32) (o_me : Ob) (H : Heap) (locs : List Loc) (ls : Array Slot), rec_20_1 (v1, v2, o_me) = some y → Wd dC dI A s.heap [wX9 h_me q_me k_me o_me] H locs → lv_has ls 3 [(0, .ref h_me), (1, .int v1), (2, .int v2)] → W p l e ({ frames := 6, cells := 0, slots := 0, locals := 129 } : Room) s m ([.ref h_me, .int p0] : List Value).toArray below meth c H locs 0 0 Qz (F0 m 20 ls [])), ∀ (v1 : Int32) (s0 : Int32) (o_me : Ob) (H : Heap) (locs : List Loc) (ls : Array Slot), bk_X9_readExpression_72  rec_20_1 v1 s0 o_me = some y → Wd dC dI A s.heap [wX9 h_me q_me k_me o_me] H locs → lv_has ls 3 [(0, .ref h_me), (1, .int v1)] → W p l e ({ frames := 6, cells := 0, slots := 0, locals := 129 } : Room) s m ([.ref h_me, .int p0] : List Value).toArray below meth c H locs 0 0 Qz (F0 m 72 ls [.int s0]) := by
    intro rec_20_1 hrec_20_1
    intro v1 s0 o_me H locs ls h hw hl
    unfold bk_X9_readExpression_72 at h
    refine lv_istore_n (lv' := [(2, .int s0), (0, .ref h_me), (1, .int v1)]) hx hb dX9_readExpression_72 rfl hl (by decide) rfl (fun ls hl => ?_)
    refine lv_goto (tgt := 20) hx hb dX9_readExpression_73 (by decide) ?_
    exact hrec_20_1 v1 s0 o_me _ _ _ h hw (lv_sub hl [1, 2, 0] rfl)
  have lp_20_1 : ∀ (N : Nat), ∀ (v1 : Int32) (v2 : Int32) (o_me : Ob) (H : Heap) (locs : List Loc) (ls : Array Slot), lp_X9_readExpression_20   N (v1, v2, o_me) = some y → Wd dC dI A s.heap [wX9 h_me q_me k_me o_me] H locs → lv_has ls 3 [(0, .ref h_me), (1, .int v1), (2, .int v2)] → W p l e ({ frames := 6, cells := 0, slots := 0, locals := 129 } : Room) s m ([.ref h_me, .int p0] : List Value).toArray below meth c H locs 0 0 Qz (F0 m 20 ls []) := by
    intro N
    induction N with
    | zero =>
      intro v1 v2 o_me H locs ls h hw hl
      exact absurd (show (none : Option (Ob)) = some y from h) (by simp)
    | succ N ih =>
      intro v1 v2 o_me H locs ls h hw hl
      have h : lb_X9_readExpression_20   (lp_X9_readExpression_20   N) v1 v2 o_me = some y := h
      unfold lb_X9_readExpression_20 at h
      refine lv_aload_n hx hb dX9_readExpression_20 rfl (lv_at hl 0 rfl) ?_
      refine fgX9_19 hx hb hts hown hK hw 0 rfl kw1195 dX9_readExpression_21 ?_
      refine lv_if_ne (tgt := 76) hx hb dX9_readExpression_24 (by decide) (fun c => ?_) (fun c => ?_)
      · have h := z_f h c
        exact bk_76_2  o_me _ _ _ h hw (lv_sub hl [0] rfl)
      · have h := z_t h c
        refine lv_iload_n hx hb dX9_readExpression_27 rfl (lv_at hl 2 rfl) ?_
        refine lv_iconst (v := 4) hx hb dX9_readExpression_28 (by decide) ?_
        refine lv_icmp_eq (tgt := 76) hx hb dX9_readExpression_29 (by decide) (fun c => ?_) (fun c => ?_)
        · have h := z_t h c
          exact bk_76_2  o_me _ _ _ h hw (lv_sub hl [0] rfl)
        · have h := z_f h c
          refine lv_iload_n hx hb dX9_readExpression_32 rfl (lv_at hl 2 rfl) ?_
          refine lv_if_ne (tgt := 43) hx hb dX9_readExpression_33 (by decide) (fun c => ?_) (fun c => ?_)
          · have h := z_f h c
            refine lv_iload_n hx hb dX9_readExpression_43 rfl (lv_at hl 2 rfl) ?_
            refine lv_iconst (v := 1) hx hb dX9_readExpression_44 (by decide) ?_
            refine lv_icmp_ne (tgt := 55) hx hb dX9_readExpression_45 (by decide) (fun c => ?_) (fun c => ?_)
            · have h := z_f h c
              refine lv_iload_n hx hb dX9_readExpression_55 rfl (lv_at hl 2 rfl) ?_
              refine lv_iconst (v := 3) hx hb dX9_readExpression_56 (by decide) ?_
              refine lv_icmp_ne (tgt := 68) hx hb dX9_readExpression_57 (by decide) (fun c => ?_) (fun c => ?_)
              · have h := z_f h c
                refine lv_aload_n hx hb dX9_readExpression_68 rfl (lv_at hl 0 rfl) ?_
                obtain ⟨z4, ez4, h⟩ := z_bd h
                refine xj_i (xrV (As := []) (rest := []) ⟨hx, hb, hml, hown, hts⟩ (m_X9_behindTest l dC dI _ h_me q_me k_me o_me z4 ez4) kw1608 kw1605 kw1607 kw74 kw120 hd_X9_behindTest ⟨rfl, rfl⟩ rfl rfl ⟨rfl, rfl⟩ hX hK hw [0] (by decide) rfl rfl rfl rfl rfl hl.1 rfl rfl dX9_readExpression_69) hw hA [0] (by decide) rfl rfl (fun H locs hw => ?_)
                have hw : Wd dC dI A s.heap [wX9 h_me q_me k_me z4.2] H locs := hw
                exact bk_72_3 (lp_X9_readExpression_20   N) ih v1 z4.1 z4.2 _ _ _ h hw (lv_sub hl [0, 1] rfl)
              · have h := z_t h c
                refine lv_aload_n hx hb dX9_readExpression_60 rfl (lv_at hl 0 rfl) ?_
                refine lv_iload_n hx hb dX9_readExpression_61 rfl (lv_at hl 1 rfl) ?_
                obtain ⟨z5, ez5, h⟩ := z_bd h
                refine xj_i (xrV (As := [.int v1]) (rest := []) ⟨hx, hb, hml, hown, hts⟩ (m_X9_behindSum l dC dI _ h_me q_me k_me o_me v1 z5 ez5) kw1585 kw1582 kw1584 kw70 kw120 hd_X9_behindSum ⟨rfl, rfl⟩ rfl rfl ⟨rfl, rfl⟩ hX hK hw [0] (by decide) rfl rfl rfl rfl rfl hl.1 rfl rfl dX9_readExpression_62) hw hA [0] (by decide) rfl rfl (fun H locs hw => ?_)
                have hw : Wd dC dI A s.heap [wX9 h_me q_me k_me z5.2] H locs := hw
                refine lv_goto (tgt := 72) hx hb dX9_readExpression_65 (by decide) ?_
                exact bk_72_3 (lp_X9_readExpression_20   N) ih v1 z5.1 z5.2 _ _ _ h hw (lv_sub hl [0, 1] rfl)
            · have h := z_t h c
              refine lv_aload_n hx hb dX9_readExpression_48 rfl (lv_at hl 0 rfl) ?_
              obtain ⟨z6, ez6, h⟩ := z_bd h
              refine xj_i (xrV (As := []) (rest := []) ⟨hx, hb, hml, hown, hts⟩ (m_X9_readPart l dC dI _ h_me q_me k_me o_me z6 ez6) kw1559 kw1556 kw1558 kw64 kw120 hd_X9_readPart ⟨rfl, rfl⟩ rfl rfl ⟨rfl, rfl⟩ hX hK hw [0] (by decide) rfl rfl rfl rfl rfl hl.1 rfl rfl dX9_readExpression_49) hw hA [0] (by decide) rfl rfl (fun H locs hw => ?_)
              have hw : Wd dC dI A s.heap [wX9 h_me q_me k_me z6.2] H locs := hw
              refine lv_goto (tgt := 72) hx hb dX9_readExpression_52 (by decide) ?_
              exact bk_72_3 (lp_X9_readExpression_20   N) ih v1 z6.1 z6.2 _ _ _ h hw (lv_sub hl [0, 1] rfl)
          · have h := z_t h c
            refine lv_aload_n hx hb dX9_readExpression_36 rfl (lv_at hl 0 rfl) ?_
            obtain ⟨z7, ez7, h⟩ := z_bd h
            refine xj_i (xrV (As := []) (rest := []) ⟨hx, hb, hml, hown, hts⟩ (m_X9_readPlain l dC dI _ h_me q_me k_me o_me z7 ez7) kw1542 kw1539 kw1541 kw60 kw120 hd_X9_readPlain ⟨rfl, rfl⟩ rfl rfl ⟨rfl, rfl⟩ hX hK hw [0] (by decide) rfl rfl rfl rfl rfl hl.1 rfl rfl dX9_readExpression_37) hw hA [0] (by decide) rfl rfl (fun H locs hw => ?_)
            have hw : Wd dC dI A s.heap [wX9 h_me q_me k_me z7.2] H locs := hw
            refine lv_goto (tgt := 72) hx hb dX9_readExpression_40 (by decide) ?_
            exact bk_72_3 (lp_X9_readExpression_20   N) ih v1 z7.1 z7.2 _ _ _ h hw (lv_sub hl [0, 1] rfl)
  have bk_19_0 : ∀ (v1 : Int32) (s0 : Int32) (o_me : Ob) (H : Heap) (locs : List Loc) (ls : Array Slot), bk_X9_readExpression_19   v1 s0 o_me = some y → Wd dC dI A s.heap [wX9 h_me q_me k_me o_me] H locs → lv_has ls 3 [(0, .ref h_me), (1, .int v1)] → W p l e ({ frames := 6, cells := 0, slots := 0, locals := 129 } : Room) s m ([.ref h_me, .int p0] : List Value).toArray below meth c H locs 0 0 Qz (F0 m 19 ls [.int s0]) := by
    intro v1 s0 o_me H locs ls h hw hl
    unfold bk_X9_readExpression_19 at h
    refine lv_istore_n (lv' := [(2, .int s0), (0, .ref h_me), (1, .int v1)]) hx hb dX9_readExpression_19 rfl hl (by decide) rfl (fun ls hl => ?_)
    exact lp_20_1  zfu v1 s0 o_me _ _ _ h hw (lv_sub hl [1, 2, 0] rfl)
  unfold f_X9_readExpression at h
  refine lv_aload_n hx hb dX9_readExpression_0 rfl (lv_at hl 0 rfl) ?_
  refine lv_iconst (v := 0) hx hb dX9_readExpression_1 (by decide) ?_
  refine fpX9_29 hx hb hts hown hK hw 0 rfl kw1205 dX9_readExpression_2 (fun H locs hw => ?_)
  obtain ⟨o1, eo1, h⟩ := z_lt h
  have hw : Wd dC dI A s.heap [wX9 h_me q_me k_me o1] H locs := by rw [eo1]; exact hw
  refine lv_aload_n hx hb dX9_readExpression_5 rfl (lv_at hl 0 rfl) ?_
  refine lv_iconst (v := 0) hx hb dX9_readExpression_6 (by decide) ?_
  refine fpX9_30 hx hb hts hown hK hw 0 rfl kw1206 dX9_readExpression_7 (fun H locs hw => ?_)
  obtain ⟨o2, eo2, h⟩ := z_lt h
  have hw : Wd dC dI A s.heap [wX9 h_me q_me k_me o2] H locs := by rw [eo2]; exact hw
  refine lv_iload_n hx hb dX9_readExpression_10 rfl (lv_at hl 1 rfl) ?_
  refine lv_if_eq (tgt := 18) hx hb dX9_readExpression_11 (by decide) (fun c => ?_) (fun c => ?_)
  · have h := z_t h c
    refine lv_iconst (v := 1) hx hb dX9_readExpression_18 (by decide) ?_
    exact bk_19_0  p0 (1 : Int32) o2 _ _ _ h hw (lv_sub hl [0, 1] rfl)
  · have h := z_f h c
    refine lv_iconst (v := 0) hx hb dX9_readExpression_14 (by decide) ?_
    refine lv_goto (tgt := 19) hx hb dX9_readExpression_15 (by decide) ?_
    exact bk_19_0  p0 (0 : Int32) o2 _ _ _ h hw (lv_sub hl [0, 1] rfl)

def bk_X9_readLaw_185   (v2 : Int32) (o_me : Ob) : Option (Ob) :=
  zgd (zin (v2 + (6 : Int32)) 96) <|
  zlt (tA o_me 22 (v2 + (6 : Int32)).toNatClampNeg (gI o_me 23)) fun o13 =>
  some o13
def bk_X9_readLaw_135   (v2 : Int32) (o_me : Ob) : Option (Ob) :=
  zgd (zin (v2 + (4 : Int32)) 96) <|
  zlt (tA o_me 22 (v2 + (4 : Int32)).toNatClampNeg (gI o_me 23)) fun o9 =>
  zgd (zin (v2 + (5 : Int32)) 96) <|
  zlt (tA o9 22 (v2 + (5 : Int32)).toNatClampNeg (gI o9 23)) fun o11 =>
  if (gI o11 19) = (0 : Int32) then
  ((f_X9_isWord o11 (294 : Int64)).bind fun z14 =>
  if z14 = (0 : Int32) then
  (bk_X9_readLaw_185   v2 o11)
  else
  ((f_X9_next o11).bind fun z15 =>
  (f_X9_readExpression z15 (1 : Int32)).bind fun z16 =>
  bk_X9_readLaw_185   v2 z16))
  else
  (bk_X9_readLaw_185   v2 o11)
def lb_X9_readLaw_75   (rec_75_3 : Int32 × Int32 × Int32 × Ob → Option (Ob)) (v1 : Int32) (v2 : Int32) (v3 : Int32) (o_me : Ob) : Option (Ob) :=
  if (8 : Int32) ≤ v3 then
  (zgd (zin v2 96) <|
  zlt (tA o_me 22 v2.toNatClampNeg v1) fun o4 =>
  zlt (sI o4 21 ((gI o4 21) + (1 : Int32))) fun o5 =>
  zgd (zin (v2 + (3 : Int32)) 96) <|
  zlt (tA o5 22 (v2 + (3 : Int32)).toNatClampNeg (gI o5 23)) fun o7 =>
  if v1 = (3 : Int32) then
  (bk_X9_readLaw_135   v2 o7)
  else
  ((f_X9_readExpression o7 (0 : Int32)).bind fun z17 =>
  bk_X9_readLaw_135   v2 z17))
  else
  (zgd (zin (v2 + v3) 96) <|
  zlt (tA o_me 22 (v2 + v3).toNatClampNeg (0 : Int32)) fun o19 =>
  zlt (v3 + (1 : Int32)) fun x20 =>
  rec_75_3 (v1, v2, x20, o19))
def lp_X9_readLaw_75   : Nat → (Int32 × Int32 × Int32 × Ob) → Option (Ob) := zit (fun rec a => lb_X9_readLaw_75   rec a.1 a.2.1 a.2.2.1 a.2.2.2)
def bk_X9_readLaw_54   (v1 : Int32) (s0 : Int32) (o_me : Ob) : Option (Ob) :=
  (f_X9_must o_me s0).bind fun z1 =>
  if (gI z1 19) = (0 : Int32) then
  (zlt ((8 : Int32) * (gI z1 21)) fun x2 =>
  lp_X9_readLaw_75   zfu (v1, x2, (0 : Int32), z1))
  else
  (some z1)
def bk_X9_readLaw_53   (v1 : Int32) (o_me : Ob) : Option (Ob) :=
  bk_X9_readLaw_54   v1 (0 : Int32) o_me
def bk_X9_readLaw_27  (rec_4_0 : Int32 × Int32 × Ob → Option (Ob)) (v2 : Int32) (s0 : Int32) (o_me : Ob) : Option (Ob) :=
  zlt (v2 + (1 : Int32)) fun x23 =>
  rec_4_0 (s0, x23, o_me)
def lb_X9_readLaw_4   (rec_4_0 : Int32 × Int32 × Ob → Option (Ob)) (v1 : Int32) (v2 : Int32) (o_me : Ob) : Option (Ob) :=
  if (4 : Int32) ≤ v2 then
  (if v1 = (-1 : Int32) then
  (bk_X9_readLaw_53   v1 o_me)
  else
  (if (12 : Int32) ≤ (gI o_me 21) then
  (bk_X9_readLaw_53   v1 o_me)
  else
  (bk_X9_readLaw_54   v1 (1 : Int32) o_me)))
  else
  (zgd (zin v2 4) <|
  (f_X9_isWord o_me (gM o_me 33 v2.toNatClampNeg)).bind fun z22 =>
  if z22 = (0 : Int32) then
  (bk_X9_readLaw_27  rec_4_0 v2 v1 o_me)
  else
  (bk_X9_readLaw_27  rec_4_0 v2 v2 o_me))
def lp_X9_readLaw_4   : Nat → (Int32 × Int32 × Ob) → Option (Ob) := zit (fun rec a => lb_X9_readLaw_4   rec a.1 a.2.1 a.2.2)
def f_X9_readLaw (o_me : Ob) : Option (Ob) :=
  lp_X9_readLaw_4   zfu ((-1 : Int32), (0 : Int32), o_me)
set_option maxHeartbeats 4000000 in
set_option maxRecDepth 100000 in
theorem m_X9_readLaw (l : Launch) (dC : Nat → ClassId) (dI : Nat → Nat → Nat) (sz : Nat) (h_me : Nat) (q_me : Nat → Nat) (k_me : Nat → ClassId) (o_me : Ob) (y : Ob) (h : f_X9_readLaw o_me = some y) : CV l yX9_readLaw cX9_readLaw 4 none ({ frames := 7, cells := 0, slots := 0, locals := 151 } : Room) dC dI sz [.ref h_me] [wX9 h_me q_me k_me o_me] [tX9 k_me] [wX9 h_me q_me k_me y] := by
  refine CC_of (by decide) (Nat.le_of_ble_eq_true rfl) ?_
  intro p e s m below meth c A ls hx hb hml hr hlk hnm hown hts hX hK hP hD hA hl
  have hl : lv_has ls 4 [(0, .ref h_me)] := hl
  have hown : s.vm.findClass RX9 = some m.cls := hown
  have hw : Wd dC dI A s.heap [wX9 h_me q_me k_me o_me] s.heap [] := ⟨hP, hD, va_S.rf⟩
  generalize hQz : (MQ below (QV dC dI (fun (_ : Unit) => True) (fun _ => Jn [wX9 h_me q_me k_me y]) (fun _ => Jt [tX9 k_me]) A) ([.ref h_me] : List Value).toArray s 0 0 A) = Qz
  clear hP hD hnm
  have bk_185_5 : ∀ (v2 : Int32) (o_me : Ob) (H : Heap) (locs : List Loc) (ls : Array Slot), bk_X9_readLaw_185   v2 o_me = some y → Wd dC dI A s.heap [wX9 h_me q_me k_me o_me] H locs → lv_has ls 4 [(0, .ref h_me), (2, .int v2)] → W p l e ({ frames := 7, cells := 0, slots := 0, locals := 151 } : Room) s m ([.ref h_me] : List Value).toArray below meth c H locs 0 0 Qz (F0 m 185 ls []) := by
    intro v2 o_me H locs ls h hw hl
    unfold bk_X9_readLaw_185 at h
    refine lv_aload_n hx hb dX9_readLaw_185 rfl (lv_at hl 0 rfl) ?_
    refine fgX9_22 hx hb hts hown hK hw 0 rfl kw1198 dX9_readLaw_186 ?_
    refine lv_iload_n hx hb dX9_readLaw_189 rfl (lv_at hl 1 rfl) ?_
    refine lv_bipush (v := 6) hx hb dX9_readLaw_190 (by decide) ?_
    refine lv_iadd hx hb dX9_readLaw_192 ?_
    refine lv_aload_n hx hb dX9_readLaw_193 rfl (lv_at hl 0 rfl) ?_
    refine fgX9_23 hx hb hts hown hK hw 0 rfl kw1199 dX9_readLaw_194 ?_
    obtain ⟨g12, h⟩ := z_gd h
    refine fbX9_22 hx hb hK hw 0 rfl rfl g12 dX9_readLaw_197 (fun H locs hw => ?_)
    obtain ⟨o13, eo13, h⟩ := z_lt h
    have hw : Wd dC dI A s.heap [wX9 h_me q_me k_me o13] H locs := by rw [eo13]; exact hw
    have hy := Option.some.inj h
    rw [← hQz, ← hy]
    exact xr_v hx hb hr hlk hK hw dX9_readLaw_198
  have bk_135_4 : ∀ (v2 : Int32) (o_me : Ob) (H : Heap) (locs : List Loc) (ls : Array Slot), bk_X9_readLaw_135   v2 o_me = some y → Wd dC dI A s.heap [wX9 h_me q_me k_me o_me] H locs → lv_has ls 4 [(0, .ref h_me), (2, .int v2)] → W p l e ({ frames := 7, cells := 0, slots := 0, locals := 151 } : Room) s m ([.ref h_me] : List Value).toArray below meth c H locs 0 0 Qz (F0 m 135 ls []) := by
    intro v2 o_me H locs ls h hw hl
    unfold bk_X9_readLaw_135 at h
    refine lv_aload_n hx hb dX9_readLaw_135 rfl (lv_at hl 0 rfl) ?_
    refine fgX9_22 hx hb hts hown hK hw 0 rfl kw1198 dX9_readLaw_136 ?_
    refine lv_iload_n hx hb dX9_readLaw_139 rfl (lv_at hl 1 rfl) ?_
    refine lv_iconst (v := 4) hx hb dX9_readLaw_140 (by decide) ?_
    refine lv_iadd hx hb dX9_readLaw_141 ?_
    refine lv_aload_n hx hb dX9_readLaw_142 rfl (lv_at hl 0 rfl) ?_
    refine fgX9_23 hx hb hts hown hK hw 0 rfl kw1199 dX9_readLaw_143 ?_
    obtain ⟨g8, h⟩ := z_gd h
    refine fbX9_22 hx hb hK hw 0 rfl rfl g8 dX9_readLaw_146 (fun H locs hw => ?_)
    obtain ⟨o9, eo9, h⟩ := z_lt h
    have hw : Wd dC dI A s.heap [wX9 h_me q_me k_me o9] H locs := by rw [eo9]; exact hw
    refine lv_aload_n hx hb dX9_readLaw_147 rfl (lv_at hl 0 rfl) ?_
    refine fgX9_22 hx hb hts hown hK hw 0 rfl kw1198 dX9_readLaw_148 ?_
    refine lv_iload_n hx hb dX9_readLaw_151 rfl (lv_at hl 1 rfl) ?_
    refine lv_iconst (v := 5) hx hb dX9_readLaw_152 (by decide) ?_
    refine lv_iadd hx hb dX9_readLaw_153 ?_
    refine lv_aload_n hx hb dX9_readLaw_154 rfl (lv_at hl 0 rfl) ?_
    refine fgX9_23 hx hb hts hown hK hw 0 rfl kw1199 dX9_readLaw_155 ?_
    obtain ⟨g10, h⟩ := z_gd h
    refine fbX9_22 hx hb hK hw 0 rfl rfl g10 dX9_readLaw_158 (fun H locs hw => ?_)
    obtain ⟨o11, eo11, h⟩ := z_lt h
    have hw : Wd dC dI A s.heap [wX9 h_me q_me k_me o11] H locs := by rw [eo11]; exact hw
    refine lv_aload_n hx hb dX9_readLaw_159 rfl (lv_at hl 0 rfl) ?_
    refine fgX9_19 hx hb hts hown hK hw 0 rfl kw1195 dX9_readLaw_160 ?_
    refine lv_if_ne (tgt := 185) hx hb dX9_readLaw_163 (by decide) (fun c => ?_) (fun c => ?_)
    · have h := z_f h c
      exact bk_185_5  v2 o11 _ _ _ h hw (lv_sub hl [0, 1] rfl)
    · have h := z_t h c
      refine lv_aload_n hx hb dX9_readLaw_166 rfl (lv_at hl 0 rfl) ?_
      refine lv_ldc2 (v := 294) hx hb hown (hts _ kw1611) dX9_readLaw_167 ?_
      obtain ⟨z14, ez14, h⟩ := z_bd h
      refine xj_i (xrV (As := [.long (294 : Int64)]) (rest := []) ⟨hx, hb, hml, hown, hts⟩ (m_X9_isWord l dC dI _ h_me q_me k_me o11 (294 : Int64) z14 ez14) kw1530 kw1527 kw1529 kw57 kw120 hd_X9_isWord ⟨rfl, rfl⟩ rfl rfl ⟨rfl, rfl⟩ hX hK hw [0] (by decide) rfl rfl rfl rfl rfl hl.1 rfl rfl dX9_readLaw_170) hw hA [0] (by decide) rfl rfl (fun H locs hw => ?_)
      have hw : Wd dC dI A s.heap [wX9 h_me q_me k_me o11] H locs := hw
      refine lv_if_eq (tgt := 185) hx hb dX9_readLaw_173 (by decide) (fun c => ?_) (fun c => ?_)
      · have h := z_t h c
        exact bk_185_5  v2 o11 _ _ _ h hw (lv_sub hl [0, 1] rfl)
      · have h := z_f h c
        refine lv_aload_n hx hb dX9_readLaw_176 rfl (lv_at hl 0 rfl) ?_
        obtain ⟨z15, ez15, h⟩ := z_bd h
        refine xj_v (xrV (As := []) (rest := []) ⟨hx, hb, hml, hown, hts⟩ (m_X9_next l dC dI _ h_me q_me k_me o11 z15 ez15) kw1512 kw1509 kw1511 kw55 kw120 hd_X9_next ⟨rfl, rfl⟩ rfl rfl ⟨rfl, rfl⟩ hX hK hw [0] (by decide) rfl rfl rfl rfl rfl hl.1 rfl rfl dX9_readLaw_177) hw hA [0] (by decide) rfl rfl (fun H locs hw => ?_)
        have hw : Wd dC dI A s.heap [wX9 h_me q_me k_me z15] H locs := hw
        refine lv_aload_n hx hb dX9_readLaw_180 rfl (lv_at hl 0 rfl) ?_
        refine lv_iconst (v := 1) hx hb dX9_readLaw_181 (by decide) ?_
        obtain ⟨z16, ez16, h⟩ := z_bd h
        refine xj_v (xrV (As := [.int (1 : Int32)]) (rest := []) ⟨hx, hb, hml, hown, hts⟩ (m_X9_readExpression l dC dI _ h_me q_me k_me z15 (1 : Int32) z16 ez16) kw1538 kw1535 kw1537 kw59 kw120 hd_X9_readExpression ⟨rfl, rfl⟩ rfl rfl ⟨rfl, rfl⟩ hX hK hw [0] (by decide) rfl rfl rfl rfl rfl hl.1 rfl rfl dX9_readLaw_182) hw hA [0] (by decide) rfl rfl (fun H locs hw => ?_)
        have hw : Wd dC dI A s.heap [wX9 h_me q_me k_me z16] H locs := hw
        exact bk_185_5  v2 z16 _ _ _ h hw (lv_sub hl [0, 1] rfl)
  have lp_75_3 : ∀ (N : Nat), ∀ (v1 : Int32) (v2 : Int32) (v3 : Int32) (o_me : Ob) (H : Heap) (locs : List Loc) (ls : Array Slot), lp_X9_readLaw_75   N (v1, v2, v3, o_me) = some y → Wd dC dI A s.heap [wX9 h_me q_me k_me o_me] H locs → lv_has ls 4 [(0, .ref h_me), (1, .int v1), (2, .int v2), (3, .int v3)] → W p l e ({ frames := 7, cells := 0, slots := 0, locals := 151 } : Room) s m ([.ref h_me] : List Value).toArray below meth c H locs 0 0 Qz (F0 m 75 ls []) := by
    intro N
    induction N with
    | zero =>
      intro v1 v2 v3 o_me H locs ls h hw hl
      exact absurd (show (none : Option (Ob)) = some y from h) (by simp)
    | succ N ih =>
      intro v1 v2 v3 o_me H locs ls h hw hl
      have h : lb_X9_readLaw_75   (lp_X9_readLaw_75   N) v1 v2 v3 o_me = some y := h
      unfold lb_X9_readLaw_75 at h
      refine lv_iload_n hx hb dX9_readLaw_75 rfl (lv_at hl 3 rfl) ?_
      refine lv_bipush (v := 8) hx hb dX9_readLaw_76 (by decide) ?_
      refine lv_icmp_ge (tgt := 96) hx hb dX9_readLaw_78 (by decide) (fun c => ?_) (fun c => ?_)
      · have h := z_t h c
        refine lv_aload_n hx hb dX9_readLaw_96 rfl (lv_at hl 0 rfl) ?_
        refine fgX9_22 hx hb hts hown hK hw 0 rfl kw1198 dX9_readLaw_97 ?_
        refine lv_iload_n hx hb dX9_readLaw_100 rfl (lv_at hl 2 rfl) ?_
        refine lv_iload_n hx hb dX9_readLaw_101 rfl (lv_at hl 1 rfl) ?_
        obtain ⟨g3, h⟩ := z_gd h
        refine fbX9_22 hx hb hK hw 0 rfl rfl g3 dX9_readLaw_102 (fun H locs hw => ?_)
        obtain ⟨o4, eo4, h⟩ := z_lt h
        have hw : Wd dC dI A s.heap [wX9 h_me q_me k_me o4] H locs := by rw [eo4]; exact hw
        refine lv_aload_n hx hb dX9_readLaw_103 rfl (lv_at hl 0 rfl) ?_
        refine lv_dup hx hb dX9_readLaw_104 rfl ?_
        refine fgX9_21 hx hb hts hown hK hw 0 rfl kw1197 dX9_readLaw_105 ?_
        refine lv_iconst (v := 1) hx hb dX9_readLaw_108 (by decide) ?_
        refine lv_iadd hx hb dX9_readLaw_109 ?_
        refine fpX9_21 hx hb hts hown hK hw 0 rfl kw1197 dX9_readLaw_110 (fun H locs hw => ?_)
        obtain ⟨o5, eo5, h⟩ := z_lt h
        have hw : Wd dC dI A s.heap [wX9 h_me q_me k_me o5] H locs := by rw [eo5]; exact hw
        refine lv_aload_n hx hb dX9_readLaw_113 rfl (lv_at hl 0 rfl) ?_
        refine fgX9_22 hx hb hts hown hK hw 0 rfl kw1198 dX9_readLaw_114 ?_
        refine lv_iload_n hx hb dX9_readLaw_117 rfl (lv_at hl 2 rfl) ?_
        refine lv_iconst (v := 3) hx hb dX9_readLaw_118 (by decide) ?_
        refine lv_iadd hx hb dX9_readLaw_119 ?_
        refine lv_aload_n hx hb dX9_readLaw_120 rfl (lv_at hl 0 rfl) ?_
        refine fgX9_23 hx hb hts hown hK hw 0 rfl kw1199 dX9_readLaw_121 ?_
        obtain ⟨g6, h⟩ := z_gd h
        refine fbX9_22 hx hb hK hw 0 rfl rfl g6 dX9_readLaw_124 (fun H locs hw => ?_)
        obtain ⟨o7, eo7, h⟩ := z_lt h
        have hw : Wd dC dI A s.heap [wX9 h_me q_me k_me o7] H locs := by rw [eo7]; exact hw
        refine lv_iload_n hx hb dX9_readLaw_125 rfl (lv_at hl 1 rfl) ?_
        refine lv_iconst (v := 3) hx hb dX9_readLaw_126 (by decide) ?_
        refine lv_icmp_eq (tgt := 135) hx hb dX9_readLaw_127 (by decide) (fun c => ?_) (fun c => ?_)
        · have h := z_t h c
          exact bk_135_4  v2 o7 _ _ _ h hw (lv_sub hl [0, 2] rfl)
        · have h := z_f h c
          refine lv_aload_n hx hb dX9_readLaw_130 rfl (lv_at hl 0 rfl) ?_
          refine lv_iconst (v := 0) hx hb dX9_readLaw_131 (by decide) ?_
          obtain ⟨z17, ez17, h⟩ := z_bd h
          refine xj_v (xrV (As := [.int (0 : Int32)]) (rest := []) ⟨hx, hb, hml, hown, hts⟩ (m_X9_readExpression l dC dI _ h_me q_me k_me o7 (0 : Int32) z17 ez17) kw1538 kw1535 kw1537 kw59 kw120 hd_X9_readExpression ⟨rfl, rfl⟩ rfl rfl ⟨rfl, rfl⟩ hX hK hw [0] (by decide) rfl rfl rfl rfl rfl hl.1 rfl rfl dX9_readLaw_132) hw hA [0] (by decide) rfl rfl (fun H locs hw => ?_)
          have hw : Wd dC dI A s.heap [wX9 h_me q_me k_me z17] H locs := hw
          exact bk_135_4  v2 z17 _ _ _ h hw (lv_sub hl [0, 2] rfl)
      · have h := z_f h c
        refine lv_aload_n hx hb dX9_readLaw_81 rfl (lv_at hl 0 rfl) ?_
        refine fgX9_22 hx hb hts hown hK hw 0 rfl kw1198 dX9_readLaw_82 ?_
        refine lv_iload_n hx hb dX9_readLaw_85 rfl (lv_at hl 2 rfl) ?_
        refine lv_iload_n hx hb dX9_readLaw_86 rfl (lv_at hl 3 rfl) ?_
        refine lv_iadd hx hb dX9_readLaw_87 ?_
        refine lv_iconst (v := 0) hx hb dX9_readLaw_88 (by decide) ?_
        obtain ⟨g18, h⟩ := z_gd h
        refine fbX9_22 hx hb hK hw 0 rfl rfl g18 dX9_readLaw_89 (fun H locs hw => ?_)
        obtain ⟨o19, eo19, h⟩ := z_lt h
        have hw : Wd dC dI A s.heap [wX9 h_me q_me k_me o19] H locs := by rw [eo19]; exact hw
        obtain ⟨x20, ex20, h⟩ := z_lt h
        refine lv_iinc (v := x20) (lv' := [(3, .int x20), (0, .ref h_me), (1, .int v1), (2, .int v2)]) hx hb dX9_readLaw_90 hl (k := 3) rfl ((congrArg (v3 + ·) (show Int32.ofInt 1 = (1 : Int32) from by decide)).trans ex20.symm) (by decide) rfl (fun ls hl => ?_)
        refine lv_goto (tgt := 75) hx hb dX9_readLaw_93 (by decide) ?_
        exact ih v1 v2 x20 o19 _ _ _ h hw (lv_sub hl [1, 2, 3, 0] rfl)
  have bk_54_2 : ∀ (v1 : Int32) (s0 : Int32) (o_me : Ob) (H : Heap) (locs : List Loc) (ls : Array Slot), bk_X9_readLaw_54   v1 s0 o_me = some y → Wd dC dI A s.heap [wX9 h_me q_me k_me o_me] H locs → lv_has ls 4 [(0, .ref h_me), (1, .int v1)] → W p l e ({ frames := 7, cells := 0, slots := 0, locals := 151 } : Room) s m ([.ref h_me] : List Value).toArray below meth c H locs 0 0 Qz (F0 m 54 ls [.int s0, .ref h_me]) := by
    intro v1 s0 o_me H locs ls h hw hl
    unfold bk_X9_readLaw_54 at h
    obtain ⟨z1, ez1, h⟩ := z_bd h
    refine xj_v (xrV (As := [.int s0]) (rest := []) ⟨hx, hb, hml, hown, hts⟩ (m_X9_must l dC dI _ h_me q_me k_me o_me s0 z1 ez1) kw1534 kw1531 kw1533 kw58 kw120 hd_X9_must ⟨rfl, rfl⟩ rfl rfl ⟨rfl, rfl⟩ hX hK hw [0] (by decide) rfl rfl rfl rfl rfl hl.1 rfl rfl dX9_readLaw_54) hw hA [0] (by decide) rfl rfl (fun H locs hw => ?_)
    have hw : Wd dC dI A s.heap [wX9 h_me q_me k_me z1] H locs := hw
    refine lv_aload_n hx hb dX9_readLaw_57 rfl (lv_at hl 0 rfl) ?_
    refine fgX9_19 hx hb hts hown hK hw 0 rfl kw1195 dX9_readLaw_58 ?_
    refine lv_if_eq (tgt := 65) hx hb dX9_readLaw_61 (by decide) (fun c => ?_) (fun c => ?_)
    · have h := z_t h c
      refine lv_bipush (v := 8) hx hb dX9_readLaw_65 (by decide) ?_
      refine lv_aload_n hx hb dX9_readLaw_67 rfl (lv_at hl 0 rfl) ?_
      refine fgX9_21 hx hb hts hown hK hw 0 rfl kw1197 dX9_readLaw_68 ?_
      refine lv_imul hx hb dX9_readLaw_71 ?_
      obtain ⟨x2, ex2, h⟩ := z_lt h
      refine lv_fi (v := x2) ex2.symm ?_
      refine lv_istore_n (lv' := [(2, .int x2), (0, .ref h_me), (1, .int v1)]) hx hb dX9_readLaw_72 rfl hl (by decide) rfl (fun ls hl => ?_)
      refine lv_iconst (v := 0) hx hb dX9_readLaw_73 (by decide) ?_
      refine lv_istore_n (lv' := [(3, .int (0 : Int32)), (2, .int x2), (0, .ref h_me), (1, .int v1)]) hx hb dX9_readLaw_74 rfl hl (by decide) rfl (fun ls hl => ?_)
      exact lp_75_3  zfu v1 x2 (0 : Int32) z1 _ _ _ h hw (lv_sub hl [2, 3, 1, 0] rfl)
    · have h := z_f h c
      have hy := Option.some.inj h
      rw [← hQz, ← hy]
      exact xr_v hx hb hr hlk hK hw dX9_readLaw_64
  have bk_53_1 : ∀ (v1 : Int32) (o_me : Ob) (H : Heap) (locs : List Loc) (ls : Array Slot), bk_X9_readLaw_53   v1 o_me = some y → Wd dC dI A s.heap [wX9 h_me q_me k_me o_me] H locs → lv_has ls 4 [(0, .ref h_me), (1, .int v1)] → W p l e ({ frames := 7, cells := 0, slots := 0, locals := 151 } : Room) s m ([.ref h_me] : List Value).toArray below meth c H locs 0 0 Qz (F0 m 53 ls [.ref h_me]) := by
    intro v1 o_me H locs ls h hw hl
    unfold bk_X9_readLaw_53 at h
    refine lv_iconst (v := 0) hx hb dX9_readLaw_53 (by decide) ?_
    exact bk_54_2  v1 (0 : Int32) o_me _ _ _ h hw (lv_sub hl [0, 1] rfl)
  have bk_27_6 : ∀ (rec_4_0 : Int32 × Int32 × Ob → Option (Ob)) (hrec_4_0 : ∀ (v1 : Int32) (v2 : Int32) (o_me : Ob) (H : Heap) (locs : List Loc) (ls : Array Slot), rec_4_0 (v1, v2, o_me) = some y → Wd dC dI A s.heap [wX9 h_me q_me k_me o_me] H locs → lv_has ls 4 [(0, .ref h_me), (1, .int v1), (2, .int v2)] → W p l e ({ frames := 7, cells := 0, slots := 0, locals := 151 } : Room) s m ([.ref h_me] : List Value).toArray below meth c H locs 0 0 Qz (F0 m 4 ls [])), ∀ (v2 : Int32) (s0 : Int32) (o_me : Ob) (H : Heap) (locs : List Loc) (ls : Array Slot), bk_X9_readLaw_27  rec_4_0 v2 s0 o_me = some y → Wd dC dI A s.heap [wX9 h_me q_me k_me o_me] H locs → lv_has ls 4 [(0, .ref h_me), (2, .int v2)] → W p l e ({ frames := 7, cells := 0, slots := 0, locals := 151 } : Room) s m ([.ref h_me] : List Value).toArray below meth c H locs 0 0 Qz (F0 m 27 ls [.int s0]) := by
    intro rec_4_0 hrec_4_0
    intro v2 s0 o_me H locs ls h hw hl
    unfold bk_X9_readLaw_27 at h
    refine lv_istore_n (lv' := [(1, .int s0), (0, .ref h_me), (2, .int v2)]) hx hb dX9_readLaw_27 rfl hl (by decide) rfl (fun ls hl => ?_)
    obtain ⟨x23, ex23, h⟩ := z_lt h
    refine lv_iinc (v := x23) (lv' := [(2, .int x23), (1, .int s0), (0, .ref h_me)]) hx hb dX9_readLaw_28 hl (k := 2) rfl ((congrArg (v2 + ·) (show Int32.ofInt 1 = (1 : Int32) from by decide)).trans ex23.symm) (by decide) rfl (fun ls hl => ?_)
    refine lv_goto (tgt := 4) hx hb dX9_readLaw_31 (by decide) ?_
    exact hrec_4_0 s0 x23 o_me _ _ _ h hw (lv_sub hl [2, 1, 0] rfl)
  have lp_4_0 : ∀ (N : Nat), ∀ (v1 : Int32) (v2 : Int32) (o_me : Ob) (H : Heap) (locs : List Loc) (ls : Array Slot), lp_X9_readLaw_4   N (v1, v2, o_me) = some y → Wd dC dI A s.heap [wX9 h_me q_me k_me o_me] H locs → lv_has ls 4 [(0, .ref h_me), (1, .int v1), (2, .int v2)] → W p l e ({ frames := 7, cells := 0, slots := 0, locals := 151 } : Room) s m ([.ref h_me] : List Value).toArray below meth c H locs 0 0 Qz (F0 m 4 ls []) := by
    intro N
    induction N with
    | zero =>
      intro v1 v2 o_me H locs ls h hw hl
      exact absurd (show (none : Option (Ob)) = some y from h) (by simp)
    | succ N ih =>
      intro v1 v2 o_me H locs ls h hw hl
      have h : lb_X9_readLaw_4   (lp_X9_readLaw_4   N) v1 v2 o_me = some y := h
      unfold lb_X9_readLaw_4 at h
      refine lv_iload_n hx hb dX9_readLaw_4 rfl (lv_at hl 2 rfl) ?_
      refine lv_iconst (v := 4) hx hb dX9_readLaw_5 (by decide) ?_
      refine lv_icmp_ge (tgt := 34) hx hb dX9_readLaw_6 (by decide) (fun c => ?_) (fun c => ?_)
      · have h := z_t h c
        refine lv_aload_n hx hb dX9_readLaw_34 rfl (lv_at hl 0 rfl) ?_
        refine lv_iload_n hx hb dX9_readLaw_35 rfl (lv_at hl 1 rfl) ?_
        refine lv_iconst (v := (-1)) hx hb dX9_readLaw_36 (by decide) ?_
        refine lv_icmp_eq (tgt := 53) hx hb dX9_readLaw_37 (by decide) (fun c => ?_) (fun c => ?_)
        · have h := z_t h c
          exact bk_53_1  v1 o_me _ _ _ h hw (lv_sub hl [0, 1] rfl)
        · have h := z_f h c
          refine lv_aload_n hx hb dX9_readLaw_40 rfl (lv_at hl 0 rfl) ?_
          refine fgX9_21 hx hb hts hown hK hw 0 rfl kw1197 dX9_readLaw_41 ?_
          refine lv_bipush (v := 12) hx hb dX9_readLaw_44 (by decide) ?_
          refine lv_icmp_ge (tgt := 53) hx hb dX9_readLaw_46 (by decide) (fun c => ?_) (fun c => ?_)
          · have h := z_t h c
            exact bk_53_1  v1 o_me _ _ _ h hw (lv_sub hl [0, 1] rfl)
          · have h := z_f h c
            refine lv_iconst (v := 1) hx hb dX9_readLaw_49 (by decide) ?_
            refine lv_goto (tgt := 54) hx hb dX9_readLaw_50 (by decide) ?_
            exact bk_54_2  v1 (1 : Int32) o_me _ _ _ h hw (lv_sub hl [0, 1] rfl)
      · have h := z_f h c
        refine lv_aload_n hx hb dX9_readLaw_9 rfl (lv_at hl 0 rfl) ?_
        refine lv_aload_n hx hb dX9_readLaw_10 rfl (lv_at hl 0 rfl) ?_
        refine fgX9_33 hx hb hts hown hK hw 0 rfl kw1209 dX9_readLaw_11 ?_
        refine lv_iload_n hx hb dX9_readLaw_14 rfl (lv_at hl 2 rfl) ?_
        obtain ⟨g21, h⟩ := z_gd h
        refine faX9_33 hx hb hK hw 0 rfl rfl g21 dX9_readLaw_15 ?_
        obtain ⟨z22, ez22, h⟩ := z_bd h
        refine xj_i (xrV (As := [.long (gM o_me 33 v2.toNatClampNeg)]) (rest := []) ⟨hx, hb, hml, hown, hts⟩ (m_X9_isWord l dC dI _ h_me q_me k_me o_me (gM o_me 33 v2.toNatClampNeg) z22 ez22) kw1530 kw1527 kw1529 kw57 kw120 hd_X9_isWord ⟨rfl, rfl⟩ rfl rfl ⟨rfl, rfl⟩ hX hK hw [0] (by decide) rfl rfl rfl rfl rfl hl.1 rfl rfl dX9_readLaw_16) hw hA [0] (by decide) rfl rfl (fun H locs hw => ?_)
        have hw : Wd dC dI A s.heap [wX9 h_me q_me k_me o_me] H locs := hw
        refine lv_if_eq (tgt := 26) hx hb dX9_readLaw_19 (by decide) (fun c => ?_) (fun c => ?_)
        · have h := z_t h c
          refine lv_iload_n hx hb dX9_readLaw_26 rfl (lv_at hl 1 rfl) ?_
          exact bk_27_6 (lp_X9_readLaw_4   N) ih v2 v1 o_me _ _ _ h hw (lv_sub hl [0, 2] rfl)
        · have h := z_f h c
          refine lv_iload_n hx hb dX9_readLaw_22 rfl (lv_at hl 2 rfl) ?_
          refine lv_goto (tgt := 27) hx hb dX9_readLaw_23 (by decide) ?_
          exact bk_27_6 (lp_X9_readLaw_4   N) ih v2 v2 o_me _ _ _ h hw (lv_sub hl [0, 2] rfl)
  unfold f_X9_readLaw at h
  refine lv_iconst (v := (-1)) hx hb dX9_readLaw_0 (by decide) ?_
  refine lv_istore_n (lv' := [(1, .int (-1 : Int32)), (0, .ref h_me)]) hx hb dX9_readLaw_1 rfl hl (by decide) rfl (fun ls hl => ?_)
  refine lv_iconst (v := 0) hx hb dX9_readLaw_2 (by decide) ?_
  refine lv_istore_n (lv' := [(2, .int (0 : Int32)), (1, .int (-1 : Int32)), (0, .ref h_me)]) hx hb dX9_readLaw_3 rfl hl (by decide) rfl (fun ls hl => ?_)
  exact lp_4_0  zfu (-1 : Int32) (0 : Int32) o_me _ _ _ h hw (lv_sub hl [2, 1, 0] rfl)

