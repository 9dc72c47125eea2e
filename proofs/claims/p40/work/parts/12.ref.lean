def f_X9_forget (o_me : Ob) : Option (Int32 × Ob) :=
  zlt (sI o_me 0 (0 : Int32)) fun o1 =>
  zlt (gA o1 3 (1 : Int32).toNatClampNeg) fun x2 =>
  zlt (tA o1 3 (1 : Int32).toNatClampNeg (0 : Int32)) fun o3 =>
  some (x2, o3)
set_option maxHeartbeats 4000000 in
set_option maxRecDepth 100000 in
theorem m_X9_forget (l : Launch) (dC : Nat → ClassId) (dI : Nat → Nat → Nat) (sz : Nat) (h_me : Nat) (q_me : Nat → Nat) (k_me : Nat → ClassId) (o_me : Ob) (y : Int32 × Ob) (h : f_X9_forget o_me = some y) : CI l yX9_forget cX9_forget 2 (some .int) ({ frames := 0, cells := 0, slots := 0, locals := 0 } : Room) dC dI sz [.ref h_me] [wX9 h_me q_me k_me o_me] [tX9 k_me] y.1 [wX9 h_me q_me k_me y.2] := by
  refine CC_of (by decide) (Nat.le_of_ble_eq_true rfl) ?_
  intro p e s m below meth c A ls hx hb hml hr hlk hnm hown hts hX hK hP hD hA hl
  have hl : lv_has ls 2 [(0, .ref h_me)] := hl
  have hown : s.vm.findClass RX9 = some m.cls := hown
  have hw : Wd dC dI A s.heap [wX9 h_me q_me k_me o_me] s.heap [] := ⟨hP, hD, va_S.rf⟩
  generalize hQz : (MQ below (QI dC dI (fun r (_ : Unit) => r = y.1) (fun _ => Jn [wX9 h_me q_me k_me y.2]) (fun _ => Jt [tX9 k_me]) A) ([.ref h_me] : List Value).toArray s 0 0 A) = Qz
  clear hP hD hnm
  unfold f_X9_forget at h
  refine lv_aload_n hx hb dX9_forget_0 rfl (lv_at hl 0 rfl) ?_
  refine lv_iconst (v := 0) hx hb dX9_forget_1 (by decide) ?_
  refine fpX9_0 hx hb hts hown hK hw 0 rfl kw1176 dX9_forget_2 (fun H locs hw => ?_)
  obtain ⟨o1, eo1, h⟩ := z_lt h
  have hw : Wd dC dI A s.heap [wX9 h_me q_me k_me o1] H locs := by rw [eo1]; exact hw
  refine lv_aload_n hx hb dX9_forget_5 rfl (lv_at hl 0 rfl) ?_
  refine fgX9_3 hx hb hts hown hK hw 0 rfl kw1179 dX9_forget_6 ?_
  refine lv_iconst (v := 1) hx hb dX9_forget_9 (by decide) ?_
  refine faX9_3 hx hb hK hw 0 rfl rfl (by decide) dX9_forget_10 ?_
  obtain ⟨x2, ex2, h⟩ := z_lt h
  refine lv_fi (v := x2) ex2.symm ?_
  refine lv_istore_n (lv' := [(1, .int x2), (0, .ref h_me)]) hx hb dX9_forget_11 rfl hl (by decide) rfl (fun ls hl => ?_)
  refine lv_aload_n hx hb dX9_forget_12 rfl (lv_at hl 1 rfl) ?_
  refine fgX9_3 hx hb hts hown hK hw 0 rfl kw1179 dX9_forget_13 ?_
  refine lv_iconst (v := 1) hx hb dX9_forget_16 (by decide) ?_
  refine lv_iconst (v := 0) hx hb dX9_forget_17 (by decide) ?_
  refine fbX9_3 hx hb hK hw 0 rfl rfl (by decide) dX9_forget_18 (fun H locs hw => ?_)
  obtain ⟨o3, eo3, h⟩ := z_lt h
  have hw : Wd dC dI A s.heap [wX9 h_me q_me k_me o3] H locs := by rw [eo3]; exact hw
  refine lv_iload_n hx hb dX9_forget_19 rfl (lv_at hl 0 rfl) ?_
  have hy := Option.some.inj h
  rw [← hQz, ← hy]
  exact xr_i (v := x2) hx hb hr rfl hlk hK hw dX9_forget_20

def lb_X9_giveBack_35   (rec_35_1 : Int32 × Int32 × Ob → Option (Ob)) (v1 : Int32) (v2 : Int32) (o_me : Ob) : Option (Ob) :=
  if (16 : Int32) ≤ v2 then
  (zlt (sI o_me 8 v1) fun o2 =>
  some o2)
  else
  (zgd (zin v2 16) <|
  zgd (zin v2 16) <|
  zlt (tA o_me 7 v2.toNatClampNeg (gA o_me 10 v2.toNatClampNeg)) fun o5 =>
  zlt (v2 + (1 : Int32)) fun x6 =>
  rec_35_1 (v1, x6, o5))
def lp_X9_giveBack_35   : Nat → (Int32 × Int32 × Ob) → Option (Ob) := zit (fun rec a => lb_X9_giveBack_35   rec a.1 a.2.1 a.2.2)
def lb_X9_giveBack_8   (rec_8_0 : Int32 × Int32 × Ob → Option (Ob)) (v1 : Int32) (v2 : Int32) (o_me : Ob) : Option (Ob) :=
  if (400 : Int32) ≤ v2 then
  (lp_X9_giveBack_35   zfu (v1, (0 : Int32), o_me))
  else
  (zgd (zin v2 400) <|
  zgd (zin v2 450) <|
  zlt (tA o_me 6 v2.toNatClampNeg (gA o_me 9 v2.toNatClampNeg)) fun o9 =>
  zlt (v2 + (1 : Int32)) fun x10 =>
  rec_8_0 (v1, x10, o9))
def lp_X9_giveBack_8   : Nat → (Int32 × Int32 × Ob) → Option (Ob) := zit (fun rec a => lb_X9_giveBack_8   rec a.1 a.2.1 a.2.2)
def f_X9_giveBack (o_me : Ob) (p0 : Int32) : Option (Ob) :=
  (f_X9_putBack o_me (17 : Int32)).bind fun z1 =>
  lp_X9_giveBack_8   zfu (p0, (0 : Int32), z1)
set_option maxHeartbeats 4000000 in
set_option maxRecDepth 100000 in
theorem m_X9_giveBack (l : Launch) (dC : Nat → ClassId) (dI : Nat → Nat → Nat) (sz : Nat) (h_me : Nat) (q_me : Nat → Nat) (k_me : Nat → ClassId) (o_me : Ob) (p0 : Int32) (y : Ob) (h : f_X9_giveBack o_me p0 = some y) : CV l yX9_giveBack cX9_giveBack 3 none ({ frames := 1, cells := 0, slots := 0, locals := 22 } : Room) dC dI sz [.ref h_me, .int p0] [wX9 h_me q_me k_me o_me] [tX9 k_me] [wX9 h_me q_me k_me y] := by
  refine CC_of (by decide) (Nat.le_of_ble_eq_true rfl) ?_
  intro p e s m below meth c A ls hx hb hml hr hlk hnm hown hts hX hK hP hD hA hl
  have hl : lv_has ls 3 [(0, .ref h_me), (1, .int p0)] := hl
  have hown : s.vm.findClass RX9 = some m.cls := hown
  have hw : Wd dC dI A s.heap [wX9 h_me q_me k_me o_me] s.heap [] := ⟨hP, hD, va_S.rf⟩
  generalize hQz : (MQ below (QV dC dI (fun (_ : Unit) => True) (fun _ => Jn [wX9 h_me q_me k_me y]) (fun _ => Jt [tX9 k_me]) A) ([.ref h_me, .int p0] : List Value).toArray s 0 0 A) = Qz
  clear hP hD hnm
  have lp_35_1 : ∀ (N : Nat), ∀ (v1 : Int32) (v2 : Int32) (o_me : Ob) (H : Heap) (locs : List Loc) (ls : Array Slot), lp_X9_giveBack_35   N (v1, v2, o_me) = some y → Wd dC dI A s.heap [wX9 h_me q_me k_me o_me] H locs → lv_has ls 3 [(0, .ref h_me), (1, .int v1), (2, .int v2)] → W p l e ({ frames := 1, cells := 0, slots := 0, locals := 22 } : Room) s m ([.ref h_me, .int p0] : List Value).toArray below meth c H locs 0 0 Qz (F0 m 35 ls []) := by
    intro N
    induction N with
    | zero =>
      intro v1 v2 o_me H locs ls h hw hl
      exact absurd (show (none : Option (Ob)) = some y from h) (by simp)
    | succ N ih =>
      intro v1 v2 o_me H locs ls h hw hl
      have h : lb_X9_giveBack_35   (lp_X9_giveBack_35   N) v1 v2 o_me = some y := h
      unfold lb_X9_giveBack_35 at h
      refine lv_iload_n hx hb dX9_giveBack_35 rfl (lv_at hl 2 rfl) ?_
      refine lv_bipush (v := 16) hx hb dX9_giveBack_36 (by decide) ?_
      refine lv_icmp_ge (tgt := 59) hx hb dX9_giveBack_38 (by decide) (fun c => ?_) (fun c => ?_)
      · have h := z_t h c
        refine lv_aload_n hx hb dX9_giveBack_59 rfl (lv_at hl 0 rfl) ?_
        refine lv_iload_n hx hb dX9_giveBack_60 rfl (lv_at hl 1 rfl) ?_
        refine fpX9_8 hx hb hts hown hK hw 0 rfl kw1184 dX9_giveBack_61 (fun H locs hw => ?_)
        obtain ⟨o2, eo2, h⟩ := z_lt h
        have hw : Wd dC dI A s.heap [wX9 h_me q_me k_me o2] H locs := by rw [eo2]; exact hw
        have hy := Option.some.inj h
        rw [← hQz, ← hy]
        exact xr_v hx hb hr hlk hK hw dX9_giveBack_64
      · have h := z_f h c
        refine lv_aload_n hx hb dX9_giveBack_41 rfl (lv_at hl 0 rfl) ?_
        refine fgX9_7 hx hb hts hown hK hw 0 rfl kw1183 dX9_giveBack_42 ?_
        refine lv_iload_n hx hb dX9_giveBack_45 rfl (lv_at hl 2 rfl) ?_
        refine lv_aload_n hx hb dX9_giveBack_46 rfl (lv_at hl 0 rfl) ?_
        refine fgX9_10 hx hb hts hown hK hw 0 rfl kw1186 dX9_giveBack_47 ?_
        refine lv_iload_n hx hb dX9_giveBack_50 rfl (lv_at hl 2 rfl) ?_
        obtain ⟨g3, h⟩ := z_gd h
        refine faX9_10 hx hb hK hw 0 rfl rfl g3 dX9_giveBack_51 ?_
        obtain ⟨g4, h⟩ := z_gd h
        refine fbX9_7 hx hb hK hw 0 rfl rfl g4 dX9_giveBack_52 (fun H locs hw => ?_)
        obtain ⟨o5, eo5, h⟩ := z_lt h
        have hw : Wd dC dI A s.heap [wX9 h_me q_me k_me o5] H locs := by rw [eo5]; exact hw
        obtain ⟨x6, ex6, h⟩ := z_lt h
        refine lv_iinc (v := x6) (lv' := [(2, .int x6), (0, .ref h_me), (1, .int v1)]) hx hb dX9_giveBack_53 hl (k := 2) rfl ((congrArg (v2 + ·) (show Int32.ofInt 1 = (1 : Int32) from by decide)).trans ex6.symm) (by decide) rfl (fun ls hl => ?_)
        refine lv_goto (tgt := 35) hx hb dX9_giveBack_56 (by decide) ?_
        exact ih v1 x6 o5 _ _ _ h hw (lv_sub hl [1, 2, 0] rfl)
  have lp_8_0 : ∀ (N : Nat), ∀ (v1 : Int32) (v2 : Int32) (o_me : Ob) (H : Heap) (locs : List Loc) (ls : Array Slot), lp_X9_giveBack_8   N (v1, v2, o_me) = some y → Wd dC dI A s.heap [wX9 h_me q_me k_me o_me] H locs → lv_has ls 3 [(0, .ref h_me), (1, .int v1), (2, .int v2)] → W p l e ({ frames := 1, cells := 0, slots := 0, locals := 22 } : Room) s m ([.ref h_me, .int p0] : List Value).toArray below meth c H locs 0 0 Qz (F0 m 8 ls []) := by
    intro N
    induction N with
    | zero =>
      intro v1 v2 o_me H locs ls h hw hl
      exact absurd (show (none : Option (Ob)) = some y from h) (by simp)
    | succ N ih =>
      intro v1 v2 o_me H locs ls h hw hl
      have h : lb_X9_giveBack_8   (lp_X9_giveBack_8   N) v1 v2 o_me = some y := h
      unfold lb_X9_giveBack_8 at h
      refine lv_iload_n hx hb dX9_giveBack_8 rfl (lv_at hl 2 rfl) ?_
      refine lv_sipush (v := 400) hx hb dX9_giveBack_9 (by decide) ?_
      refine lv_icmp_ge (tgt := 33) hx hb dX9_giveBack_12 (by decide) (fun c => ?_) (fun c => ?_)
      · have h := z_t h c
        refine lv_iconst (v := 0) hx hb dX9_giveBack_33 (by decide) ?_
        refine lv_istore_n (lv' := [(2, .int (0 : Int32)), (0, .ref h_me), (1, .int v1)]) hx hb dX9_giveBack_34 rfl hl (by decide) rfl (fun ls hl => ?_)
        exact lp_35_1  zfu v1 (0 : Int32) o_me _ _ _ h hw (lv_sub hl [1, 2, 0] rfl)
      · have h := z_f h c
        refine lv_aload_n hx hb dX9_giveBack_15 rfl (lv_at hl 0 rfl) ?_
        refine fgX9_6 hx hb hts hown hK hw 0 rfl kw1182 dX9_giveBack_16 ?_
        refine lv_iload_n hx hb dX9_giveBack_19 rfl (lv_at hl 2 rfl) ?_
        refine lv_aload_n hx hb dX9_giveBack_20 rfl (lv_at hl 0 rfl) ?_
        refine fgX9_9 hx hb hts hown hK hw 0 rfl kw1185 dX9_giveBack_21 ?_
        refine lv_iload_n hx hb dX9_giveBack_24 rfl (lv_at hl 2 rfl) ?_
        obtain ⟨g7, h⟩ := z_gd h
        refine faX9_9 hx hb hK hw 0 rfl rfl g7 dX9_giveBack_25 ?_
        obtain ⟨g8, h⟩ := z_gd h
        refine fbX9_6 hx hb hK hw 0 rfl rfl g8 dX9_giveBack_26 (fun H locs hw => ?_)
        obtain ⟨o9, eo9, h⟩ := z_lt h
        have hw : Wd dC dI A s.heap [wX9 h_me q_me k_me o9] H locs := by rw [eo9]; exact hw
        obtain ⟨x10, ex10, h⟩ := z_lt h
        refine lv_iinc (v := x10) (lv' := [(2, .int x10), (0, .ref h_me), (1, .int v1)]) hx hb dX9_giveBack_27 hl (k := 2) rfl ((congrArg (v2 + ·) (show Int32.ofInt 1 = (1 : Int32) from by decide)).trans ex10.symm) (by decide) rfl (fun ls hl => ?_)
        refine lv_goto (tgt := 8) hx hb dX9_giveBack_30 (by decide) ?_
        exact ih v1 x10 o9 _ _ _ h hw (lv_sub hl [1, 2, 0] rfl)
  unfold f_X9_giveBack at h
  refine lv_aload_n hx hb dX9_giveBack_0 rfl (lv_at hl 0 rfl) ?_
  refine lv_bipush (v := 17) hx hb dX9_giveBack_1 (by decide) ?_
  obtain ⟨z1, ez1, h⟩ := z_bd h
  refine xj_v (xrV (As := [.int (17 : Int32)]) (rest := []) ⟨hx, hb, hml, hown, hts⟩ (m_X9_putBack l dC dI _ h_me q_me k_me o_me (17 : Int32) z1 ez1) kw1378 kw1375 kw1377 kw40 kw120 hd_X9_putBack ⟨rfl, rfl⟩ rfl rfl ⟨rfl, rfl⟩ hX hK hw [0] (by decide) rfl rfl rfl rfl rfl hl.1 rfl rfl dX9_giveBack_3) hw hA [0] (by decide) rfl rfl (fun H locs hw => ?_)
  have hw : Wd dC dI A s.heap [wX9 h_me q_me k_me z1] H locs := hw
  refine lv_iconst (v := 0) hx hb dX9_giveBack_6 (by decide) ?_
  refine lv_istore_n (lv' := [(2, .int (0 : Int32)), (0, .ref h_me), (1, .int p0)]) hx hb dX9_giveBack_7 rfl hl (by decide) rfl (fun ls hl => ?_)
  exact lp_8_0  zfu p0 (0 : Int32) z1 _ _ _ h hw (lv_sub hl [1, 2, 0] rfl)

def bk_X9_layLine_120  (rec_46_1 : Int32 × Int32 × Ob → Option (Int32 × Ob)) (rec_89_3 : Int32 × Int32 × Int32 × Int32 × Ob → Option (Int32 × Ob)) (v1 : Int32) (v2 : Int32) (v3 : Int32) (v4 : Int32) (o_me : Ob) : Option (Int32 × Ob) :=
  zlt (v4 + (-1 : Int32)) fun x8 =>
  rec_89_3 (v1, v2, v3, x8, o_me)
def lb_X9_layLine_89  (rec_46_1 : Int32 × Int32 × Ob → Option (Int32 × Ob)) (rec_89_3 : Int32 × Int32 × Int32 × Int32 × Ob → Option (Int32 × Ob)) (v1 : Int32) (v2 : Int32) (v3 : Int32) (v4 : Int32) (o_me : Ob) : Option (Int32 × Ob) :=
  if v4 ≤ v3 then
  (rec_46_1 (v1, v2, o_me))
  else
  (zgd (zin ((29 : Int32) + v4) 5484) <|
  if (gA o_me 3 ((29 : Int32) + v4).toNatClampNeg) = v3 then
  (zgd (zin v2 14) <|
  zlt (tA o_me 50 v2.toNatClampNeg v4) fun o10 =>
  zlt (v2 + (1 : Int32)) fun x11 =>
  bk_X9_layLine_120  rec_46_1 rec_89_3 v1 x11 v3 v4 o10)
  else
  (bk_X9_layLine_120  rec_46_1 rec_89_3 v1 v2 v3 v4 o_me))
def lp_X9_layLine_89  (rec_46_1 : Int32 × Int32 × Ob → Option (Int32 × Ob)) : Nat → (Int32 × Int32 × Int32 × Int32 × Ob) → Option (Int32 × Ob) := zit (fun rec a => lb_X9_layLine_89  rec_46_1 rec a.1 a.2.1 a.2.2.1 a.2.2.2.1 a.2.2.2.2)
def bk_X9_layLine_79  (rec_46_1 : Int32 × Int32 × Ob → Option (Int32 × Ob)) (v1 : Int32) (v2 : Int32) (v3 : Int32) (o_me : Ob) : Option (Int32 × Ob) :=
  zlt ((gA o_me 3 (0 : Int32).toNatClampNeg) - (1 : Int32)) fun x6 =>
  lp_X9_layLine_89  rec_46_1 zfu (v1, v2, v3, x6, o_me)
def lb_X9_layLine_46   (rec_46_1 : Int32 × Int32 × Ob → Option (Int32 × Ob)) (v1 : Int32) (v2 : Int32) (o_me : Ob) : Option (Int32 × Ob) :=
  if v2 ≤ (0 : Int32) then
  (some (v1, o_me))
  else
  (zlt (v2 + (-1 : Int32)) fun x2 =>
  zgd (zin x2 14) <|
  zlt (gA o_me 50 x2.toNatClampNeg) fun x4 =>
  (f_X9_elder o_me x4).bind fun z5 =>
  if z5 = (1 : Int32) then
  (bk_X9_layLine_79  rec_46_1 v1 x2 x4 o_me)
  else
  (zgd (zin v1 7) <|
  zlt (tA o_me 51 v1.toNatClampNeg x4) fun o13 =>
  zlt (v1 + (1 : Int32)) fun x14 =>
  bk_X9_layLine_79  rec_46_1 x14 x2 x4 o13))
def lp_X9_layLine_46   : Nat → (Int32 × Int32 × Ob) → Option (Int32 × Ob) := zit (fun rec a => lb_X9_layLine_46   rec a.1 a.2.1 a.2.2)
def bk_X9_layLine_40  (rec_13_0 : Int32 × Int32 × Int32 × Ob → Option (Int32 × Ob)) (v1 : Int32) (v2 : Int32) (v3 : Int32) (o_me : Ob) : Option (Int32 × Ob) :=
  zlt (v3 + (-1 : Int32)) fun x16 =>
  rec_13_0 (v1, v2, x16, o_me)
def lb_X9_layLine_13   (rec_13_0 : Int32 × Int32 × Int32 × Ob → Option (Int32 × Ob)) (v1 : Int32) (v2 : Int32) (v3 : Int32) (o_me : Ob) : Option (Int32 × Ob) :=
  if v3 < (0 : Int32) then
  (lp_X9_layLine_46   zfu (v1, v2, o_me))
  else
  (zgd (zin ((29 : Int32) + v3) 5484) <|
  if (gA o_me 3 ((29 : Int32) + v3).toNatClampNeg) = (-1 : Int32) then
  (zgd (zin v2 14) <|
  zlt (tA o_me 50 v2.toNatClampNeg v3) fun o18 =>
  zlt (v2 + (1 : Int32)) fun x19 =>
  bk_X9_layLine_40  rec_13_0 v1 x19 v3 o18)
  else
  (bk_X9_layLine_40  rec_13_0 v1 v2 v3 o_me))
def lp_X9_layLine_13   : Nat → (Int32 × Int32 × Int32 × Ob) → Option (Int32 × Ob) := zit (fun rec a => lb_X9_layLine_13   rec a.1 a.2.1 a.2.2.1 a.2.2.2)
def f_X9_layLine (o_me : Ob) : Option (Int32 × Ob) :=
  zlt ((gA o_me 3 (0 : Int32).toNatClampNeg) - (1 : Int32)) fun x1 =>
  lp_X9_layLine_13   zfu ((0 : Int32), (0 : Int32), x1, o_me)
set_option maxHeartbeats 4000000 in
set_option maxRecDepth 100000 in
theorem m_X9_layLine (l : Launch) (dC : Nat → ClassId) (dI : Nat → Nat → Nat) (sz : Nat) (h_me : Nat) (q_me : Nat → Nat) (k_me : Nat → ClassId) (o_me : Ob) (y : Int32 × Ob) (h : f_X9_layLine o_me = some y) : CI l yX9_layLine cX9_layLine 5 (some .int) ({ frames := 1, cells := 0, slots := 0, locals := 23 } : Room) dC dI sz [.ref h_me] [wX9 h_me q_me k_me o_me] [tX9 k_me] y.1 [wX9 h_me q_me k_me y.2] := by
  refine CC_of (by decide) (Nat.le_of_ble_eq_true rfl) ?_
  intro p e s m below meth c A ls hx hb hml hr hlk hnm hown hts hX hK hP hD hA hl
  have hl : lv_has ls 5 [(0, .ref h_me)] := hl
  have hown : s.vm.findClass RX9 = some m.cls := hown
  have hw : Wd dC dI A s.heap [wX9 h_me q_me k_me o_me] s.heap [] := ⟨hP, hD, va_S.rf⟩
  generalize hQz : (MQ below (QI dC dI (fun r (_ : Unit) => r = y.1) (fun _ => Jn [wX9 h_me q_me k_me y.2]) (fun _ => Jt [tX9 k_me]) A) ([.ref h_me] : List Value).toArray s 0 0 A) = Qz
  clear hP hD hnm
  have bk_120_4 : ∀ (rec_46_1 : Int32 × Int32 × Ob → Option (Int32 × Ob)) (hrec_46_1 : ∀ (v1 : Int32) (v2 : Int32) (o_me : Ob) (H : Heap) (locs : List Loc) (ls : Array Slot), rec_46_1 (v1, v2, o_me) = some y → Wd dC dI A s.heap [wX9 h_me q_me k_me o_me] H locs → lv_has ls 5 [(0, .ref h_me), (1, .int v1), (2, .int v2)] → W p l e ({ frames := 1, cells := 0, slots := 0, locals := 23 } : Room) s m ([.ref h_me] : List Value).toArray below meth c H locs 0 0 Qz (F0 m 46 ls [])) (rec_89_3 : Int32 × Int32 × Int32 × Int32 × Ob → Option (Int32 × Ob)) (hrec_89_3 : ∀ (v1 : Int32) (v2 : Int32) (v3 : Int32) (v4 : Int32) (o_me : Ob) (H : Heap) (locs : List Loc) (ls : Array Slot), rec_89_3 (v1, v2, v3, v4, o_me) = some y → Wd dC dI A s.heap [wX9 h_me q_me k_me o_me] H locs → lv_has ls 5 [(0, .ref h_me), (1, .int v1), (2, .int v2), (3, .int v3), (4, .int v4)] → W p l e ({ frames := 1, cells := 0, slots := 0, locals := 23 } : Room) s m ([.ref h_me] : List Value).toArray below meth c H locs 0 0 Qz (F0 m 89 ls [])), ∀ (v1 : Int32) (v2 : Int32) (v3 : Int32) (v4 : Int32) (o_me : Ob) (H : Heap) (locs : List Loc) (ls : Array Slot), bk_X9_layLine_120  rec_46_1 rec_89_3 v1 v2 v3 v4 o_me = some y → Wd dC dI A s.heap [wX9 h_me q_me k_me o_me] H locs → lv_has ls 5 [(0, .ref h_me), (1, .int v1), (2, .int v2), (3, .int v3), (4, .int v4)] → W p l e ({ frames := 1, cells := 0, slots := 0, locals := 23 } : Room) s m ([.ref h_me] : List Value).toArray below meth c H locs 0 0 Qz (F0 m 120 ls []) := by
    intro rec_46_1 hrec_46_1 rec_89_3 hrec_89_3
    intro v1 v2 v3 v4 o_me H locs ls h hw hl
    unfold bk_X9_layLine_120 at h
    obtain ⟨x8, ex8, h⟩ := z_lt h
    refine lv_iinc (v := x8) (lv' := [(4, .int x8), (0, .ref h_me), (1, .int v1), (2, .int v2), (3, .int v3)]) hx hb dX9_layLine_120 hl (k := 4) rfl ((congrArg (v4 + ·) (show Int32.ofInt (-1) = (-1 : Int32) from by decide)).trans ex8.symm) (by decide) rfl (fun ls hl => ?_)
    refine lv_goto (tgt := 89) hx hb dX9_layLine_123 (by decide) ?_
    exact hrec_89_3 v1 v2 v3 x8 o_me _ _ _ h hw (lv_sub hl [1, 2, 3, 4, 0] rfl)
  have lp_89_3 : ∀ (rec_46_1 : Int32 × Int32 × Ob → Option (Int32 × Ob)) (hrec_46_1 : ∀ (v1 : Int32) (v2 : Int32) (o_me : Ob) (H : Heap) (locs : List Loc) (ls : Array Slot), rec_46_1 (v1, v2, o_me) = some y → Wd dC dI A s.heap [wX9 h_me q_me k_me o_me] H locs → lv_has ls 5 [(0, .ref h_me), (1, .int v1), (2, .int v2)] → W p l e ({ frames := 1, cells := 0, slots := 0, locals := 23 } : Room) s m ([.ref h_me] : List Value).toArray below meth c H locs 0 0 Qz (F0 m 46 ls [])) (N : Nat), ∀ (v1 : Int32) (v2 : Int32) (v3 : Int32) (v4 : Int32) (o_me : Ob) (H : Heap) (locs : List Loc) (ls : Array Slot), lp_X9_layLine_89  rec_46_1 N (v1, v2, v3, v4, o_me) = some y → Wd dC dI A s.heap [wX9 h_me q_me k_me o_me] H locs → lv_has ls 5 [(0, .ref h_me), (1, .int v1), (2, .int v2), (3, .int v3), (4, .int v4)] → W p l e ({ frames := 1, cells := 0, slots := 0, locals := 23 } : Room) s m ([.ref h_me] : List Value).toArray below meth c H locs 0 0 Qz (F0 m 89 ls []) := by
    intro rec_46_1 hrec_46_1
    intro N
    induction N with
    | zero =>
      intro v1 v2 v3 v4 o_me H locs ls h hw hl
      exact absurd (show (none : Option (Int32 × Ob)) = some y from h) (by simp)
    | succ N ih =>
      intro v1 v2 v3 v4 o_me H locs ls h hw hl
      have h : lb_X9_layLine_89  rec_46_1 (lp_X9_layLine_89  rec_46_1 N) v1 v2 v3 v4 o_me = some y := h
      unfold lb_X9_layLine_89 at h
      refine lv_iload hx hb dX9_layLine_89 (lv_at hl 4 rfl) ?_
      refine lv_iload_n hx hb dX9_layLine_91 rfl (lv_at hl 3 rfl) ?_
      refine lv_icmp_le (tgt := 126) hx hb dX9_layLine_92 (by decide) (fun c => ?_) (fun c => ?_)
      · have h := z_t h c
        refine lv_goto (tgt := 46) hx hb dX9_layLine_126 (by decide) ?_
        exact hrec_46_1 v1 v2 o_me _ _ _ h hw (lv_sub hl [0, 1, 2] rfl)
      · have h := z_f h c
        refine lv_aload_n hx hb dX9_layLine_95 rfl (lv_at hl 0 rfl) ?_
        refine fgX9_3 hx hb hts hown hK hw 0 rfl kw1179 dX9_layLine_96 ?_
        refine lv_bipush (v := 29) hx hb dX9_layLine_99 (by decide) ?_
        refine lv_iload hx hb dX9_layLine_101 (lv_at hl 4 rfl) ?_
        refine lv_iadd hx hb dX9_layLine_103 ?_
        obtain ⟨g7, h⟩ := z_gd h
        refine faX9_3 hx hb hK hw 0 rfl rfl g7 dX9_layLine_104 ?_
        refine lv_iload_n hx hb dX9_layLine_105 rfl (lv_at hl 3 rfl) ?_
        refine lv_icmp_ne (tgt := 120) hx hb dX9_layLine_106 (by decide) (fun c => ?_) (fun c => ?_)
        · have h := z_f h c
          exact bk_120_4 rec_46_1 hrec_46_1 (lp_X9_layLine_89  rec_46_1 N) ih v1 v2 v3 v4 o_me _ _ _ h hw (lv_sub hl [0, 1, 2, 3, 4] rfl)
        · have h := z_t h c
          refine lv_aload_n hx hb dX9_layLine_109 rfl (lv_at hl 0 rfl) ?_
          refine fgX9_50 hx hb hts hown hK hw 0 rfl kw1226 dX9_layLine_110 ?_
          refine lv_iload_n hx hb dX9_layLine_113 rfl (lv_at hl 2 rfl) ?_
          refine lv_iload hx hb dX9_layLine_114 (lv_at hl 4 rfl) ?_
          obtain ⟨g9, h⟩ := z_gd h
          refine fbX9_50 hx hb hK hw 0 rfl rfl g9 dX9_layLine_116 (fun H locs hw => ?_)
          obtain ⟨o10, eo10, h⟩ := z_lt h
          have hw : Wd dC dI A s.heap [wX9 h_me q_me k_me o10] H locs := by rw [eo10]; exact hw
          obtain ⟨x11, ex11, h⟩ := z_lt h
          refine lv_iinc (v := x11) (lv' := [(2, .int x11), (0, .ref h_me), (1, .int v1), (3, .int v3), (4, .int v4)]) hx hb dX9_layLine_117 hl (k := 2) rfl ((congrArg (v2 + ·) (show Int32.ofInt 1 = (1 : Int32) from by decide)).trans ex11.symm) (by decide) rfl (fun ls hl => ?_)
          exact bk_120_4 rec_46_1 hrec_46_1 (lp_X9_layLine_89  rec_46_1 N) ih v1 x11 v3 v4 o10 _ _ _ h hw (lv_sub hl [1, 2, 0, 3, 4] rfl)
  have bk_79_2 : ∀ (rec_46_1 : Int32 × Int32 × Ob → Option (Int32 × Ob)) (hrec_46_1 : ∀ (v1 : Int32) (v2 : Int32) (o_me : Ob) (H : Heap) (locs : List Loc) (ls : Array Slot), rec_46_1 (v1, v2, o_me) = some y → Wd dC dI A s.heap [wX9 h_me q_me k_me o_me] H locs → lv_has ls 5 [(0, .ref h_me), (1, .int v1), (2, .int v2)] → W p l e ({ frames := 1, cells := 0, slots := 0, locals := 23 } : Room) s m ([.ref h_me] : List Value).toArray below meth c H locs 0 0 Qz (F0 m 46 ls [])), ∀ (v1 : Int32) (v2 : Int32) (v3 : Int32) (o_me : Ob) (H : Heap) (locs : List Loc) (ls : Array Slot), bk_X9_layLine_79  rec_46_1 v1 v2 v3 o_me = some y → Wd dC dI A s.heap [wX9 h_me q_me k_me o_me] H locs → lv_has ls 5 [(0, .ref h_me), (1, .int v1), (2, .int v2), (3, .int v3)] → W p l e ({ frames := 1, cells := 0, slots := 0, locals := 23 } : Room) s m ([.ref h_me] : List Value).toArray below meth c H locs 0 0 Qz (F0 m 79 ls []) := by
    intro rec_46_1 hrec_46_1
    intro v1 v2 v3 o_me H locs ls h hw hl
    unfold bk_X9_layLine_79 at h
    refine lv_aload_n hx hb dX9_layLine_79 rfl (lv_at hl 0 rfl) ?_
    refine fgX9_3 hx hb hts hown hK hw 0 rfl kw1179 dX9_layLine_80 ?_
    refine lv_iconst (v := 0) hx hb dX9_layLine_83 (by decide) ?_
    refine faX9_3 hx hb hK hw 0 rfl rfl (by decide) dX9_layLine_84 ?_
    refine lv_iconst (v := 1) hx hb dX9_layLine_85 (by decide) ?_
    refine lv_isub hx hb dX9_layLine_86 ?_
    obtain ⟨x6, ex6, h⟩ := z_lt h
    refine lv_fi (v := x6) ex6.symm ?_
    refine lv_istore (lv' := [(4, .int x6), (0, .ref h_me), (1, .int v1), (2, .int v2), (3, .int v3)]) hx hb dX9_layLine_87 hl (by decide) rfl (fun ls hl => ?_)
    exact lp_89_3 rec_46_1 hrec_46_1 zfu v1 v2 v3 x6 o_me _ _ _ h hw (lv_sub hl [1, 2, 3, 4, 0] rfl)
  have lp_46_1 : ∀ (N : Nat), ∀ (v1 : Int32) (v2 : Int32) (o_me : Ob) (H : Heap) (locs : List Loc) (ls : Array Slot), lp_X9_layLine_46   N (v1, v2, o_me) = some y → Wd dC dI A s.heap [wX9 h_me q_me k_me o_me] H locs → lv_has ls 5 [(0, .ref h_me), (1, .int v1), (2, .int v2)] → W p l e ({ frames := 1, cells := 0, slots := 0, locals := 23 } : Room) s m ([.ref h_me] : List Value).toArray below meth c H locs 0 0 Qz (F0 m 46 ls []) := by
    intro N
    induction N with
    | zero =>
      intro v1 v2 o_me H locs ls h hw hl
      exact absurd (show (none : Option (Int32 × Ob)) = some y from h) (by simp)
    | succ N ih =>
      intro v1 v2 o_me H locs ls h hw hl
      have h : lb_X9_layLine_46   (lp_X9_layLine_46   N) v1 v2 o_me = some y := h
      unfold lb_X9_layLine_46 at h
      refine lv_iload_n hx hb dX9_layLine_46 rfl (lv_at hl 2 rfl) ?_
      refine lv_if_le (tgt := 129) hx hb dX9_layLine_47 (by decide) (fun c => ?_) (fun c => ?_)
      · have h := z_t h c
        refine lv_iload_n hx hb dX9_layLine_129 rfl (lv_at hl 1 rfl) ?_
        have hy := Option.some.inj h
        rw [← hQz, ← hy]
        exact xr_i (v := v1) hx hb hr rfl hlk hK hw dX9_layLine_130
      · have h := z_f h c
        obtain ⟨x2, ex2, h⟩ := z_lt h
        refine lv_iinc (v := x2) (lv' := [(2, .int x2), (0, .ref h_me), (1, .int v1)]) hx hb dX9_layLine_50 hl (k := 2) rfl ((congrArg (v2 + ·) (show Int32.ofInt (-1) = (-1 : Int32) from by decide)).trans ex2.symm) (by decide) rfl (fun ls hl => ?_)
        refine lv_aload_n hx hb dX9_layLine_53 rfl (lv_at hl 1 rfl) ?_
        refine fgX9_50 hx hb hts hown hK hw 0 rfl kw1226 dX9_layLine_54 ?_
        refine lv_iload_n hx hb dX9_layLine_57 rfl (lv_at hl 0 rfl) ?_
        obtain ⟨g3, h⟩ := z_gd h
        refine faX9_50 hx hb hK hw 0 rfl rfl g3 dX9_layLine_58 ?_
        obtain ⟨x4, ex4, h⟩ := z_lt h
        refine lv_fi (v := x4) ex4.symm ?_
        refine lv_istore_n (lv' := [(3, .int x4), (2, .int x2), (0, .ref h_me), (1, .int v1)]) hx hb dX9_layLine_59 rfl hl (by decide) rfl (fun ls hl => ?_)
        refine lv_aload_n hx hb dX9_layLine_60 rfl (lv_at hl 2 rfl) ?_
        refine lv_iload_n hx hb dX9_layLine_61 rfl (lv_at hl 0 rfl) ?_
        obtain ⟨z5, ez5, h⟩ := z_bd h
        refine xj_i (xrV (As := [.int x4]) (rest := []) ⟨hx, hb, hml, hown, hts⟩ (m_X9_elder l dC dI _ h_me q_me k_me o_me x4 z5 ez5) kw1775 kw1772 kw1774 kw99 kw120 hd_X9_elder ⟨rfl, rfl⟩ rfl rfl ⟨rfl, rfl⟩ hX hK hw [0] (by decide) rfl rfl rfl rfl rfl hl.1 rfl rfl dX9_layLine_62) hw hA [0] (by decide) rfl rfl (fun H locs hw => ?_)
        have hw : Wd dC dI A s.heap [wX9 h_me q_me k_me o_me] H locs := hw
        refine lv_iconst (v := 1) hx hb dX9_layLine_65 (by decide) ?_
        refine lv_icmp_eq (tgt := 79) hx hb dX9_layLine_66 (by decide) (fun c => ?_) (fun c => ?_)
        · have h := z_t h c
          exact bk_79_2 (lp_X9_layLine_46   N) ih v1 x2 x4 o_me _ _ _ h hw (lv_sub hl [2, 3, 1, 0] rfl)
        · have h := z_f h c
          refine lv_aload_n hx hb dX9_layLine_69 rfl (lv_at hl 2 rfl) ?_
          refine fgX9_51 hx hb hts hown hK hw 0 rfl kw1227 dX9_layLine_70 ?_
          refine lv_iload_n hx hb dX9_layLine_73 rfl (lv_at hl 3 rfl) ?_
          refine lv_iload_n hx hb dX9_layLine_74 rfl (lv_at hl 0 rfl) ?_
          obtain ⟨g12, h⟩ := z_gd h
          refine fbX9_51 hx hb hK hw 0 rfl rfl g12 dX9_layLine_75 (fun H locs hw => ?_)
          obtain ⟨o13, eo13, h⟩ := z_lt h
          have hw : Wd dC dI A s.heap [wX9 h_me q_me k_me o13] H locs := by rw [eo13]; exact hw
          obtain ⟨x14, ex14, h⟩ := z_lt h
          refine lv_iinc (v := x14) (lv' := [(1, .int x14), (3, .int x4), (2, .int x2), (0, .ref h_me)]) hx hb dX9_layLine_76 hl (k := 3) rfl ((congrArg (v1 + ·) (show Int32.ofInt 1 = (1 : Int32) from by decide)).trans ex14.symm) (by decide) rfl (fun ls hl => ?_)
          exact bk_79_2 (lp_X9_layLine_46   N) ih x14 x2 x4 o13 _ _ _ h hw (lv_sub hl [3, 0, 2, 1] rfl)
  have bk_40_5 : ∀ (rec_13_0 : Int32 × Int32 × Int32 × Ob → Option (Int32 × Ob)) (hrec_13_0 : ∀ (v1 : Int32) (v2 : Int32) (v3 : Int32) (o_me : Ob) (H : Heap) (locs : List Loc) (ls : Array Slot), rec_13_0 (v1, v2, v3, o_me) = some y → Wd dC dI A s.heap [wX9 h_me q_me k_me o_me] H locs → lv_has ls 5 [(0, .ref h_me), (1, .int v1), (2, .int v2), (3, .int v3)] → W p l e ({ frames := 1, cells := 0, slots := 0, locals := 23 } : Room) s m ([.ref h_me] : List Value).toArray below meth c H locs 0 0 Qz (F0 m 13 ls [])), ∀ (v1 : Int32) (v2 : Int32) (v3 : Int32) (o_me : Ob) (H : Heap) (locs : List Loc) (ls : Array Slot), bk_X9_layLine_40  rec_13_0 v1 v2 v3 o_me = some y → Wd dC dI A s.heap [wX9 h_me q_me k_me o_me] H locs → lv_has ls 5 [(0, .ref h_me), (1, .int v1), (2, .int v2), (3, .int v3)] → W p l e ({ frames := 1, cells := 0, slots := 0, locals := 23 } : Room) s m ([.ref h_me] : List Value).toArray below meth c H locs 0 0 Qz (F0 m 40 ls []) := by
    intro rec_13_0 hrec_13_0
    intro v1 v2 v3 o_me H locs ls h hw hl
    unfold bk_X9_layLine_40 at h
    obtain ⟨x16, ex16, h⟩ := z_lt h
    refine lv_iinc (v := x16) (lv' := [(3, .int x16), (0, .ref h_me), (1, .int v1), (2, .int v2)]) hx hb dX9_layLine_40 hl (k := 3) rfl ((congrArg (v3 + ·) (show Int32.ofInt (-1) = (-1 : Int32) from by decide)).trans ex16.symm) (by decide) rfl (fun ls hl => ?_)
    refine lv_goto (tgt := 13) hx hb dX9_layLine_43 (by decide) ?_
    exact hrec_13_0 v1 v2 x16 o_me _ _ _ h hw (lv_sub hl [1, 2, 3, 0] rfl)
  have lp_13_0 : ∀ (N : Nat), ∀ (v1 : Int32) (v2 : Int32) (v3 : Int32) (o_me : Ob) (H : Heap) (locs : List Loc) (ls : Array Slot), lp_X9_layLine_13   N (v1, v2, v3, o_me) = some y → Wd dC dI A s.heap [wX9 h_me q_me k_me o_me] H locs → lv_has ls 5 [(0, .ref h_me), (1, .int v1), (2, .int v2), (3, .int v3)] → W p l e ({ frames := 1, cells := 0, slots := 0, locals := 23 } : Room) s m ([.ref h_me] : List Value).toArray below meth c H locs 0 0 Qz (F0 m 13 ls []) := by
    intro N
    induction N with
    | zero =>
      intro v1 v2 v3 o_me H locs ls h hw hl
      exact absurd (show (none : Option (Int32 × Ob)) = some y from h) (by simp)
    | succ N ih =>
      intro v1 v2 v3 o_me H locs ls h hw hl
      have h : lb_X9_layLine_13   (lp_X9_layLine_13   N) v1 v2 v3 o_me = some y := h
      unfold lb_X9_layLine_13 at h
      refine lv_iload_n hx hb dX9_layLine_13 rfl (lv_at hl 3 rfl) ?_
      refine lv_if_lt (tgt := 46) hx hb dX9_layLine_14 (by decide) (fun c => ?_) (fun c => ?_)
      · have h := z_t h c
        exact lp_46_1  zfu v1 v2 o_me _ _ _ h hw (lv_sub hl [0, 1, 2] rfl)
      · have h := z_f h c
        refine lv_aload_n hx hb dX9_layLine_17 rfl (lv_at hl 0 rfl) ?_
        refine fgX9_3 hx hb hts hown hK hw 0 rfl kw1179 dX9_layLine_18 ?_
        refine lv_bipush (v := 29) hx hb dX9_layLine_21 (by decide) ?_
        refine lv_iload_n hx hb dX9_layLine_23 rfl (lv_at hl 3 rfl) ?_
        refine lv_iadd hx hb dX9_layLine_24 ?_
        obtain ⟨g15, h⟩ := z_gd h
        refine faX9_3 hx hb hK hw 0 rfl rfl g15 dX9_layLine_25 ?_
        refine lv_iconst (v := (-1)) hx hb dX9_layLine_26 (by decide) ?_
        refine lv_icmp_ne (tgt := 40) hx hb dX9_layLine_27 (by decide) (fun c => ?_) (fun c => ?_)
        · have h := z_f h c
          exact bk_40_5 (lp_X9_layLine_13   N) ih v1 v2 v3 o_me _ _ _ h hw (lv_sub hl [0, 1, 2, 3] rfl)
        · have h := z_t h c
          refine lv_aload_n hx hb dX9_layLine_30 rfl (lv_at hl 0 rfl) ?_
          refine fgX9_50 hx hb hts hown hK hw 0 rfl kw1226 dX9_layLine_31 ?_
          refine lv_iload_n hx hb dX9_layLine_34 rfl (lv_at hl 2 rfl) ?_
          refine lv_iload_n hx hb dX9_layLine_35 rfl (lv_at hl 3 rfl) ?_
          obtain ⟨g17, h⟩ := z_gd h
          refine fbX9_50 hx hb hK hw 0 rfl rfl g17 dX9_layLine_36 (fun H locs hw => ?_)
          obtain ⟨o18, eo18, h⟩ := z_lt h
          have hw : Wd dC dI A s.heap [wX9 h_me q_me k_me o18] H locs := by rw [eo18]; exact hw
          obtain ⟨x19, ex19, h⟩ := z_lt h
          refine lv_iinc (v := x19) (lv' := [(2, .int x19), (0, .ref h_me), (1, .int v1), (3, .int v3)]) hx hb dX9_layLine_37 hl (k := 2) rfl ((congrArg (v2 + ·) (show Int32.ofInt 1 = (1 : Int32) from by decide)).trans ex19.symm) (by decide) rfl (fun ls hl => ?_)
          exact bk_40_5 (lp_X9_layLine_13   N) ih v1 x19 v3 o18 _ _ _ h hw (lv_sub hl [1, 2, 0, 3] rfl)
  unfold f_X9_layLine at h
  refine lv_iconst (v := 0) hx hb dX9_layLine_0 (by decide) ?_
  refine lv_istore_n (lv' := [(1, .int (0 : Int32)), (0, .ref h_me)]) hx hb dX9_layLine_1 rfl hl (by decide) rfl (fun ls hl => ?_)
  refine lv_iconst (v := 0) hx hb dX9_layLine_2 (by decide) ?_
  refine lv_istore_n (lv' := [(2, .int (0 : Int32)), (1, .int (0 : Int32)), (0, .ref h_me)]) hx hb dX9_layLine_3 rfl hl (by decide) rfl (fun ls hl => ?_)
  refine lv_aload_n hx hb dX9_layLine_4 rfl (lv_at hl 2 rfl) ?_
  refine fgX9_3 hx hb hts hown hK hw 0 rfl kw1179 dX9_layLine_5 ?_
  refine lv_iconst (v := 0) hx hb dX9_layLine_8 (by decide) ?_
  refine faX9_3 hx hb hK hw 0 rfl rfl (by decide) dX9_layLine_9 ?_
  refine lv_iconst (v := 1) hx hb dX9_layLine_10 (by decide) ?_
  refine lv_isub hx hb dX9_layLine_11 ?_
  obtain ⟨x1, ex1, h⟩ := z_lt h
  refine lv_fi (v := x1) ex1.symm ?_
  refine lv_istore_n (lv' := [(3, .int x1), (2, .int (0 : Int32)), (1, .int (0 : Int32)), (0, .ref h_me)]) hx hb dX9_layLine_12 rfl hl (by decide) rfl (fun ls hl => ?_)
  exact lp_13_0  zfu (0 : Int32) (0 : Int32) x1 o_me _ _ _ h hw (lv_sub hl [3, 2, 1, 0] rfl)

def f_X9_heir (o_me : Ob) (p0 : Int32) : Option (Int32 × Ob) :=
  zlt (sI o_me 0 (0 : Int32)) fun o1 =>
  (f_X9_layLine o1).bind fun z2 =>
  if p0 = (-1 : Int32) then
  (some (z2.1, z2.2))
  else
  ((f_X9_in p0.toInt64 (0 : Int64) (z2.1.toInt64 - (1 : Int64))).bind fun z3 =>
  if z3 = (0 : Int32) then
  (some ((-1 : Int32), z2.2))
  else
  (zgd (zin p0 7) <|
  some (gA z2.2 51 p0.toNatClampNeg, z2.2)))
set_option maxHeartbeats 4000000 in
set_option maxRecDepth 100000 in
theorem m_X9_heir (l : Launch) (dC : Nat → ClassId) (dI : Nat → Nat → Nat) (sz : Nat) (h_me : Nat) (q_me : Nat → Nat) (k_me : Nat → ClassId) (o_me : Ob) (p0 : Int32) (y : Int32 × Ob) (h : f_X9_heir o_me p0 = some y) : CI l yX9_heir cX9_heir 3 (some .int) ({ frames := 2, cells := 0, slots := 0, locals := 47 } : Room) dC dI sz [.ref h_me, .int p0] [wX9 h_me q_me k_me o_me] [tX9 k_me] y.1 [wX9 h_me q_me k_me y.2] := by
  refine CC_of (by decide) (Nat.le_of_ble_eq_true rfl) ?_
  intro p e s m below meth c A ls hx hb hml hr hlk hnm hown hts hX hK hP hD hA hl
  have hl : lv_has ls 3 [(0, .ref h_me), (1, .int p0)] := hl
  have hown : s.vm.findClass RX9 = some m.cls := hown
  have hw : Wd dC dI A s.heap [wX9 h_me q_me k_me o_me] s.heap [] := ⟨hP, hD, va_S.rf⟩
  generalize hQz : (MQ below (QI dC dI (fun r (_ : Unit) => r = y.1) (fun _ => Jn [wX9 h_me q_me k_me y.2]) (fun _ => Jt [tX9 k_me]) A) ([.ref h_me, .int p0] : List Value).toArray s 0 0 A) = Qz
  clear hP hD hnm
  unfold f_X9_heir at h
  refine lv_aload_n hx hb dX9_heir_0 rfl (lv_at hl 0 rfl) ?_
  refine lv_iconst (v := 0) hx hb dX9_heir_1 (by decide) ?_
  refine fpX9_0 hx hb hts hown hK hw 0 rfl kw1176 dX9_heir_2 (fun H locs hw => ?_)
  obtain ⟨o1, eo1, h⟩ := z_lt h
  have hw : Wd dC dI A s.heap [wX9 h_me q_me k_me o1] H locs := by rw [eo1]; exact hw
  refine lv_aload_n hx hb dX9_heir_5 rfl (lv_at hl 0 rfl) ?_
  obtain ⟨z2, ez2, h⟩ := z_bd h
  refine xj_i (xrV (As := []) (rest := []) ⟨hx, hb, hml, hown, hts⟩ (m_X9_layLine l dC dI _ h_me q_me k_me o1 z2 ez2) kw1771 kw1768 kw1770 kw98 kw120 hd_X9_layLine ⟨rfl, rfl⟩ rfl rfl ⟨rfl, rfl⟩ hX hK hw [0] (by decide) rfl rfl rfl rfl rfl hl.1 rfl rfl dX9_heir_6) hw hA [0] (by decide) rfl rfl (fun H locs hw => ?_)
  have hw : Wd dC dI A s.heap [wX9 h_me q_me k_me z2.2] H locs := hw
  refine lv_istore_n (lv' := [(2, .int z2.1), (0, .ref h_me), (1, .int p0)]) hx hb dX9_heir_9 rfl hl (by decide) rfl (fun ls hl => ?_)
  refine lv_iload_n hx hb dX9_heir_10 rfl (lv_at hl 2 rfl) ?_
  refine lv_iconst (v := (-1)) hx hb dX9_heir_11 (by decide) ?_
  refine lv_icmp_ne (tgt := 19) hx hb dX9_heir_12 (by decide) (fun c => ?_) (fun c => ?_)
  · have h := z_f h c
    refine lv_iload_n hx hb dX9_heir_19 rfl (lv_at hl 2 rfl) ?_
    refine lv_i2l hx hb dX9_heir_20 rfl ?_
    refine lv_lconst (v := 0) hx hb dX9_heir_21 (by decide) ?_
    refine lv_iload_n hx hb dX9_heir_22 rfl (lv_at hl 0 rfl) ?_
    refine lv_i2l hx hb dX9_heir_23 rfl ?_
    refine lv_lconst (v := 1) hx hb dX9_heir_24 (by decide) ?_
    refine lv_lsub hx hb dX9_heir_25 ?_
    obtain ⟨z3, ez3, h⟩ := z_bd h
    refine xj_i (xrS (As := [.long p0.toInt64, .long (0 : Int64), .long (z2.1.toInt64 - (1 : Int64))]) (rest := []) ⟨hx, hb, hml, hown, hts⟩ (m_X9_in l dC dI _  p0.toInt64 (0 : Int64) (z2.1.toInt64 - (1 : Int64)) z3 ez3) kw1385 kw1383 kw1384 kw120 hd_X9_in ⟨rfl, rfl⟩ rfl rfl ⟨rfl, rfl⟩ hX hK hw [] (by decide) rfl rfl hl.1 rfl rfl dX9_heir_26) hw hA [] (by decide) rfl rfl (fun H locs hw => ?_)
    refine lv_if_eq (tgt := 41) hx hb dX9_heir_29 (by decide) (fun c => ?_) (fun c => ?_)
    · have h := z_t h c
      refine lv_iconst (v := (-1)) hx hb dX9_heir_41 (by decide) ?_
      have hy := Option.some.inj h
      rw [← hQz, ← hy]
      exact xr_i (v := (-1 : Int32)) hx hb hr rfl hlk hK hw dX9_heir_42
    · have h := z_f h c
      refine lv_aload_n hx hb dX9_heir_32 rfl (lv_at hl 1 rfl) ?_
      refine fgX9_51 hx hb hts hown hK hw 0 rfl kw1227 dX9_heir_33 ?_
      refine lv_iload_n hx hb dX9_heir_36 rfl (lv_at hl 2 rfl) ?_
      obtain ⟨g4, h⟩ := z_gd h
      refine faX9_51 hx hb hK hw 0 rfl rfl g4 dX9_heir_37 ?_
      refine lv_goto (tgt := 42) hx hb dX9_heir_38 (by decide) ?_
      have hy := Option.some.inj h
      rw [← hQz, ← hy]
      exact xr_i (v := gA z2.2 51 p0.toNatClampNeg) hx hb hr rfl hlk hK hw dX9_heir_42
  · have h := z_t h c
    refine lv_iload_n hx hb dX9_heir_15 rfl (lv_at hl 0 rfl) ?_
    refine lv_goto (tgt := 42) hx hb dX9_heir_16 (by decide) ?_
    have hy := Option.some.inj h
    rw [← hQz, ← hy]
    exact xr_i (v := z2.1) hx hb hr rfl hlk hK hw dX9_heir_42

def lb_X9_image_23   (rec_23_0 : Int32 × Int32 × Ob → Option (Int32 × Ob)) (v1 : Int32) (v2 : Int32) (o_me : Ob) : Option (Int32 × Ob) :=
  if (5484 : Int32) ≤ v2 then
  (zgd (zin v1 2) <|
  zlt (tA o_me 5 v1.toNatClampNeg (vp_nar .boolean (1 : Int32))) fun o4 =>
  (f_X9_tell o4 (0 : Int32)).bind fun z5 =>
  some (z5.1, z5.2))
  else
  (zgd (zin v2 5484) <|
  zgd (zin (((5484 : Int32) * v1) + v2) 10968) <|
  zlt (tA o_me 4 (((5484 : Int32) * v1) + v2).toNatClampNeg (gA o_me 3 v2.toNatClampNeg)) fun o8 =>
  zlt (v2 + (1 : Int32)) fun x9 =>
  rec_23_0 (v1, x9, o8))
def lp_X9_image_23   : Nat → (Int32 × Int32 × Ob) → Option (Int32 × Ob) := zit (fun rec a => lb_X9_image_23   rec a.1 a.2.1 a.2.2)
def f_X9_image (o_me : Ob) (p0 : Int32) : Option (Int32 × Ob) :=
  zlt (sI o_me 0 (0 : Int32)) fun o1 =>
  (f_X9_in p0.toInt64 (0 : Int64) (1 : Int64)).bind fun z2 =>
  if z2 = (0 : Int32) then
  ((f_X9_tell o1 (-1 : Int32)).bind fun z10 =>
  some (z10.1, z10.2))
  else
  (lp_X9_image_23   zfu (p0, (0 : Int32), o1))
set_option maxHeartbeats 4000000 in
set_option maxRecDepth 100000 in
theorem m_X9_image (l : Launch) (dC : Nat → ClassId) (dI : Nat → Nat → Nat) (sz : Nat) (h_me : Nat) (q_me : Nat → Nat) (k_me : Nat → ClassId) (o_me : Ob) (p0 : Int32) (y : Int32 × Ob) (h : f_X9_image o_me p0 = some y) : CI l yX9_image cX9_image 3 (some .int) ({ frames := 1, cells := 0, slots := 0, locals := 25 } : Room) dC dI sz [.ref h_me, .int p0] [wX9 h_me q_me k_me o_me] [tX9 k_me] y.1 [wX9 h_me q_me k_me y.2] := by
  refine CC_of (by decide) (Nat.le_of_ble_eq_true rfl) ?_
  intro p e s m below meth c A ls hx hb hml hr hlk hnm hown hts hX hK hP hD hA hl
  have hl : lv_has ls 3 [(0, .ref h_me), (1, .int p0)] := hl
  have hown : s.vm.findClass RX9 = some m.cls := hown
  have hw : Wd dC dI A s.heap [wX9 h_me q_me k_me o_me] s.heap [] := ⟨hP, hD, va_S.rf⟩
  generalize hQz : (MQ below (QI dC dI (fun r (_ : Unit) => r = y.1) (fun _ => Jn [wX9 h_me q_me k_me y.2]) (fun _ => Jt [tX9 k_me]) A) ([.ref h_me, .int p0] : List Value).toArray s 0 0 A) = Qz
  clear hP hD hnm
  have lp_23_0 : ∀ (N : Nat), ∀ (v1 : Int32) (v2 : Int32) (o_me : Ob) (H : Heap) (locs : List Loc) (ls : Array Slot), lp_X9_image_23   N (v1, v2, o_me) = some y → Wd dC dI A s.heap [wX9 h_me q_me k_me o_me] H locs → lv_has ls 3 [(0, .ref h_me), (1, .int v1), (2, .int v2)] → W p l e ({ frames := 1, cells := 0, slots := 0, locals := 25 } : Room) s m ([.ref h_me, .int p0] : List Value).toArray below meth c H locs 0 0 Qz (F0 m 23 ls []) := by
    intro N
    induction N with
    | zero =>
      intro v1 v2 o_me H locs ls h hw hl
      exact absurd (show (none : Option (Int32 × Ob)) = some y from h) (by simp)
    | succ N ih =>
      intro v1 v2 o_me H locs ls h hw hl
      have h : lb_X9_image_23   (lp_X9_image_23   N) v1 v2 o_me = some y := h
      unfold lb_X9_image_23 at h
      refine lv_iload_n hx hb dX9_image_23 rfl (lv_at hl 2 rfl) ?_
      refine lv_sipush (v := 5484) hx hb dX9_image_24 (by decide) ?_
      refine lv_icmp_ge (tgt := 54) hx hb dX9_image_27 (by decide) (fun c => ?_) (fun c => ?_)
      · have h := z_t h c
        refine lv_aload_n hx hb dX9_image_54 rfl (lv_at hl 0 rfl) ?_
        refine fgX9_5 hx hb hts hown hK hw 0 rfl kw1181 dX9_image_55 ?_
        refine lv_iload_n hx hb dX9_image_58 rfl (lv_at hl 1 rfl) ?_
        refine lv_iconst (v := 1) hx hb dX9_image_59 (by decide) ?_
        obtain ⟨g3, h⟩ := z_gd h
        refine fbX9_5 hx hb hK hw 0 rfl rfl g3 dX9_image_60 (fun H locs hw => ?_)
        obtain ⟨o4, eo4, h⟩ := z_lt h
        have hw : Wd dC dI A s.heap [wX9 h_me q_me k_me o4] H locs := by rw [eo4]; exact hw
        refine lv_aload_n hx hb dX9_image_61 rfl (lv_at hl 0 rfl) ?_
        refine lv_iconst (v := 0) hx hb dX9_image_62 (by decide) ?_
        obtain ⟨z5, ez5, h⟩ := z_bd h
        refine xj_i (xrV (As := [.int (0 : Int32)]) (rest := []) ⟨hx, hb, hml, hown, hts⟩ (m_X9_tell l dC dI _ h_me q_me k_me o4 (0 : Int32) z5 ez5) kw1374 kw1371 kw1373 kw39 kw120 hd_X9_tell ⟨rfl, rfl⟩ rfl rfl ⟨rfl, rfl⟩ hX hK hw [0] (by decide) rfl rfl rfl rfl rfl hl.1 rfl rfl dX9_image_63) hw hA [0] (by decide) rfl rfl (fun H locs hw => ?_)
        have hw : Wd dC dI A s.heap [wX9 h_me q_me k_me z5.2] H locs := hw
        have hy := Option.some.inj h
        rw [← hQz, ← hy]
        exact xr_i (v := z5.1) hx hb hr rfl hlk hK hw dX9_image_66
      · have h := z_f h c
        refine lv_aload_n hx hb dX9_image_30 rfl (lv_at hl 0 rfl) ?_
        refine fgX9_4 hx hb hts hown hK hw 0 rfl kw1180 dX9_image_31 ?_
        refine lv_sipush (v := 5484) hx hb dX9_image_34 (by decide) ?_
        refine lv_iload_n hx hb dX9_image_37 rfl (lv_at hl 1 rfl) ?_
        refine lv_imul hx hb dX9_image_38 ?_
        refine lv_iload_n hx hb dX9_image_39 rfl (lv_at hl 2 rfl) ?_
        refine lv_iadd hx hb dX9_image_40 ?_
        refine lv_aload_n hx hb dX9_image_41 rfl (lv_at hl 0 rfl) ?_
        refine fgX9_3 hx hb hts hown hK hw 0 rfl kw1179 dX9_image_42 ?_
        refine lv_iload_n hx hb dX9_image_45 rfl (lv_at hl 2 rfl) ?_
        obtain ⟨g6, h⟩ := z_gd h
        refine faX9_3 hx hb hK hw 0 rfl rfl g6 dX9_image_46 ?_
        obtain ⟨g7, h⟩ := z_gd h
        refine fbX9_4 hx hb hK hw 0 rfl rfl g7 dX9_image_47 (fun H locs hw => ?_)
        obtain ⟨o8, eo8, h⟩ := z_lt h
        have hw : Wd dC dI A s.heap [wX9 h_me q_me k_me o8] H locs := by rw [eo8]; exact hw
        obtain ⟨x9, ex9, h⟩ := z_lt h
        refine lv_iinc (v := x9) (lv' := [(2, .int x9), (0, .ref h_me), (1, .int v1)]) hx hb dX9_image_48 hl (k := 2) rfl ((congrArg (v2 + ·) (show Int32.ofInt 1 = (1 : Int32) from by decide)).trans ex9.symm) (by decide) rfl (fun ls hl => ?_)
        refine lv_goto (tgt := 23) hx hb dX9_image_51 (by decide) ?_
        exact ih v1 x9 o8 _ _ _ h hw (lv_sub hl [1, 2, 0] rfl)
  unfold f_X9_image at h
  refine lv_aload_n hx hb dX9_image_0 rfl (lv_at hl 0 rfl) ?_
  refine lv_iconst (v := 0) hx hb dX9_image_1 (by decide) ?_
  refine fpX9_0 hx hb hts hown hK hw 0 rfl kw1176 dX9_image_2 (fun H locs hw => ?_)
  obtain ⟨o1, eo1, h⟩ := z_lt h
  have hw : Wd dC dI A s.heap [wX9 h_me q_me k_me o1] H locs := by rw [eo1]; exact hw
  refine lv_iload_n hx hb dX9_image_5 rfl (lv_at hl 1 rfl) ?_
  refine lv_i2l hx hb dX9_image_6 rfl ?_
  refine lv_lconst (v := 0) hx hb dX9_image_7 (by decide) ?_
  refine lv_lconst (v := 1) hx hb dX9_image_8 (by decide) ?_
  obtain ⟨z2, ez2, h⟩ := z_bd h
  refine xj_i (xrS (As := [.long p0.toInt64, .long (0 : Int64), .long (1 : Int64)]) (rest := []) ⟨hx, hb, hml, hown, hts⟩ (m_X9_in l dC dI _  p0.toInt64 (0 : Int64) (1 : Int64) z2 ez2) kw1385 kw1383 kw1384 kw120 hd_X9_in ⟨rfl, rfl⟩ rfl rfl ⟨rfl, rfl⟩ hX hK hw [] (by decide) rfl rfl hl.1 rfl rfl dX9_image_9) hw hA [] (by decide) rfl rfl (fun H locs hw => ?_)
  refine lv_if_ne (tgt := 21) hx hb dX9_image_12 (by decide) (fun c => ?_) (fun c => ?_)
  · have h := z_f h c
    refine lv_iconst (v := 0) hx hb dX9_image_21 (by decide) ?_
    refine lv_istore_n (lv' := [(2, .int (0 : Int32)), (0, .ref h_me), (1, .int p0)]) hx hb dX9_image_22 rfl hl (by decide) rfl (fun ls hl => ?_)
    exact lp_23_0  zfu p0 (0 : Int32) o1 _ _ _ h hw (lv_sub hl [1, 2, 0] rfl)
  · have h := z_t h c
    refine lv_aload_n hx hb dX9_image_15 rfl (lv_at hl 0 rfl) ?_
    refine lv_iconst (v := (-1)) hx hb dX9_image_16 (by decide) ?_
    obtain ⟨z10, ez10, h⟩ := z_bd h
    refine xj_i (xrV (As := [.int (-1 : Int32)]) (rest := []) ⟨hx, hb, hml, hown, hts⟩ (m_X9_tell l dC dI _ h_me q_me k_me o1 (-1 : Int32) z10 ez10) kw1374 kw1371 kw1373 kw39 kw120 hd_X9_tell ⟨rfl, rfl⟩ rfl rfl ⟨rfl, rfl⟩ hX hK hw [0] (by decide) rfl rfl rfl rfl rfl hl.1 rfl rfl dX9_image_17) hw hA [0] (by decide) rfl rfl (fun H locs hw => ?_)
    have hw : Wd dC dI A s.heap [wX9 h_me q_me k_me z10.2] H locs := hw
    have hy := Option.some.inj h
    rw [← hQz, ← hy]
    exact xr_i (v := z10.1) hx hb hr rfl hlk hK hw dX9_image_20

def bk_X9_isTold_48 (o_me : Ob) (rec_13_0 : Int32 × Int32 × Int32 → Option (Int32)) (v1 : Int32) (v3 : Int32) (s0 : Int32) : Option (Int32) :=
  zlt (v3 + (1 : Int32)) fun x4 =>
  rec_13_0 (v1, s0, x4)
def bk_X9_isTold_47 (o_me : Ob) (rec_13_0 : Int32 × Int32 × Int32 → Option (Int32)) (v1 : Int32) (v3 : Int32) : Option (Int32) :=
  bk_X9_isTold_48 o_me rec_13_0 v1 v3 (0 : Int32)
def lb_X9_isTold_13 (o_me : Ob)  (rec_13_0 : Int32 × Int32 × Int32 → Option (Int32)) (v1 : Int32) (v2 : Int32) (v3 : Int32) : Option (Int32) :=
  if (4 : Int32) ≤ v3 then
  (zgd (zbo v2) <|
  some v2)
  else
  (if v2 = (0 : Int32) then
  (bk_X9_isTold_47 o_me rec_13_0 v1 v3)
  else
  (zgd (zin ((v1 + (1 : Int32)) + v3) 400) <|
  (f_X9_in ((gA o_me 12 ((v1 + (1 : Int32)) + v3).toNatClampNeg).toInt64) (0 : Int64) (9 : Int64)).bind fun z6 =>
  if z6 = (0 : Int32) then
  (bk_X9_isTold_47 o_me rec_13_0 v1 v3)
  else
  (bk_X9_isTold_48 o_me rec_13_0 v1 v3 (1 : Int32))))
def lp_X9_isTold_13 (o_me : Ob)  : Nat → (Int32 × Int32 × Int32) → Option (Int32) := zit (fun rec a => lb_X9_isTold_13 o_me  rec a.1 a.2.1 a.2.2)
def f_X9_isTold (o_me : Ob) (p0 : Int32) : Option (Int32) :=
  zgd (zin p0 400) <|
  (f_X9_isPerson o_me (gA o_me 12 p0.toNatClampNeg)).bind fun z2 =>
  lp_X9_isTold_13 o_me  zfu (p0, z2, (0 : Int32))
set_option maxHeartbeats 4000000 in
set_option maxRecDepth 100000 in
theorem m_X9_isTold (l : Launch) (dC : Nat → ClassId) (dI : Nat → Nat → Nat) (sz : Nat) (h_me : Nat) (q_me : Nat → Nat) (k_me : Nat → ClassId) (o_me : Ob) (p0 : Int32) (y : Int32) (h : f_X9_isTold o_me p0 = some y) : CI l yX9_isTold cX9_isTold 4 (some .boolean) ({ frames := 2, cells := 0, slots := 0, locals := 46 } : Room) dC dI sz [.ref h_me, .int p0] [wX9 h_me q_me k_me o_me] [tX9 k_me] y [wX9 h_me q_me k_me o_me] := by
  refine CC_of (by decide) (Nat.le_of_ble_eq_true rfl) ?_
  intro p e s m below meth c A ls hx hb hml hr hlk hnm hown hts hX hK hP hD hA hl
  have hl : lv_has ls 4 [(0, .ref h_me), (1, .int p0)] := hl
  have hown : s.vm.findClass RX9 = some m.cls := hown
  have hw : Wd dC dI A s.heap [wX9 h_me q_me k_me o_me] s.heap [] := ⟨hP, hD, va_S.rf⟩
  generalize hQz : (MQ below (QI dC dI (fun r (_ : Unit) => r = y) (fun _ => Jn [wX9 h_me q_me k_me o_me]) (fun _ => Jt [tX9 k_me]) A) ([.ref h_me, .int p0] : List Value).toArray s 0 0 A) = Qz
  clear hP hD hnm
  have bk_48_2 : ∀ (rec_13_0 : Int32 × Int32 × Int32 → Option (Int32)) (hrec_13_0 : ∀ (v1 : Int32) (v2 : Int32) (v3 : Int32) (H : Heap) (locs : List Loc) (ls : Array Slot), rec_13_0 (v1, v2, v3) = some y → Wd dC dI A s.heap [wX9 h_me q_me k_me o_me] H locs → lv_has ls 4 [(0, .ref h_me), (1, .int v1), (2, .int v2), (3, .int v3)] → W p l e ({ frames := 2, cells := 0, slots := 0, locals := 46 } : Room) s m ([.ref h_me, .int p0] : List Value).toArray below meth c H locs 0 0 Qz (F0 m 13 ls [])), ∀ (v1 : Int32) (v3 : Int32) (s0 : Int32) (H : Heap) (locs : List Loc) (ls : Array Slot), bk_X9_isTold_48 o_me rec_13_0 v1 v3 s0 = some y → Wd dC dI A s.heap [wX9 h_me q_me k_me o_me] H locs → lv_has ls 4 [(0, .ref h_me), (1, .int v1), (3, .int v3)] → W p l e ({ frames := 2, cells := 0, slots := 0, locals := 46 } : Room) s m ([.ref h_me, .int p0] : List Value).toArray below meth c H locs 0 0 Qz (F0 m 48 ls [.int s0]) := by
    intro rec_13_0 hrec_13_0
    intro v1 v3 s0 H locs ls h hw hl
    unfold bk_X9_isTold_48 at h
    refine lv_istore_n (lv' := [(2, .int s0), (0, .ref h_me), (1, .int v1), (3, .int v3)]) hx hb dX9_isTold_48 rfl hl (by decide) rfl (fun ls hl => ?_)
    obtain ⟨x4, ex4, h⟩ := z_lt h
    refine lv_iinc (v := x4) (lv' := [(3, .int x4), (2, .int s0), (0, .ref h_me), (1, .int v1)]) hx hb dX9_isTold_49 hl (k := 3) rfl ((congrArg (v3 + ·) (show Int32.ofInt 1 = (1 : Int32) from by decide)).trans ex4.symm) (by decide) rfl (fun ls hl => ?_)
    refine lv_goto (tgt := 13) hx hb dX9_isTold_52 (by decide) ?_
    exact hrec_13_0 v1 s0 x4 _ _ _ h hw (lv_sub hl [2, 3, 1, 0] rfl)
  have bk_47_1 : ∀ (rec_13_0 : Int32 × Int32 × Int32 → Option (Int32)) (hrec_13_0 : ∀ (v1 : Int32) (v2 : Int32) (v3 : Int32) (H : Heap) (locs : List Loc) (ls : Array Slot), rec_13_0 (v1, v2, v3) = some y → Wd dC dI A s.heap [wX9 h_me q_me k_me o_me] H locs → lv_has ls 4 [(0, .ref h_me), (1, .int v1), (2, .int v2), (3, .int v3)] → W p l e ({ frames := 2, cells := 0, slots := 0, locals := 46 } : Room) s m ([.ref h_me, .int p0] : List Value).toArray below meth c H locs 0 0 Qz (F0 m 13 ls [])), ∀ (v1 : Int32) (v3 : Int32) (H : Heap) (locs : List Loc) (ls : Array Slot), bk_X9_isTold_47 o_me rec_13_0 v1 v3 = some y → Wd dC dI A s.heap [wX9 h_me q_me k_me o_me] H locs → lv_has ls 4 [(0, .ref h_me), (1, .int v1), (3, .int v3)] → W p l e ({ frames := 2, cells := 0, slots := 0, locals := 46 } : Room) s m ([.ref h_me, .int p0] : List Value).toArray below meth c H locs 0 0 Qz (F0 m 47 ls []) := by
    intro rec_13_0 hrec_13_0
    intro v1 v3 H locs ls h hw hl
    unfold bk_X9_isTold_47 at h
    refine lv_iconst (v := 0) hx hb dX9_isTold_47 (by decide) ?_
    exact bk_48_2 rec_13_0 hrec_13_0 v1 v3 (0 : Int32) _ _ _ h hw (lv_sub hl [0, 1, 2] rfl)
  have lp_13_0 : ∀ (N : Nat), ∀ (v1 : Int32) (v2 : Int32) (v3 : Int32) (H : Heap) (locs : List Loc) (ls : Array Slot), lp_X9_isTold_13 o_me  N (v1, v2, v3) = some y → Wd dC dI A s.heap [wX9 h_me q_me k_me o_me] H locs → lv_has ls 4 [(0, .ref h_me), (1, .int v1), (2, .int v2), (3, .int v3)] → W p l e ({ frames := 2, cells := 0, slots := 0, locals := 46 } : Room) s m ([.ref h_me, .int p0] : List Value).toArray below meth c H locs 0 0 Qz (F0 m 13 ls []) := by
    intro N
    induction N with
    | zero =>
      intro v1 v2 v3 H locs ls h hw hl
      exact absurd (show (none : Option (Int32)) = some y from h) (by simp)
    | succ N ih =>
      intro v1 v2 v3 H locs ls h hw hl
      have h : lb_X9_isTold_13 o_me  (lp_X9_isTold_13 o_me  N) v1 v2 v3 = some y := h
      unfold lb_X9_isTold_13 at h
      refine lv_iload_n hx hb dX9_isTold_13 rfl (lv_at hl 3 rfl) ?_
      refine lv_iconst (v := 4) hx hb dX9_isTold_14 (by decide) ?_
      refine lv_icmp_ge (tgt := 55) hx hb dX9_isTold_15 (by decide) (fun c => ?_) (fun c => ?_)
      · have h := z_t h c
        refine lv_iload_n hx hb dX9_isTold_55 rfl (lv_at hl 2 rfl) ?_
        obtain ⟨g3, h⟩ := z_gd h
        have hy := Option.some.inj h
        rw [← hQz, ← hy]
        exact xr_i (v := v2) hx hb hr (z_nar g3) hlk hK hw dX9_isTold_56
      · have h := z_f h c
        refine lv_iload_n hx hb dX9_isTold_18 rfl (lv_at hl 2 rfl) ?_
        refine lv_if_eq (tgt := 47) hx hb dX9_isTold_19 (by decide) (fun c => ?_) (fun c => ?_)
        · have h := z_t h c
          exact bk_47_1 (lp_X9_isTold_13 o_me  N) ih v1 v3 _ _ _ h hw (lv_sub hl [0, 1, 3] rfl)
        · have h := z_f h c
          refine lv_aload_n hx hb dX9_isTold_22 rfl (lv_at hl 0 rfl) ?_
          refine fgX9_12 hx hb hts hown hK hw 0 rfl kw1188 dX9_isTold_23 ?_
          refine lv_iload_n hx hb dX9_isTold_26 rfl (lv_at hl 1 rfl) ?_
          refine lv_iconst (v := 1) hx hb dX9_isTold_27 (by decide) ?_
          refine lv_iadd hx hb dX9_isTold_28 ?_
          refine lv_iload_n hx hb dX9_isTold_29 rfl (lv_at hl 3 rfl) ?_
          refine lv_iadd hx hb dX9_isTold_30 ?_
          obtain ⟨g5, h⟩ := z_gd h
          refine faX9_12 hx hb hK hw 0 rfl rfl g5 dX9_isTold_31 ?_
          refine lv_i2l hx hb dX9_isTold_32 rfl ?_
          refine lv_lconst (v := 0) hx hb dX9_isTold_33 (by decide) ?_
          refine lv_ldc2 (v := 9) hx hb hown (hts _ kw1398) dX9_isTold_34 ?_
          obtain ⟨z6, ez6, h⟩ := z_bd h
          refine xj_i (xrS (As := [.long ((gA o_me 12 ((v1 + (1 : Int32)) + v3).toNatClampNeg).toInt64), .long (0 : Int64), .long (9 : Int64)]) (rest := []) ⟨hx, hb, hml, hown, hts⟩ (m_X9_in l dC dI _  ((gA o_me 12 ((v1 + (1 : Int32)) + v3).toNatClampNeg).toInt64) (0 : Int64) (9 : Int64) z6 ez6) kw1385 kw1383 kw1384 kw120 hd_X9_in ⟨rfl, rfl⟩ rfl rfl ⟨rfl, rfl⟩ hX hK hw [] (by decide) rfl rfl hl.1 rfl rfl dX9_isTold_37) hw hA [] (by decide) rfl rfl (fun H locs hw => ?_)
          refine lv_if_eq (tgt := 47) hx hb dX9_isTold_40 (by decide) (fun c => ?_) (fun c => ?_)
          · have h := z_t h c
            exact bk_47_1 (lp_X9_isTold_13 o_me  N) ih v1 v3 _ _ _ h hw (lv_sub hl [0, 1, 3] rfl)
          · have h := z_f h c
            refine lv_iconst (v := 1) hx hb dX9_isTold_43 (by decide) ?_
            refine lv_goto (tgt := 48) hx hb dX9_isTold_44 (by decide) ?_
            exact bk_48_2 (lp_X9_isTold_13 o_me  N) ih v1 v3 (1 : Int32) _ _ _ h hw (lv_sub hl [0, 1, 3] rfl)
  unfold f_X9_isTold at h
  refine lv_aload_n hx hb dX9_isTold_0 rfl (lv_at hl 0 rfl) ?_
  refine lv_aload_n hx hb dX9_isTold_1 rfl (lv_at hl 0 rfl) ?_
  refine fgX9_12 hx hb hts hown hK hw 0 rfl kw1188 dX9_isTold_2 ?_
  refine lv_iload_n hx hb dX9_isTold_5 rfl (lv_at hl 1 rfl) ?_
  obtain ⟨g1, h⟩ := z_gd h
  refine faX9_12 hx hb hK hw 0 rfl rfl g1 dX9_isTold_6 ?_
  obtain ⟨z2, ez2, h⟩ := z_bd h
  refine xj_i (xrV (As := [.int (gA o_me 12 p0.toNatClampNeg)]) (rest := []) ⟨hx, hb, hml, hown, hts⟩ (m_X9_isPerson l dC dI _ h_me q_me k_me o_me (gA o_me 12 p0.toNatClampNeg) z2 ez2) kw1402 kw1399 kw1401 kw42 kw120 hd_X9_isPerson ⟨rfl, rfl⟩ rfl rfl ⟨rfl, rfl⟩ hX hK hw [0] (by decide) rfl rfl rfl rfl rfl hl.1 rfl rfl dX9_isTold_7) hw hA [0] (by decide) rfl rfl (fun H locs hw => ?_)
  have hw : Wd dC dI A s.heap [wX9 h_me q_me k_me o_me] H locs := hw
  refine lv_istore_n (lv' := [(2, .int z2), (0, .ref h_me), (1, .int p0)]) hx hb dX9_isTold_10 rfl hl (by decide) rfl (fun ls hl => ?_)
  refine lv_iconst (v := 0) hx hb dX9_isTold_11 (by decide) ?_
  refine lv_istore_n (lv' := [(3, .int (0 : Int32)), (2, .int z2), (0, .ref h_me), (1, .int p0)]) hx hb dX9_isTold_12 rfl hl (by decide) rfl (fun ls hl => ?_)
  exact lp_13_0  zfu p0 z2 (0 : Int32) _ _ _ h hw (lv_sub hl [2, 3, 1, 0] rfl)

def bk_X9_ladder_98  (rec_42_0 : Int32 × Int32 × Int32 × Ob → Option (Int64 × Ob)) (v1 : Int32) (v2 : Int32) (v3 : Int32) (o_me : Ob) : Option (Int64 × Ob) :=
  zlt (v3 + (1 : Int32)) fun x8 =>
  rec_42_0 (v1, v2, x8, o_me)
def lb_X9_ladder_57  (rec_42_0 : Int32 × Int32 × Int32 × Ob → Option (Int64 × Ob)) (rec_57_1 : Int32 × Int32 × Int32 × Int32 × Ob → Option (Int64 × Ob)) (v1 : Int32) (v2 : Int32) (v3 : Int32) (v4 : Int32) (o_me : Ob) : Option (Int64 × Ob) :=
  if v2 < v4 then
  (bk_X9_ladder_98  rec_42_0 v1 v2 v3 o_me)
  else
  (if v3 < v4 then
  (bk_X9_ladder_98  rec_42_0 v1 v2 v3 o_me)
  else
  (if v3 = (2 : Int32) then
  (bk_X9_ladder_98  rec_42_0 v1 v2 v3 o_me)
  else
  (zgd (zin v3 61) <|
  zgd (zin (v3 - v4) 61) <|
  zgd (zin v3 61) <|
  zlt (tM o_me 52 v3.toNatClampNeg ((gM o_me 52 v3.toNatClampNeg) + (gM o_me 52 (v3 - v4).toNatClampNeg))) fun o12 =>
  zlt (v4 + (1 : Int32)) fun x13 =>
  rec_57_1 (v1, v2, v3, x13, o12))))
def lp_X9_ladder_57  (rec_42_0 : Int32 × Int32 × Int32 × Ob → Option (Int64 × Ob)) : Nat → (Int32 × Int32 × Int32 × Int32 × Ob) → Option (Int64 × Ob) := zit (fun rec a => lb_X9_ladder_57  rec_42_0 rec a.1 a.2.1 a.2.2.1 a.2.2.2.1 a.2.2.2.2)
def lb_X9_ladder_42   (rec_42_0 : Int32 × Int32 × Int32 × Ob → Option (Int64 × Ob)) (v1 : Int32) (v2 : Int32) (v3 : Int32) (o_me : Ob) : Option (Int64 × Ob) :=
  if v1 < v3 then
  (zgd (zin v1 61) <|
  some (gM o_me 52 v1.toNatClampNeg, o_me))
  else
  (zgd (zin v3 61) <|
  zlt (tM o_me 52 v3.toNatClampNeg (0 : Int64)) fun o7 =>
  lp_X9_ladder_57  rec_42_0 zfu (v1, v2, v3, (1 : Int32), o7))
def lp_X9_ladder_42   : Nat → (Int32 × Int32 × Int32 × Ob) → Option (Int64 × Ob) := zit (fun rec a => lb_X9_ladder_42   rec a.1 a.2.1 a.2.2.1 a.2.2.2)
def f_X9_ladder (o_me : Ob) (p0 : Int32) (p1 : Int32) : Option (Int64 × Ob) :=
  zlt (sI o_me 0 (0 : Int32)) fun o1 =>
  (f_X9_in p0.toInt64 (1 : Int64) (60 : Int64)).bind fun z2 =>
  if z2 = (0 : Int32) then
  (some ((-1 : Int64), o1))
  else
  ((f_X9_in p1.toInt64 (1 : Int64) (5 : Int64)).bind fun z3 =>
  if z3 = (0 : Int32) then
  (some ((-1 : Int64), o1))
  else
  (zlt (tM o1 52 (0 : Int32).toNatClampNeg (1 : Int64)) fun o4 =>
  lp_X9_ladder_42   zfu (p0, p1, (1 : Int32), o4)))
set_option maxHeartbeats 4000000 in
set_option maxRecDepth 100000 in
theorem m_X9_ladder (l : Launch) (dC : Nat → ClassId) (dI : Nat → Nat → Nat) (sz : Nat) (h_me : Nat) (q_me : Nat → Nat) (k_me : Nat → ClassId) (o_me : Ob) (p0 : Int32) (p1 : Int32) (y : Int64 × Ob) (h : f_X9_ladder o_me p0 p1 = some y) : CL l yX9_ladder cX9_ladder 5 (some .long) ({ frames := 1, cells := 0, slots := 0, locals := 25 } : Room) dC dI sz [.ref h_me, .int p0, .int p1] [wX9 h_me q_me k_me o_me] [tX9 k_me] y.1 [wX9 h_me q_me k_me y.2] := by
  refine CC_of (by decide) (Nat.le_of_ble_eq_true rfl) ?_
  intro p e s m below meth c A ls hx hb hml hr hlk hnm hown hts hX hK hP hD hA hl
  have hl : lv_has ls 5 [(0, .ref h_me), (1, .int p0), (2, .int p1)] := hl
  have hown : s.vm.findClass RX9 = some m.cls := hown
  have hw : Wd dC dI A s.heap [wX9 h_me q_me k_me o_me] s.heap [] := ⟨hP, hD, va_S.rf⟩
  generalize hQz : (MQ below (QL dC dI (fun r (_ : Unit) => r = y.1) (fun _ => Jn [wX9 h_me q_me k_me y.2]) (fun _ => Jt [tX9 k_me]) A) ([.ref h_me, .int p0, .int p1] : List Value).toArray s 0 0 A) = Qz
  clear hP hD hnm
  have bk_98_2 : ∀ (rec_42_0 : Int32 × Int32 × Int32 × Ob → Option (Int64 × Ob)) (hrec_42_0 : ∀ (v1 : Int32) (v2 : Int32) (v3 : Int32) (o_me : Ob) (H : Heap) (locs : List Loc) (ls : Array Slot), rec_42_0 (v1, v2, v3, o_me) = some y → Wd dC dI A s.heap [wX9 h_me q_me k_me o_me] H locs → lv_has ls 5 [(0, .ref h_me), (1, .int v1), (2, .int v2), (3, .int v3)] → W p l e ({ frames := 1, cells := 0, slots := 0, locals := 25 } : Room) s m ([.ref h_me, .int p0, .int p1] : List Value).toArray below meth c H locs 0 0 Qz (F0 m 42 ls [])), ∀ (v1 : Int32) (v2 : Int32) (v3 : Int32) (o_me : Ob) (H : Heap) (locs : List Loc) (ls : Array Slot), bk_X9_ladder_98  rec_42_0 v1 v2 v3 o_me = some y → Wd dC dI A s.heap [wX9 h_me q_me k_me o_me] H locs → lv_has ls 5 [(0, .ref h_me), (1, .int v1), (2, .int v2), (3, .int v3)] → W p l e ({ frames := 1, cells := 0, slots := 0, locals := 25 } : Room) s m ([.ref h_me, .int p0, .int p1] : List Value).toArray below meth c H locs 0 0 Qz (F0 m 98 ls []) := by
    intro rec_42_0 hrec_42_0
    intro v1 v2 v3 o_me H locs ls h hw hl
    unfold bk_X9_ladder_98 at h
    obtain ⟨x8, ex8, h⟩ := z_lt h
    refine lv_iinc (v := x8) (lv' := [(3, .int x8), (0, .ref h_me), (1, .int v1), (2, .int v2)]) hx hb dX9_ladder_98 hl (k := 3) rfl ((congrArg (v3 + ·) (show Int32.ofInt 1 = (1 : Int32) from by decide)).trans ex8.symm) (by decide) rfl (fun ls hl => ?_)
    refine lv_goto (tgt := 42) hx hb dX9_ladder_101 (by decide) ?_
    exact hrec_42_0 v1 v2 x8 o_me _ _ _ h hw (lv_sub hl [1, 2, 3, 0] rfl)
  have lp_57_1 : ∀ (rec_42_0 : Int32 × Int32 × Int32 × Ob → Option (Int64 × Ob)) (hrec_42_0 : ∀ (v1 : Int32) (v2 : Int32) (v3 : Int32) (o_me : Ob) (H : Heap) (locs : List Loc) (ls : Array Slot), rec_42_0 (v1, v2, v3, o_me) = some y → Wd dC dI A s.heap [wX9 h_me q_me k_me o_me] H locs → lv_has ls 5 [(0, .ref h_me), (1, .int v1), (2, .int v2), (3, .int v3)] → W p l e ({ frames := 1, cells := 0, slots := 0, locals := 25 } : Room) s m ([.ref h_me, .int p0, .int p1] : List Value).toArray below meth c H locs 0 0 Qz (F0 m 42 ls [])) (N : Nat), ∀ (v1 : Int32) (v2 : Int32) (v3 : Int32) (v4 : Int32) (o_me : Ob) (H : Heap) (locs : List Loc) (ls : Array Slot), lp_X9_ladder_57  rec_42_0 N (v1, v2, v3, v4, o_me) = some y → Wd dC dI A s.heap [wX9 h_me q_me k_me o_me] H locs → lv_has ls 5 [(0, .ref h_me), (1, .int v1), (2, .int v2), (3, .int v3), (4, .int v4)] → W p l e ({ frames := 1, cells := 0, slots := 0, locals := 25 } : Room) s m ([.ref h_me, .int p0, .int p1] : List Value).toArray below meth c H locs 0 0 Qz (F0 m 57 ls []) := by
    intro rec_42_0 hrec_42_0
    intro N
    induction N with
    | zero =>
      intro v1 v2 v3 v4 o_me H locs ls h hw hl
      exact absurd (show (none : Option (Int64 × Ob)) = some y from h) (by simp)
    | succ N ih =>
      intro v1 v2 v3 v4 o_me H locs ls h hw hl
      have h : lb_X9_ladder_57  rec_42_0 (lp_X9_ladder_57  rec_42_0 N) v1 v2 v3 v4 o_me = some y := h
      unfold lb_X9_ladder_57 at h
      refine lv_iload hx hb dX9_ladder_57 (lv_at hl 4 rfl) ?_
      refine lv_iload_n hx hb dX9_ladder_59 rfl (lv_at hl 2 rfl) ?_
      refine lv_icmp_gt (tgt := 98) hx hb dX9_ladder_60 (by decide) (fun c => ?_) (fun c => ?_)
      · have h := z_t h c
        exact bk_98_2 rec_42_0 hrec_42_0 v1 v2 v3 o_me _ _ _ h hw (lv_sub hl [0, 1, 2, 3] rfl)
      · have h := z_f h c
        refine lv_iload hx hb dX9_ladder_63 (lv_at hl 4 rfl) ?_
        refine lv_iload_n hx hb dX9_ladder_65 rfl (lv_at hl 3 rfl) ?_
        refine lv_icmp_gt (tgt := 98) hx hb dX9_ladder_66 (by decide) (fun c => ?_) (fun c => ?_)
        · have h := z_t h c
          exact bk_98_2 rec_42_0 hrec_42_0 v1 v2 v3 o_me _ _ _ h hw (lv_sub hl [0, 1, 2, 3] rfl)
        · have h := z_f h c
          refine lv_iload_n hx hb dX9_ladder_69 rfl (lv_at hl 3 rfl) ?_
          refine lv_iconst (v := 2) hx hb dX9_ladder_70 (by decide) ?_
          refine lv_icmp_eq (tgt := 98) hx hb dX9_ladder_71 (by decide) (fun c => ?_) (fun c => ?_)
          · have h := z_t h c
            exact bk_98_2 rec_42_0 hrec_42_0 v1 v2 v3 o_me _ _ _ h hw (lv_sub hl [0, 1, 2, 3] rfl)
          · have h := z_f h c
            refine lv_aload_n hx hb dX9_ladder_74 rfl (lv_at hl 0 rfl) ?_
            refine fgX9_52 hx hb hts hown hK hw 0 rfl kw1228 dX9_ladder_75 ?_
            refine lv_iload_n hx hb dX9_ladder_78 rfl (lv_at hl 3 rfl) ?_
            refine lv_dup2_11 hx hb dX9_ladder_79 rfl rfl ?_
            obtain ⟨g9, h⟩ := z_gd h
            refine faX9_52 hx hb hK hw 0 rfl rfl g9 dX9_ladder_80 ?_
            refine lv_aload_n hx hb dX9_ladder_81 rfl (lv_at hl 0 rfl) ?_
            refine fgX9_52 hx hb hts hown hK hw 0 rfl kw1228 dX9_ladder_82 ?_
            refine lv_iload_n hx hb dX9_ladder_85 rfl (lv_at hl 3 rfl) ?_
            refine lv_iload hx hb dX9_ladder_86 (lv_at hl 4 rfl) ?_
            refine lv_isub hx hb dX9_ladder_88 ?_
            obtain ⟨g10, h⟩ := z_gd h
            refine faX9_52 hx hb hK hw 0 rfl rfl g10 dX9_ladder_89 ?_
            refine lv_ladd hx hb dX9_ladder_90 ?_
            obtain ⟨g11, h⟩ := z_gd h
            refine fbX9_52 hx hb hK hw 0 rfl rfl g11 dX9_ladder_91 (fun H locs hw => ?_)
            obtain ⟨o12, eo12, h⟩ := z_lt h
            have hw : Wd dC dI A s.heap [wX9 h_me q_me k_me o12] H locs := by rw [eo12]; exact hw
            obtain ⟨x13, ex13, h⟩ := z_lt h
            refine lv_iinc (v := x13) (lv' := [(4, .int x13), (0, .ref h_me), (1, .int v1), (2, .int v2), (3, .int v3)]) hx hb dX9_ladder_92 hl (k := 4) rfl ((congrArg (v4 + ·) (show Int32.ofInt 1 = (1 : Int32) from by decide)).trans ex13.symm) (by decide) rfl (fun ls hl => ?_)
            refine lv_goto (tgt := 57) hx hb dX9_ladder_95 (by decide) ?_
            exact ih v1 v2 v3 x13 o12 _ _ _ h hw (lv_sub hl [1, 2, 3, 4, 0] rfl)
  have lp_42_0 : ∀ (N : Nat), ∀ (v1 : Int32) (v2 : Int32) (v3 : Int32) (o_me : Ob) (H : Heap) (locs : List Loc) (ls : Array Slot), lp_X9_ladder_42   N (v1, v2, v3, o_me) = some y → Wd dC dI A s.heap [wX9 h_me q_me k_me o_me] H locs → lv_has ls 5 [(0, .ref h_me), (1, .int v1), (2, .int v2), (3, .int v3)] → W p l e ({ frames := 1, cells := 0, slots := 0, locals := 25 } : Room) s m ([.ref h_me, .int p0, .int p1] : List Value).toArray below meth c H locs 0 0 Qz (F0 m 42 ls []) := by
    intro N
    induction N with
    | zero =>
      intro v1 v2 v3 o_me H locs ls h hw hl
      exact absurd (show (none : Option (Int64 × Ob)) = some y from h) (by simp)
    | succ N ih =>
      intro v1 v2 v3 o_me H locs ls h hw hl
      have h : lb_X9_ladder_42   (lp_X9_ladder_42   N) v1 v2 v3 o_me = some y := h
      unfold lb_X9_ladder_42 at h
      refine lv_iload_n hx hb dX9_ladder_42 rfl (lv_at hl 3 rfl) ?_
      refine lv_iload_n hx hb dX9_ladder_43 rfl (lv_at hl 1 rfl) ?_
      refine lv_icmp_gt (tgt := 104) hx hb dX9_ladder_44 (by decide) (fun c => ?_) (fun c => ?_)
      · have h := z_t h c
        refine lv_aload_n hx hb dX9_ladder_104 rfl (lv_at hl 0 rfl) ?_
        refine fgX9_52 hx hb hts hown hK hw 0 rfl kw1228 dX9_ladder_105 ?_
        refine lv_iload_n hx hb dX9_ladder_108 rfl (lv_at hl 1 rfl) ?_
        obtain ⟨g5, h⟩ := z_gd h
        refine faX9_52 hx hb hK hw 0 rfl rfl g5 dX9_ladder_109 ?_
        have hy := Option.some.inj h
        rw [← hQz, ← hy]
        exact xr_l (v := gM o_me 52 v1.toNatClampNeg) hx hb hr hlk hK hw dX9_ladder_110
      · have h := z_f h c
        refine lv_aload_n hx hb dX9_ladder_47 rfl (lv_at hl 0 rfl) ?_
        refine fgX9_52 hx hb hts hown hK hw 0 rfl kw1228 dX9_ladder_48 ?_
        refine lv_iload_n hx hb dX9_ladder_51 rfl (lv_at hl 3 rfl) ?_
        refine lv_lconst (v := 0) hx hb dX9_ladder_52 (by decide) ?_
        obtain ⟨g6, h⟩ := z_gd h
        refine fbX9_52 hx hb hK hw 0 rfl rfl g6 dX9_ladder_53 (fun H locs hw => ?_)
        obtain ⟨o7, eo7, h⟩ := z_lt h
        have hw : Wd dC dI A s.heap [wX9 h_me q_me k_me o7] H locs := by rw [eo7]; exact hw
        refine lv_iconst (v := 1) hx hb dX9_ladder_54 (by decide) ?_
        refine lv_istore (lv' := [(4, .int (1 : Int32)), (0, .ref h_me), (1, .int v1), (2, .int v2), (3, .int v3)]) hx hb dX9_ladder_55 hl (by decide) rfl (fun ls hl => ?_)
        exact lp_57_1 (lp_X9_ladder_42   N) ih zfu v1 v2 v3 (1 : Int32) o7 _ _ _ h hw (lv_sub hl [1, 2, 3, 4, 0] rfl)
  unfold f_X9_ladder at h
  refine lv_aload_n hx hb dX9_ladder_0 rfl (lv_at hl 0 rfl) ?_
  refine lv_iconst (v := 0) hx hb dX9_ladder_1 (by decide) ?_
  refine fpX9_0 hx hb hts hown hK hw 0 rfl kw1176 dX9_ladder_2 (fun H locs hw => ?_)
  obtain ⟨o1, eo1, h⟩ := z_lt h
  have hw : Wd dC dI A s.heap [wX9 h_me q_me k_me o1] H locs := by rw [eo1]; exact hw
  refine lv_iload_n hx hb dX9_ladder_5 rfl (lv_at hl 1 rfl) ?_
  refine lv_i2l hx hb dX9_ladder_6 rfl ?_
  refine lv_lconst (v := 1) hx hb dX9_ladder_7 (by decide) ?_
  refine lv_ldc2 (v := 60) hx hb hown (hts _ kw1780) dX9_ladder_8 ?_
  obtain ⟨z2, ez2, h⟩ := z_bd h
  refine xj_i (xrS (As := [.long p0.toInt64, .long (1 : Int64), .long (60 : Int64)]) (rest := []) ⟨hx, hb, hml, hown, hts⟩ (m_X9_in l dC dI _  p0.toInt64 (1 : Int64) (60 : Int64) z2 ez2) kw1385 kw1383 kw1384 kw120 hd_X9_in ⟨rfl, rfl⟩ rfl rfl ⟨rfl, rfl⟩ hX hK hw [] (by decide) rfl rfl hl.1 rfl rfl dX9_ladder_11) hw hA [] (by decide) rfl rfl (fun H locs hw => ?_)
  refine lv_if_eq (tgt := 29) hx hb dX9_ladder_14 (by decide) (fun c => ?_) (fun c => ?_)
  · have h := z_t h c
    refine lv_ldc2 (v := (-1)) hx hb hown (hts _ kw1424) dX9_ladder_29 ?_
    have hy := Option.some.inj h
    rw [← hQz, ← hy]
    exact xr_l (v := (-1 : Int64)) hx hb hr hlk hK hw dX9_ladder_32
  · have h := z_f h c
    refine lv_iload_n hx hb dX9_ladder_17 rfl (lv_at hl 2 rfl) ?_
    refine lv_i2l hx hb dX9_ladder_18 rfl ?_
    refine lv_lconst (v := 1) hx hb dX9_ladder_19 (by decide) ?_
    refine lv_ldc2 (v := 5) hx hb hown (hts _ kw1781) dX9_ladder_20 ?_
    obtain ⟨z3, ez3, h⟩ := z_bd h
    refine xj_i (xrS (As := [.long p1.toInt64, .long (1 : Int64), .long (5 : Int64)]) (rest := []) ⟨hx, hb, hml, hown, hts⟩ (m_X9_in l dC dI _  p1.toInt64 (1 : Int64) (5 : Int64) z3 ez3) kw1385 kw1383 kw1384 kw120 hd_X9_in ⟨rfl, rfl⟩ rfl rfl ⟨rfl, rfl⟩ hX hK hw [] (by decide) rfl rfl hl.1 rfl rfl dX9_ladder_23) hw hA [] (by decide) rfl rfl (fun H locs hw => ?_)
    refine lv_if_ne (tgt := 33) hx hb dX9_ladder_26 (by decide) (fun c => ?_) (fun c => ?_)
    · have h := z_f h c
      refine lv_aload_n hx hb dX9_ladder_33 rfl (lv_at hl 0 rfl) ?_
      refine fgX9_52 hx hb hts hown hK hw 0 rfl kw1228 dX9_ladder_34 ?_
      refine lv_iconst (v := 0) hx hb dX9_ladder_37 (by decide) ?_
      refine lv_lconst (v := 1) hx hb dX9_ladder_38 (by decide) ?_
      refine fbX9_52 hx hb hK hw 0 rfl rfl (by decide) dX9_ladder_39 (fun H locs hw => ?_)
      obtain ⟨o4, eo4, h⟩ := z_lt h
      have hw : Wd dC dI A s.heap [wX9 h_me q_me k_me o4] H locs := by rw [eo4]; exact hw
      refine lv_iconst (v := 1) hx hb dX9_ladder_40 (by decide) ?_
      refine lv_istore_n (lv' := [(3, .int (1 : Int32)), (0, .ref h_me), (1, .int p0), (2, .int p1)]) hx hb dX9_ladder_41 rfl hl (by decide) rfl (fun ls hl => ?_)
      exact lp_42_0  zfu p0 p1 (1 : Int32) o4 _ _ _ h hw (lv_sub hl [1, 2, 3, 0] rfl)
    · have h := z_t h c
      refine lv_ldc2 (v := (-1)) hx hb hown (hts _ kw1424) dX9_ladder_29 ?_
      have hy := Option.some.inj h
      rw [← hQz, ← hy]
      exact xr_l (v := (-1 : Int64)) hx hb hr hlk hK hw dX9_ladder_32

def bk_X9_partAt_30 (o_me : Ob) (rec_4_0 : Int32 × Int32 → Option (Int32)) (v2 : Int32) (s0 : Int32) : Option (Int32) :=
  zlt (v2 + (1 : Int32)) fun x3 =>
  rec_4_0 (s0, x3)
def lb_X9_partAt_4 (o_me : Ob)  (rec_4_0 : Int32 × Int32 → Option (Int32)) (v1 : Int32) (v2 : Int32) : Option (Int32) :=
  if (9 : Int32) ≤ v2 then
  (some v1)
  else
  (zgd (zin v2 9) <|
  (f_X9_isWord o_me (gM o_me 31 v2.toNatClampNeg)).bind fun z2 =>
  if z2 = (0 : Int32) then
  (bk_X9_partAt_30 o_me rec_4_0 v2 v1)
  else
  (bk_X9_partAt_30 o_me rec_4_0 v2 (v2 + (1 : Int32))))
def lp_X9_partAt_4 (o_me : Ob)  : Nat → (Int32 × Int32) → Option (Int32) := zit (fun rec a => lb_X9_partAt_4 o_me  rec a.1 a.2)
def f_X9_partAt (o_me : Ob) : Option (Int32) :=
  lp_X9_partAt_4 o_me  zfu ((-1 : Int32), (0 : Int32))
set_option maxHeartbeats 4000000 in
set_option maxRecDepth 100000 in
theorem m_X9_partAt (l : Launch) (dC : Nat → ClassId) (dI : Nat → Nat → Nat) (sz : Nat) (h_me : Nat) (q_me : Nat → Nat) (k_me : Nat → ClassId) (o_me : Ob) (y : Int32) (h : f_X9_partAt o_me = some y) : CI l yX9_partAt cX9_partAt 3 (some .int) ({ frames := 1, cells := 0, slots := 0, locals := 22 } : Room) dC dI sz [.ref h_me] [wX9 h_me q_me k_me o_me] [tX9 k_me] y [wX9 h_me q_me k_me o_me] := by
  refine CC_of (by decide) (Nat.le_of_ble_eq_true rfl) ?_
  intro p e s m below meth c A ls hx hb hml hr hlk hnm hown hts hX hK hP hD hA hl
  have hl : lv_has ls 3 [(0, .ref h_me)] := hl
  have hown : s.vm.findClass RX9 = some m.cls := hown
  have hw : Wd dC dI A s.heap [wX9 h_me q_me k_me o_me] s.heap [] := ⟨hP, hD, va_S.rf⟩
  generalize hQz : (MQ below (QI dC dI (fun r (_ : Unit) => r = y) (fun _ => Jn [wX9 h_me q_me k_me o_me]) (fun _ => Jt [tX9 k_me]) A) ([.ref h_me] : List Value).toArray s 0 0 A) = Qz
  clear hP hD hnm
  have bk_30_1 : ∀ (rec_4_0 : Int32 × Int32 → Option (Int32)) (hrec_4_0 : ∀ (v1 : Int32) (v2 : Int32) (H : Heap) (locs : List Loc) (ls : Array Slot), rec_4_0 (v1, v2) = some y → Wd dC dI A s.heap [wX9 h_me q_me k_me o_me] H locs → lv_has ls 3 [(0, .ref h_me), (1, .int v1), (2, .int v2)] → W p l e ({ frames := 1, cells := 0, slots := 0, locals := 22 } : Room) s m ([.ref h_me] : List Value).toArray below meth c H locs 0 0 Qz (F0 m 4 ls [])), ∀ (v2 : Int32) (s0 : Int32) (H : Heap) (locs : List Loc) (ls : Array Slot), bk_X9_partAt_30 o_me rec_4_0 v2 s0 = some y → Wd dC dI A s.heap [wX9 h_me q_me k_me o_me] H locs → lv_has ls 3 [(0, .ref h_me), (2, .int v2)] → W p l e ({ frames := 1, cells := 0, slots := 0, locals := 22 } : Room) s m ([.ref h_me] : List Value).toArray below meth c H locs 0 0 Qz (F0 m 30 ls [.int s0]) := by
    intro rec_4_0 hrec_4_0
    intro v2 s0 H locs ls h hw hl
    unfold bk_X9_partAt_30 at h
    refine lv_istore_n (lv' := [(1, .int s0), (0, .ref h_me), (2, .int v2)]) hx hb dX9_partAt_30 rfl hl (by decide) rfl (fun ls hl => ?_)
    obtain ⟨x3, ex3, h⟩ := z_lt h
    refine lv_iinc (v := x3) (lv' := [(2, .int x3), (1, .int s0), (0, .ref h_me)]) hx hb dX9_partAt_31 hl (k := 2) rfl ((congrArg (v2 + ·) (show Int32.ofInt 1 = (1 : Int32) from by decide)).trans ex3.symm) (by decide) rfl (fun ls hl => ?_)
    refine lv_goto (tgt := 4) hx hb dX9_partAt_34 (by decide) ?_
    exact hrec_4_0 s0 x3 _ _ _ h hw (lv_sub hl [2, 1, 0] rfl)
  have lp_4_0 : ∀ (N : Nat), ∀ (v1 : Int32) (v2 : Int32) (H : Heap) (locs : List Loc) (ls : Array Slot), lp_X9_partAt_4 o_me  N (v1, v2) = some y → Wd dC dI A s.heap [wX9 h_me q_me k_me o_me] H locs → lv_has ls 3 [(0, .ref h_me), (1, .int v1), (2, .int v2)] → W p l e ({ frames := 1, cells := 0, slots := 0, locals := 22 } : Room) s m ([.ref h_me] : List Value).toArray below meth c H locs 0 0 Qz (F0 m 4 ls []) := by
    intro N
    induction N with
    | zero =>
      intro v1 v2 H locs ls h hw hl
      exact absurd (show (none : Option (Int32)) = some y from h) (by simp)
    | succ N ih =>
      intro v1 v2 H locs ls h hw hl
      have h : lb_X9_partAt_4 o_me  (lp_X9_partAt_4 o_me  N) v1 v2 = some y := h
      unfold lb_X9_partAt_4 at h
      refine lv_iload_n hx hb dX9_partAt_4 rfl (lv_at hl 2 rfl) ?_
      refine lv_bipush (v := 9) hx hb dX9_partAt_5 (by decide) ?_
      refine lv_icmp_ge (tgt := 37) hx hb dX9_partAt_7 (by decide) (fun c => ?_) (fun c => ?_)
      · have h := z_t h c
        refine lv_iload_n hx hb dX9_partAt_37 rfl (lv_at hl 1 rfl) ?_
        have hy := Option.some.inj h
        rw [← hQz, ← hy]
        exact xr_i (v := v1) hx hb hr rfl hlk hK hw dX9_partAt_38
      · have h := z_f h c
        refine lv_aload_n hx hb dX9_partAt_10 rfl (lv_at hl 0 rfl) ?_
        refine lv_aload_n hx hb dX9_partAt_11 rfl (lv_at hl 0 rfl) ?_
        refine fgX9_31 hx hb hts hown hK hw 0 rfl kw1207 dX9_partAt_12 ?_
        refine lv_iload_n hx hb dX9_partAt_15 rfl (lv_at hl 2 rfl) ?_
        obtain ⟨g1, h⟩ := z_gd h
        refine faX9_31 hx hb hK hw 0 rfl rfl g1 dX9_partAt_16 ?_
        obtain ⟨z2, ez2, h⟩ := z_bd h
        refine xj_i (xrV (As := [.long (gM o_me 31 v2.toNatClampNeg)]) (rest := []) ⟨hx, hb, hml, hown, hts⟩ (m_X9_isWord l dC dI _ h_me q_me k_me o_me (gM o_me 31 v2.toNatClampNeg) z2 ez2) kw1530 kw1527 kw1529 kw57 kw120 hd_X9_isWord ⟨rfl, rfl⟩ rfl rfl ⟨rfl, rfl⟩ hX hK hw [0] (by decide) rfl rfl rfl rfl rfl hl.1 rfl rfl dX9_partAt_17) hw hA [0] (by decide) rfl rfl (fun H locs hw => ?_)
        have hw : Wd dC dI A s.heap [wX9 h_me q_me k_me o_me] H locs := hw
        refine lv_if_eq (tgt := 29) hx hb dX9_partAt_20 (by decide) (fun c => ?_) (fun c => ?_)
        · have h := z_t h c
          refine lv_iload_n hx hb dX9_partAt_29 rfl (lv_at hl 1 rfl) ?_
          exact bk_30_1 (lp_X9_partAt_4 o_me  N) ih v2 v1 _ _ _ h hw (lv_sub hl [0, 2] rfl)
        · have h := z_f h c
          refine lv_iload_n hx hb dX9_partAt_23 rfl (lv_at hl 2 rfl) ?_
          refine lv_iconst (v := 1) hx hb dX9_partAt_24 (by decide) ?_
          refine lv_iadd hx hb dX9_partAt_25 ?_
          refine lv_goto (tgt := 30) hx hb dX9_partAt_26 (by decide) ?_
          exact bk_30_1 (lp_X9_partAt_4 o_me  N) ih v2 (v2 + (1 : Int32)) _ _ _ h hw (lv_sub hl [0, 2] rfl)
  unfold f_X9_partAt at h
  refine lv_iconst (v := (-1)) hx hb dX9_partAt_0 (by decide) ?_
  refine lv_istore_n (lv' := [(1, .int (-1 : Int32)), (0, .ref h_me)]) hx hb dX9_partAt_1 rfl hl (by decide) rfl (fun ls hl => ?_)
  refine lv_iconst (v := 0) hx hb dX9_partAt_2 (by decide) ?_
  refine lv_istore_n (lv' := [(2, .int (0 : Int32)), (1, .int (-1 : Int32)), (0, .ref h_me)]) hx hb dX9_partAt_3 rfl hl (by decide) rfl (fun ls hl => ?_)
  exact lp_4_0  zfu (-1 : Int32) (0 : Int32) _ _ _ h hw (lv_sub hl [2, 1, 0] rfl)

def bk_X9_leaf_19   (v2 : Int32) (v3 : Int32) (s0 : Int32) (o_me : Ob) : Option (Ob) :=
  (f_X9_must o_me s0).bind fun z1 =>
  if (gI z1 19) = (0 : Int32) then
  ((f_X9_emit z1 v2 v3).bind fun z2 =>
  zlt (sI z2 26 ((gI z2 26) + (1 : Int32))) fun o3 =>
  some o3)
  else
  (some z1)
def bk_X9_leaf_18   (v2 : Int32) (v3 : Int32) (o_me : Ob) : Option (Ob) :=
  bk_X9_leaf_19   v2 v3 (0 : Int32) o_me
def f_X9_leaf (o_me : Ob) (p0 : Int32) (p1 : Int32) (p2 : Int32) : Option (Ob) :=
  if p0 = (0 : Int32) then
  (bk_X9_leaf_18   p1 p2 o_me)
  else
  (if (50 : Int32) ≤ (gI o_me 26) then
  (bk_X9_leaf_18   p1 p2 o_me)
  else
  (bk_X9_leaf_19   p1 p2 (1 : Int32) o_me))
set_option maxHeartbeats 4000000 in
set_option maxRecDepth 100000 in
theorem m_X9_leaf (l : Launch) (dC : Nat → ClassId) (dI : Nat → Nat → Nat) (sz : Nat) (h_me : Nat) (q_me : Nat → Nat) (k_me : Nat → ClassId) (o_me : Ob) (p0 : Int32) (p1 : Int32) (p2 : Int32) (y : Ob) (h : f_X9_leaf o_me p0 p1 p2 = some y) : CV l yX9_leaf cX9_leaf 4 none ({ frames := 3, cells := 0, slots := 0, locals := 61 } : Room) dC dI sz [.ref h_me, .int p0, .int p1, .int p2] [wX9 h_me q_me k_me o_me] [tX9 k_me] [wX9 h_me q_me k_me y] := by
  refine CC_of (by decide) (Nat.le_of_ble_eq_true rfl) ?_
  intro p e s m below meth c A ls hx hb hml hr hlk hnm hown hts hX hK hP hD hA hl
  have hl : lv_has ls 4 [(0, .ref h_me), (1, .int p0), (2, .int p1), (3, .int p2)] := hl
  have hown : s.vm.findClass RX9 = some m.cls := hown
  have hw : Wd dC dI A s.heap [wX9 h_me q_me k_me o_me] s.heap [] := ⟨hP, hD, va_S.rf⟩
  generalize hQz : (MQ below (QV dC dI (fun (_ : Unit) => True) (fun _ => Jn [wX9 h_me q_me k_me y]) (fun _ => Jt [tX9 k_me]) A) ([.ref h_me, .int p0, .int p1, .int p2] : List Value).toArray s 0 0 A) = Qz
  clear hP hD hnm
  have bk_19_1 : ∀ (v2 : Int32) (v3 : Int32) (s0 : Int32) (o_me : Ob) (H : Heap) (locs : List Loc) (ls : Array Slot), bk_X9_leaf_19   v2 v3 s0 o_me = some y → Wd dC dI A s.heap [wX9 h_me q_me k_me o_me] H locs → lv_has ls 4 [(0, .ref h_me), (2, .int v2), (3, .int v3)] → W p l e ({ frames := 3, cells := 0, slots := 0, locals := 61 } : Room) s m ([.ref h_me, .int p0, .int p1, .int p2] : List Value).toArray below meth c H locs 0 0 Qz (F0 m 19 ls [.int s0, .ref h_me]) := by
    intro v2 v3 s0 o_me H locs ls h hw hl
    unfold bk_X9_leaf_19 at h
    obtain ⟨z1, ez1, h⟩ := z_bd h
    refine xj_v (xrV (As := [.int s0]) (rest := []) ⟨hx, hb, hml, hown, hts⟩ (m_X9_must l dC dI _ h_me q_me k_me o_me s0 z1 ez1) kw1534 kw1531 kw1533 kw58 kw120 hd_X9_must ⟨rfl, rfl⟩ rfl rfl ⟨rfl, rfl⟩ hX hK hw [0] (by decide) rfl rfl rfl rfl rfl hl.1 rfl rfl dX9_leaf_19) hw hA [0] (by decide) rfl rfl (fun H locs hw => ?_)
    have hw : Wd dC dI A s.heap [wX9 h_me q_me k_me z1] H locs := hw
    refine lv_aload_n hx hb dX9_leaf_22 rfl (lv_at hl 0 rfl) ?_
    refine fgX9_19 hx hb hts hown hK hw 0 rfl kw1195 dX9_leaf_23 ?_
    refine lv_if_ne (tgt := 45) hx hb dX9_leaf_26 (by decide) (fun c => ?_) (fun c => ?_)
    · have h := z_f h c
      have hy := Option.some.inj h
      rw [← hQz, ← hy]
      exact xr_v hx hb hr hlk hK hw dX9_leaf_45
    · have h := z_t h c
      refine lv_aload_n hx hb dX9_leaf_29 rfl (lv_at hl 0 rfl) ?_
      refine lv_iload_n hx hb dX9_leaf_30 rfl (lv_at hl 1 rfl) ?_
      refine lv_iload_n hx hb dX9_leaf_31 rfl (lv_at hl 2 rfl) ?_
      obtain ⟨z2, ez2, h⟩ := z_bd h
      refine xj_v (xrV (As := [.int v2, .int v3]) (rest := []) ⟨hx, hb, hml, hown, hts⟩ (m_X9_emit l dC dI _ h_me q_me k_me z1 v2 v3 z2 ez2) kw1576 kw1573 kw1575 kw68 kw120 hd_X9_emit ⟨rfl, rfl⟩ rfl rfl ⟨rfl, rfl⟩ hX hK hw [0] (by decide) rfl rfl rfl rfl rfl hl.1 rfl rfl dX9_leaf_32) hw hA [0] (by decide) rfl rfl (fun H locs hw => ?_)
      have hw : Wd dC dI A s.heap [wX9 h_me q_me k_me z2] H locs := hw
      refine lv_aload_n hx hb dX9_leaf_35 rfl (lv_at hl 0 rfl) ?_
      refine lv_dup hx hb dX9_leaf_36 rfl ?_
      refine fgX9_26 hx hb hts hown hK hw 0 rfl kw1202 dX9_leaf_37 ?_
      refine lv_iconst (v := 1) hx hb dX9_leaf_40 (by decide) ?_
      refine lv_iadd hx hb dX9_leaf_41 ?_
      refine fpX9_26 hx hb hts hown hK hw 0 rfl kw1202 dX9_leaf_42 (fun H locs hw => ?_)
      obtain ⟨o3, eo3, h⟩ := z_lt h
      have hw : Wd dC dI A s.heap [wX9 h_me q_me k_me o3] H locs := by rw [eo3]; exact hw
      have hy := Option.some.inj h
      rw [← hQz, ← hy]
      exact xr_v hx hb hr hlk hK hw dX9_leaf_45
  have bk_18_0 : ∀ (v2 : Int32) (v3 : Int32) (o_me : Ob) (H : Heap) (locs : List Loc) (ls : Array Slot), bk_X9_leaf_18   v2 v3 o_me = some y → Wd dC dI A s.heap [wX9 h_me q_me k_me o_me] H locs → lv_has ls 4 [(0, .ref h_me), (2, .int v2), (3, .int v3)] → W p l e ({ frames := 3, cells := 0, slots := 0, locals := 61 } : Room) s m ([.ref h_me, .int p0, .int p1, .int p2] : List Value).toArray below meth c H locs 0 0 Qz (F0 m 18 ls [.ref h_me]) := by
    intro v2 v3 o_me H locs ls h hw hl
    unfold bk_X9_leaf_18 at h
    refine lv_iconst (v := 0) hx hb dX9_leaf_18 (by decide) ?_
    exact bk_19_1  v2 v3 (0 : Int32) o_me _ _ _ h hw (lv_sub hl [0, 1, 2] rfl)
  unfold f_X9_leaf at h
  refine lv_aload_n hx hb dX9_leaf_0 rfl (lv_at hl 0 rfl) ?_
  refine lv_iload_n hx hb dX9_leaf_1 rfl (lv_at hl 1 rfl) ?_
  refine lv_if_eq (tgt := 18) hx hb dX9_leaf_2 (by decide) (fun c => ?_) (fun c => ?_)
  · have h := z_t h c
    exact bk_18_0  p1 p2 o_me _ _ _ h hw (lv_sub hl [0, 2, 3] rfl)
  · have h := z_f h c
    refine lv_aload_n hx hb dX9_leaf_5 rfl (lv_at hl 0 rfl) ?_
    refine fgX9_26 hx hb hts hown hK hw 0 rfl kw1202 dX9_leaf_6 ?_
    refine lv_bipush (v := 50) hx hb dX9_leaf_9 (by decide) ?_
    refine lv_icmp_ge (tgt := 18) hx hb dX9_leaf_11 (by decide) (fun c => ?_) (fun c => ?_)
    · have h := z_t h c
      exact bk_18_0  p1 p2 o_me _ _ _ h hw (lv_sub hl [0, 2, 3] rfl)
    · have h := z_f h c
      refine lv_iconst (v := 1) hx hb dX9_leaf_14 (by decide) ?_
      refine lv_goto (tgt := 19) hx hb dX9_leaf_15 (by decide) ?_
      exact bk_19_1  p1 p2 (1 : Int32) o_me _ _ _ h hw (lv_sub hl [0, 2, 3] rfl)

def bk_X9_number_33   (v5 : Int32) (s0 : Int32) (o_me : Ob) : Option (Int32 × Ob) :=
  (f_X9_must o_me s0).bind fun z2 =>
  some (v5, z2)
def bk_X9_number_32   (v5 : Int32) (o_me : Ob) : Option (Int32 × Ob) :=
  bk_X9_number_33   v5 (0 : Int32) o_me
def f_X9_number (o_me : Ob) (p0 : Int64) (p1 : Int64) : Option (Int32 × Ob) :=
  zlt ((gL o_me 17).toInt32) fun x1 =>
  if (gI o_me 16) = (2 : Int32) then
  ((f_X9_in (gL o_me 17) p0 p1).bind fun z3 =>
  if z3 = (0 : Int32) then
  (bk_X9_number_32   x1 o_me)
  else
  (bk_X9_number_33   x1 (1 : Int32) o_me))
  else
  (bk_X9_number_32   x1 o_me)
set_option maxHeartbeats 4000000 in
set_option maxRecDepth 100000 in
theorem m_X9_number (l : Launch) (dC : Nat → ClassId) (dI : Nat → Nat → Nat) (sz : Nat) (h_me : Nat) (q_me : Nat → Nat) (k_me : Nat → ClassId) (o_me : Ob) (p0 : Int64) (p1 : Int64) (y : Int32 × Ob) (h : f_X9_number o_me p0 p1 = some y) : CI l yX9_number cX9_number 6 (some .int) ({ frames := 3, cells := 0, slots := 0, locals := 61 } : Room) dC dI sz [.ref h_me, .long p0, .long p1] [wX9 h_me q_me k_me o_me] [tX9 k_me] y.1 [wX9 h_me q_me k_me y.2] := by
  refine CC_of (by decide) (Nat.le_of_ble_eq_true rfl) ?_
  intro p e s m below meth c A ls hx hb hml hr hlk hnm hown hts hX hK hP hD hA hl
  have hl : lv_has ls 6 [(0, .ref h_me), (1, .long p0), (3, .long p1)] := hl
  have hown : s.vm.findClass RX9 = some m.cls := hown
  have hw : Wd dC dI A s.heap [wX9 h_me q_me k_me o_me] s.heap [] := ⟨hP, hD, va_S.rf⟩
  generalize hQz : (MQ below (QI dC dI (fun r (_ : Unit) => r = y.1) (fun _ => Jn [wX9 h_me q_me k_me y.2]) (fun _ => Jt [tX9 k_me]) A) ([.ref h_me, .long p0, .long p1] : List Value).toArray s 0 0 A) = Qz
  clear hP hD hnm
  have bk_33_1 : ∀ (v5 : Int32) (s0 : Int32) (o_me : Ob) (H : Heap) (locs : List Loc) (ls : Array Slot), bk_X9_number_33   v5 s0 o_me = some y → Wd dC dI A s.heap [wX9 h_me q_me k_me o_me] H locs → lv_has ls 6 [(5, .int v5)] → W p l e ({ frames := 3, cells := 0, slots := 0, locals := 61 } : Room) s m ([.ref h_me, .long p0, .long p1] : List Value).toArray below meth c H locs 0 0 Qz (F0 m 33 ls [.int s0, .ref h_me]) := by
    intro v5 s0 o_me H locs ls h hw hl
    unfold bk_X9_number_33 at h
    obtain ⟨z2, ez2, h⟩ := z_bd h
    refine xj_v (xrV (As := [.int s0]) (rest := []) ⟨hx, hb, hml, hown, hts⟩ (m_X9_must l dC dI _ h_me q_me k_me o_me s0 z2 ez2) kw1534 kw1531 kw1533 kw58 kw120 hd_X9_must ⟨rfl, rfl⟩ rfl rfl ⟨rfl, rfl⟩ hX hK hw [0] (by decide) rfl rfl rfl rfl rfl hl.1 rfl rfl dX9_number_33) hw hA [0] (by decide) rfl rfl (fun H locs hw => ?_)
    have hw : Wd dC dI A s.heap [wX9 h_me q_me k_me z2] H locs := hw
    refine lv_iload hx hb dX9_number_36 (lv_at hl 0 rfl) ?_
    have hy := Option.some.inj h
    rw [← hQz, ← hy]
    exact xr_i (v := v5) hx hb hr rfl hlk hK hw dX9_number_38
  have bk_32_0 : ∀ (v5 : Int32) (o_me : Ob) (H : Heap) (locs : List Loc) (ls : Array Slot), bk_X9_number_32   v5 o_me = some y → Wd dC dI A s.heap [wX9 h_me q_me k_me o_me] H locs → lv_has ls 6 [(5, .int v5)] → W p l e ({ frames := 3, cells := 0, slots := 0, locals := 61 } : Room) s m ([.ref h_me, .long p0, .long p1] : List Value).toArray below meth c H locs 0 0 Qz (F0 m 32 ls [.ref h_me]) := by
    intro v5 o_me H locs ls h hw hl
    unfold bk_X9_number_32 at h
    refine lv_iconst (v := 0) hx hb dX9_number_32 (by decide) ?_
    exact bk_33_1  v5 (0 : Int32) o_me _ _ _ h hw (lv_sub hl [0] rfl)
  unfold f_X9_number at h
  refine lv_aload_n hx hb dX9_number_0 rfl (lv_at hl 0 rfl) ?_
  refine fgX9_17 hx hb hts hown hK hw 0 rfl kw1193 dX9_number_1 ?_
  refine lv_l2i hx hb dX9_number_4 rfl ?_
  obtain ⟨x1, ex1, h⟩ := z_lt h
  refine lv_fi (v := x1) ex1.symm ?_
  refine lv_istore (lv' := [(5, .int x1), (0, .ref h_me), (1, .long p0), (3, .long p1)]) hx hb dX9_number_5 hl (by decide) rfl (fun ls hl => ?_)
  refine lv_aload_n hx hb dX9_number_7 rfl (lv_at hl 1 rfl) ?_
  refine lv_aload_n hx hb dX9_number_8 rfl (lv_at hl 1 rfl) ?_
  refine fgX9_16 hx hb hts hown hK hw 0 rfl kw1192 dX9_number_9 ?_
  refine lv_iconst (v := 2) hx hb dX9_number_12 (by decide) ?_
  refine lv_icmp_ne (tgt := 32) hx hb dX9_number_13 (by decide) (fun c => ?_) (fun c => ?_)
  · have h := z_f h c
    exact bk_32_0  x1 o_me _ _ _ h hw (lv_sub hl [0] rfl)
  · have h := z_t h c
    refine lv_aload_n hx hb dX9_number_16 rfl (lv_at hl 1 rfl) ?_
    refine fgX9_17 hx hb hts hown hK hw 0 rfl kw1193 dX9_number_17 ?_
    refine lv_lload_n hx hb dX9_number_20 rfl (lv_at hl 2 rfl) ?_
    refine lv_lload_n hx hb dX9_number_21 rfl (lv_at hl 3 rfl) ?_
    obtain ⟨z3, ez3, h⟩ := z_bd h
    refine xj_i (xrS (As := [.long (gL o_me 17), .long p0, .long p1]) (rest := [.ref h_me]) ⟨hx, hb, hml, hown, hts⟩ (m_X9_in l dC dI _  (gL o_me 17) p0 p1 z3 ez3) kw1385 kw1383 kw1384 kw120 hd_X9_in ⟨rfl, rfl⟩ rfl rfl ⟨rfl, rfl⟩ hX hK hw [] (by decide) rfl rfl hl.1 rfl rfl dX9_number_22) hw hA [] (by decide) rfl rfl (fun H locs hw => ?_)
    refine lv_if_eq (tgt := 32) hx hb dX9_number_25 (by decide) (fun c => ?_) (fun c => ?_)
    · have h := z_t h c
      exact bk_32_0  x1 o_me _ _ _ h hw (lv_sub hl [0] rfl)
    · have h := z_f h c
      refine lv_iconst (v := 1) hx hb dX9_number_28 (by decide) ?_
      refine lv_goto (tgt := 33) hx hb dX9_number_29 (by decide) ?_
      exact bk_33_1  x1 (1 : Int32) o_me _ _ _ h hw (lv_sub hl [0] rfl)

def bk_X9_orderPartAt_30 (o_me : Ob) (rec_4_0 : Int32 × Int32 → Option (Int32)) (v2 : Int32) (s0 : Int32) : Option (Int32) :=
  zlt (v2 + (1 : Int32)) fun x3 =>
  rec_4_0 (s0, x3)
def lb_X9_orderPartAt_4 (o_me : Ob)  (rec_4_0 : Int32 × Int32 → Option (Int32)) (v1 : Int32) (v2 : Int32) : Option (Int32) :=
  if (7 : Int32) ≤ v2 then
  (some v1)
  else
  (zgd (zin v2 7) <|
  (f_X9_isWord o_me (gM o_me 32 v2.toNatClampNeg)).bind fun z2 =>
  if z2 = (0 : Int32) then
  (bk_X9_orderPartAt_30 o_me rec_4_0 v2 v1)
  else
  (bk_X9_orderPartAt_30 o_me rec_4_0 v2 (v2 + (1 : Int32))))
def lp_X9_orderPartAt_4 (o_me : Ob)  : Nat → (Int32 × Int32) → Option (Int32) := zit (fun rec a => lb_X9_orderPartAt_4 o_me  rec a.1 a.2)
def f_X9_orderPartAt (o_me : Ob) : Option (Int32) :=
  lp_X9_orderPartAt_4 o_me  zfu ((-1 : Int32), (0 : Int32))
set_option maxHeartbeats 4000000 in
set_option maxRecDepth 100000 in
theorem m_X9_orderPartAt (l : Launch) (dC : Nat → ClassId) (dI : Nat → Nat → Nat) (sz : Nat) (h_me : Nat) (q_me : Nat → Nat) (k_me : Nat → ClassId) (o_me : Ob) (y : Int32) (h : f_X9_orderPartAt o_me = some y) : CI l yX9_orderPartAt cX9_orderPartAt 3 (some .int) ({ frames := 1, cells := 0, slots := 0, locals := 22 } : Room) dC dI sz [.ref h_me] [wX9 h_me q_me k_me o_me] [tX9 k_me] y [wX9 h_me q_me k_me o_me] := by
  refine CC_of (by decide) (Nat.le_of_ble_eq_true rfl) ?_
  intro p e s m below meth c A ls hx hb hml hr hlk hnm hown hts hX hK hP hD hA hl
  have hl : lv_has ls 3 [(0, .ref h_me)] := hl
  have hown : s.vm.findClass RX9 = some m.cls := hown
  have hw : Wd dC dI A s.heap [wX9 h_me q_me k_me o_me] s.heap [] := ⟨hP, hD, va_S.rf⟩
  generalize hQz : (MQ below (QI dC dI (fun r (_ : Unit) => r = y) (fun _ => Jn [wX9 h_me q_me k_me o_me]) (fun _ => Jt [tX9 k_me]) A) ([.ref h_me] : List Value).toArray s 0 0 A) = Qz
  clear hP hD hnm
  have bk_30_1 : ∀ (rec_4_0 : Int32 × Int32 → Option (Int32)) (hrec_4_0 : ∀ (v1 : Int32) (v2 : Int32) (H : Heap) (locs : List Loc) (ls : Array Slot), rec_4_0 (v1, v2) = some y → Wd dC dI A s.heap [wX9 h_me q_me k_me o_me] H locs → lv_has ls 3 [(0, .ref h_me), (1, .int v1), (2, .int v2)] → W p l e ({ frames := 1, cells := 0, slots := 0, locals := 22 } : Room) s m ([.ref h_me] : List Value).toArray below meth c H locs 0 0 Qz (F0 m 4 ls [])), ∀ (v2 : Int32) (s0 : Int32) (H : Heap) (locs : List Loc) (ls : Array Slot), bk_X9_orderPartAt_30 o_me rec_4_0 v2 s0 = some y → Wd dC dI A s.heap [wX9 h_me q_me k_me o_me] H locs → lv_has ls 3 [(0, .ref h_me), (2, .int v2)] → W p l e ({ frames := 1, cells := 0, slots := 0, locals := 22 } : Room) s m ([.ref h_me] : List Value).toArray below meth c H locs 0 0 Qz (F0 m 30 ls [.int s0]) := by
    intro rec_4_0 hrec_4_0
    intro v2 s0 H locs ls h hw hl
    unfold bk_X9_orderPartAt_30 at h
    refine lv_istore_n (lv' := [(1, .int s0), (0, .ref h_me), (2, .int v2)]) hx hb dX9_orderPartAt_30 rfl hl (by decide) rfl (fun ls hl => ?_)
    obtain ⟨x3, ex3, h⟩ := z_lt h
    refine lv_iinc (v := x3) (lv' := [(2, .int x3), (1, .int s0), (0, .ref h_me)]) hx hb dX9_orderPartAt_31 hl (k := 2) rfl ((congrArg (v2 + ·) (show Int32.ofInt 1 = (1 : Int32) from by decide)).trans ex3.symm) (by decide) rfl (fun ls hl => ?_)
    refine lv_goto (tgt := 4) hx hb dX9_orderPartAt_34 (by decide) ?_
    exact hrec_4_0 s0 x3 _ _ _ h hw (lv_sub hl [2, 1, 0] rfl)
  have lp_4_0 : ∀ (N : Nat), ∀ (v1 : Int32) (v2 : Int32) (H : Heap) (locs : List Loc) (ls : Array Slot), lp_X9_orderPartAt_4 o_me  N (v1, v2) = some y → Wd dC dI A s.heap [wX9 h_me q_me k_me o_me] H locs → lv_has ls 3 [(0, .ref h_me), (1, .int v1), (2, .int v2)] → W p l e ({ frames := 1, cells := 0, slots := 0, locals := 22 } : Room) s m ([.ref h_me] : List Value).toArray below meth c H locs 0 0 Qz (F0 m 4 ls []) := by
    intro N
    induction N with
    | zero =>
      intro v1 v2 H locs ls h hw hl
      exact absurd (show (none : Option (Int32)) = some y from h) (by simp)
    | succ N ih =>
      intro v1 v2 H locs ls h hw hl
      have h : lb_X9_orderPartAt_4 o_me  (lp_X9_orderPartAt_4 o_me  N) v1 v2 = some y := h
      unfold lb_X9_orderPartAt_4 at h
      refine lv_iload_n hx hb dX9_orderPartAt_4 rfl (lv_at hl 2 rfl) ?_
      refine lv_bipush (v := 7) hx hb dX9_orderPartAt_5 (by decide) ?_
      refine lv_icmp_ge (tgt := 37) hx hb dX9_orderPartAt_7 (by decide) (fun c => ?_) (fun c => ?_)
      · have h := z_t h c
        refine lv_iload_n hx hb dX9_orderPartAt_37 rfl (lv_at hl 1 rfl) ?_
        have hy := Option.some.inj h
        rw [← hQz, ← hy]
        exact xr_i (v := v1) hx hb hr rfl hlk hK hw dX9_orderPartAt_38
      · have h := z_f h c
        refine lv_aload_n hx hb dX9_orderPartAt_10 rfl (lv_at hl 0 rfl) ?_
        refine lv_aload_n hx hb dX9_orderPartAt_11 rfl (lv_at hl 0 rfl) ?_
        refine fgX9_32 hx hb hts hown hK hw 0 rfl kw1208 dX9_orderPartAt_12 ?_
        refine lv_iload_n hx hb dX9_orderPartAt_15 rfl (lv_at hl 2 rfl) ?_
        obtain ⟨g1, h⟩ := z_gd h
        refine faX9_32 hx hb hK hw 0 rfl rfl g1 dX9_orderPartAt_16 ?_
        obtain ⟨z2, ez2, h⟩ := z_bd h
        refine xj_i (xrV (As := [.long (gM o_me 32 v2.toNatClampNeg)]) (rest := []) ⟨hx, hb, hml, hown, hts⟩ (m_X9_isWord l dC dI _ h_me q_me k_me o_me (gM o_me 32 v2.toNatClampNeg) z2 ez2) kw1530 kw1527 kw1529 kw57 kw120 hd_X9_isWord ⟨rfl, rfl⟩ rfl rfl ⟨rfl, rfl⟩ hX hK hw [0] (by decide) rfl rfl rfl rfl rfl hl.1 rfl rfl dX9_orderPartAt_17) hw hA [0] (by decide) rfl rfl (fun H locs hw => ?_)
        have hw : Wd dC dI A s.heap [wX9 h_me q_me k_me o_me] H locs := hw
        refine lv_if_eq (tgt := 29) hx hb dX9_orderPartAt_20 (by decide) (fun c => ?_) (fun c => ?_)
        · have h := z_t h c
          refine lv_iload_n hx hb dX9_orderPartAt_29 rfl (lv_at hl 1 rfl) ?_
          exact bk_30_1 (lp_X9_orderPartAt_4 o_me  N) ih v2 v1 _ _ _ h hw (lv_sub hl [0, 2] rfl)
        · have h := z_f h c
          refine lv_iload_n hx hb dX9_orderPartAt_23 rfl (lv_at hl 2 rfl) ?_
          refine lv_iconst (v := 1) hx hb dX9_orderPartAt_24 (by decide) ?_
          refine lv_iadd hx hb dX9_orderPartAt_25 ?_
          refine lv_goto (tgt := 30) hx hb dX9_orderPartAt_26 (by decide) ?_
          exact bk_30_1 (lp_X9_orderPartAt_4 o_me  N) ih v2 (v2 + (1 : Int32)) _ _ _ h hw (lv_sub hl [0, 2] rfl)
  unfold f_X9_orderPartAt at h
  refine lv_iconst (v := (-1)) hx hb dX9_orderPartAt_0 (by decide) ?_
  refine lv_istore_n (lv' := [(1, .int (-1 : Int32)), (0, .ref h_me)]) hx hb dX9_orderPartAt_1 rfl hl (by decide) rfl (fun ls hl => ?_)
  refine lv_iconst (v := 0) hx hb dX9_orderPartAt_2 (by decide) ?_
  refine lv_istore_n (lv' := [(2, .int (0 : Int32)), (1, .int (-1 : Int32)), (0, .ref h_me)]) hx hb dX9_orderPartAt_3 rfl hl (by decide) rfl (fun ls hl => ?_)
  exact lp_4_0  zfu (-1 : Int32) (0 : Int32) _ _ _ h hw (lv_sub hl [2, 1, 0] rfl)

def bk_X9_openBracket_15   (v1 : Int32) (s0 : Int32) (o_me : Ob) : Option (Ob) :=
  (f_X9_must o_me s0).bind fun z1 =>
  if (gI z1 19) = (0 : Int32) then
  (zlt (sI z1 30 ((gI z1 30) + (1 : Int32))) fun o2 =>
  (f_X9_push o2 v1 (0 : Int32)).bind fun z3 =>
  some z3)
  else
  (some z1)
def f_X9_openBracket (o_me : Ob) (p0 : Int32) : Option (Ob) :=
  if (8 : Int32) ≤ (gI o_me 30) then
  (bk_X9_openBracket_15   p0 (0 : Int32) o_me)
  else
  (bk_X9_openBracket_15   p0 (1 : Int32) o_me)
set_option maxHeartbeats 4000000 in
set_option maxRecDepth 100000 in
theorem m_X9_openBracket (l : Launch) (dC : Nat → ClassId) (dI : Nat → Nat → Nat) (sz : Nat) (h_me : Nat) (q_me : Nat → Nat) (k_me : Nat → ClassId) (o_me : Ob) (p0 : Int32) (y : Ob) (h : f_X9_openBracket o_me p0 = some y) : CV l yX9_openBracket cX9_openBracket 2 none ({ frames := 3, cells := 0, slots := 0, locals := 61 } : Room) dC dI sz [.ref h_me, .int p0] [wX9 h_me q_me k_me o_me] [tX9 k_me] [wX9 h_me q_me k_me y] := by
  refine CC_of (by decide) (Nat.le_of_ble_eq_true rfl) ?_
  intro p e s m below meth c A ls hx hb hml hr hlk hnm hown hts hX hK hP hD hA hl
  have hl : lv_has ls 2 [(0, .ref h_me), (1, .int p0)] := hl
  have hown : s.vm.findClass RX9 = some m.cls := hown
  have hw : Wd dC dI A s.heap [wX9 h_me q_me k_me o_me] s.heap [] := ⟨hP, hD, va_S.rf⟩
  generalize hQz : (MQ below (QV dC dI (fun (_ : Unit) => True) (fun _ => Jn [wX9 h_me q_me k_me y]) (fun _ => Jt [tX9 k_me]) A) ([.ref h_me, .int p0] : List Value).toArray s 0 0 A) = Qz
  clear hP hD hnm
  have bk_15_0 : ∀ (v1 : Int32) (s0 : Int32) (o_me : Ob) (H : Heap) (locs : List Loc) (ls : Array Slot), bk_X9_openBracket_15   v1 s0 o_me = some y → Wd dC dI A s.heap [wX9 h_me q_me k_me o_me] H locs → lv_has ls 2 [(0, .ref h_me), (1, .int v1)] → W p l e ({ frames := 3, cells := 0, slots := 0, locals := 61 } : Room) s m ([.ref h_me, .int p0] : List Value).toArray below meth c H locs 0 0 Qz (F0 m 15 ls [.int s0, .ref h_me]) := by
    intro v1 s0 o_me H locs ls h hw hl
    unfold bk_X9_openBracket_15 at h
    obtain ⟨z1, ez1, h⟩ := z_bd h
    refine xj_v (xrV (As := [.int s0]) (rest := []) ⟨hx, hb, hml, hown, hts⟩ (m_X9_must l dC dI _ h_me q_me k_me o_me s0 z1 ez1) kw1534 kw1531 kw1533 kw58 kw120 hd_X9_must ⟨rfl, rfl⟩ rfl rfl ⟨rfl, rfl⟩ hX hK hw [0] (by decide) rfl rfl rfl rfl rfl hl.1 rfl rfl dX9_openBracket_15) hw hA [0] (by decide) rfl rfl (fun H locs hw => ?_)
    have hw : Wd dC dI A s.heap [wX9 h_me q_me k_me z1] H locs := hw
    refine lv_aload_n hx hb dX9_openBracket_18 rfl (lv_at hl 0 rfl) ?_
    refine fgX9_19 hx hb hts hown hK hw 0 rfl kw1195 dX9_openBracket_19 ?_
    refine lv_if_ne (tgt := 41) hx hb dX9_openBracket_22 (by decide) (fun c => ?_) (fun c => ?_)
    · have h := z_f h c
      have hy := Option.some.inj h
      rw [← hQz, ← hy]
      exact xr_v hx hb hr hlk hK hw dX9_openBracket_41
    · have h := z_t h c
      refine lv_aload_n hx hb dX9_openBracket_25 rfl (lv_at hl 0 rfl) ?_
      refine lv_dup hx hb dX9_openBracket_26 rfl ?_
      refine fgX9_30 hx hb hts hown hK hw 0 rfl kw1206 dX9_openBracket_27 ?_
      refine lv_iconst (v := 1) hx hb dX9_openBracket_30 (by decide) ?_
      refine lv_iadd hx hb dX9_openBracket_31 ?_
      refine fpX9_30 hx hb hts hown hK hw 0 rfl kw1206 dX9_openBracket_32 (fun H locs hw => ?_)
      obtain ⟨o2, eo2, h⟩ := z_lt h
      have hw : Wd dC dI A s.heap [wX9 h_me q_me k_me o2] H locs := by rw [eo2]; exact hw
      refine lv_aload_n hx hb dX9_openBracket_35 rfl (lv_at hl 0 rfl) ?_
      refine lv_iload_n hx hb dX9_openBracket_36 rfl (lv_at hl 1 rfl) ?_
      refine lv_iconst (v := 0) hx hb dX9_openBracket_37 (by decide) ?_
      obtain ⟨z3, ez3, h⟩ := z_bd h
      refine xj_v (xrV (As := [.int v1, .int (0 : Int32)]) (rest := []) ⟨hx, hb, hml, hown, hts⟩ (m_X9_push l dC dI _ h_me q_me k_me o2 v1 (0 : Int32) z3 ez3) kw1547 kw1544 kw1546 kw61 kw120 hd_X9_push ⟨rfl, rfl⟩ rfl rfl ⟨rfl, rfl⟩ hX hK hw [0] (by decide) rfl rfl rfl rfl rfl hl.1 rfl rfl dX9_openBracket_38) hw hA [0] (by decide) rfl rfl (fun H locs hw => ?_)
      have hw : Wd dC dI A s.heap [wX9 h_me q_me k_me z3] H locs := hw
      have hy := Option.some.inj h
      rw [← hQz, ← hy]
      exact xr_v hx hb hr hlk hK hw dX9_openBracket_41
  unfold f_X9_openBracket at h
  refine lv_aload_n hx hb dX9_openBracket_0 rfl (lv_at hl 0 rfl) ?_
  refine lv_aload_n hx hb dX9_openBracket_1 rfl (lv_at hl 0 rfl) ?_
  refine fgX9_30 hx hb hts hown hK hw 0 rfl kw1206 dX9_openBracket_2 ?_
  refine lv_bipush (v := 8) hx hb dX9_openBracket_5 (by decide) ?_
  refine lv_icmp_ge (tgt := 14) hx hb dX9_openBracket_7 (by decide) (fun c => ?_) (fun c => ?_)
  · have h := z_t h c
    refine lv_iconst (v := 0) hx hb dX9_openBracket_14 (by decide) ?_
    exact bk_15_0  p0 (0 : Int32) o_me _ _ _ h hw (lv_sub hl [0, 1] rfl)
  · have h := z_f h c
    refine lv_iconst (v := 1) hx hb dX9_openBracket_10 (by decide) ?_
    refine lv_goto (tgt := 15) hx hb dX9_openBracket_11 (by decide) ?_
    exact bk_15_0  p0 (1 : Int32) o_me _ _ _ h hw (lv_sub hl [0, 1] rfl)

def bk_X9_readPart_99   (v1 : Int32) (s0 : Int32) (s1 : Int32) (s2 : Int32) (o_me : Ob) : Option (Int32 × Ob) :=
  (f_X9_leaf o_me s2 s1 s0).bind fun z3 =>
  if (gI z3 20) = (0 : Int32) then
  (some ((3 : Int32), z3))
  else
  (if v1 < (6 : Int32) then
  (some ((3 : Int32), z3))
  else
  (if (gI z3 19) = (0 : Int32) then
  (zlt ((gI z3 23) - (1 : Int32)) fun x4 =>
  (f_X9_number z3 (0 : Int64) (6 : Int64)).bind fun z5 =>
  zgd (zin x4 400) <|
  zlt (tA z5.2 25 x4.toNatClampNeg z5.1) fun o7 =>
  some ((3 : Int32), o7))
  else
  (some ((3 : Int32), z3))))
def bk_X9_readPart_86   (v1 : Int32) (v2 : Int32) (s0 : Int32) (s1 : Int32) (o_me : Ob) : Option (Int32 × Ob) :=
  if v2 = (0 : Int32) then
  (bk_X9_readPart_99   v1 (0 : Int32) s0 s1 o_me)
  else
  (bk_X9_readPart_99   v1 ((gL o_me 17).toInt32) s0 s1 o_me)
def bk_X9_readPart_76   (v1 : Int32) (v2 : Int32) (s0 : Int32) (o_me : Ob) : Option (Int32 × Ob) :=
  if v1 = (-1 : Int32) then
  (bk_X9_readPart_86   v1 v2 (0 : Int32) s0 o_me)
  else
  (bk_X9_readPart_86   v1 v2 v1 s0 o_me)
def bk_X9_readPart_71   (v1 : Int32) (v2 : Int32) (o_me : Ob) : Option (Int32 × Ob) :=
  bk_X9_readPart_76   v1 v2 (1 : Int32) o_me
def bk_X9_readPart_60   (v1 : Int32) (s0 : Int32) (o_me : Ob) : Option (Int32 × Ob) :=
  if v1 = (-1 : Int32) then
  (if s0 = (0 : Int32) then
  (bk_X9_readPart_76   v1 s0 (0 : Int32) o_me)
  else
  (bk_X9_readPart_71   v1 s0 o_me))
  else
  (bk_X9_readPart_71   v1 s0 o_me)
def bk_X9_readPart_59   (v1 : Int32) (o_me : Ob) : Option (Int32 × Ob) :=
  bk_X9_readPart_60   v1 (0 : Int32) o_me
def bk_X9_readPart_35   (s0 : Int32) (o_me : Ob) : Option (Int32 × Ob) :=
  if (gI o_me 16) = (2 : Int32) then
  (if (0 : Int32) < (lg_cmp (gL o_me 17) (1000 : Int64)) then
  (bk_X9_readPart_59   s0 o_me)
  else
  (bk_X9_readPart_60   s0 (1 : Int32) o_me))
  else
  (bk_X9_readPart_59   s0 o_me)
def f_X9_readPart (o_me : Ob) : Option (Int32 × Ob) :=
  (f_X9_isSign o_me (91 : Int32)).bind fun z1 =>
  if z1 = (0 : Int32) then
  (if (gI o_me 20) = (0 : Int32) then
  ((f_X9_partAt o_me).bind fun z2 =>
  bk_X9_readPart_35   z2 o_me)
  else
  ((f_X9_orderPartAt o_me).bind fun z8 =>
  bk_X9_readPart_35   z8 o_me))
  else
  ((f_X9_openBracket o_me (32 : Int32)).bind fun z9 =>
  some ((1 : Int32), z9))
set_option maxHeartbeats 4000000 in
set_option maxRecDepth 100000 in
theorem m_X9_readPart (l : Launch) (dC : Nat → ClassId) (dI : Nat → Nat → Nat) (sz : Nat) (h_me : Nat) (q_me : Nat → Nat) (k_me : Nat → ClassId) (o_me : Ob) (y : Int32 × Ob) (h : f_X9_readPart o_me = some y) : CI l yX9_readPart cX9_readPart 4 (some .int) ({ frames := 4, cells := 0, slots := 0, locals := 86 } : Room) dC dI sz [.ref h_me] [wX9 h_me q_me k_me o_me] [tX9 k_me] y.1 [wX9 h_me q_me k_me y.2] := by
  refine CC_of (by decide) (Nat.le_of_ble_eq_true rfl) ?_
  intro p e s m below meth c A ls hx hb hml hr hlk hnm hown hts hX hK hP hD hA hl
  have hl : lv_has ls 4 [(0, .ref h_me)] := hl
  have hown : s.vm.findClass RX9 = some m.cls := hown
  have hw : Wd dC dI A s.heap [wX9 h_me q_me k_me o_me] s.heap [] := ⟨hP, hD, va_S.rf⟩
  generalize hQz : (MQ below (QI dC dI (fun r (_ : Unit) => r = y.1) (fun _ => Jn [wX9 h_me q_me k_me y.2]) (fun _ => Jt [tX9 k_me]) A) ([.ref h_me] : List Value).toArray s 0 0 A) = Qz
  clear hP hD hnm
  have bk_99_6 : ∀ (v1 : Int32) (s0 : Int32) (s1 : Int32) (s2 : Int32) (o_me : Ob) (H : Heap) (locs : List Loc) (ls : Array Slot), bk_X9_readPart_99   v1 s0 s1 s2 o_me = some y → Wd dC dI A s.heap [wX9 h_me q_me k_me o_me] H locs → lv_has ls 4 [(0, .ref h_me), (1, .int v1)] → W p l e ({ frames := 4, cells := 0, slots := 0, locals := 86 } : Room) s m ([.ref h_me] : List Value).toArray below meth c H locs 0 0 Qz (F0 m 99 ls [.int s0, .int s1, .int s2, .ref h_me]) := by
    intro v1 s0 s1 s2 o_me H locs ls h hw hl
    unfold bk_X9_readPart_99 at h
    obtain ⟨z3, ez3, h⟩ := z_bd h
    refine xj_v (xrV (As := [.int s2, .int s1, .int s0]) (rest := []) ⟨hx, hb, hml, hown, hts⟩ (m_X9_leaf l dC dI _ h_me q_me k_me o_me s2 s1 s0 z3 ez3) kw1572 kw1569 kw1571 kw67 kw120 hd_X9_leaf ⟨rfl, rfl⟩ rfl rfl ⟨rfl, rfl⟩ hX hK hw [0] (by decide) rfl rfl rfl rfl rfl hl.1 rfl rfl dX9_readPart_99) hw hA [0] (by decide) rfl rfl (fun H locs hw => ?_)
    have hw : Wd dC dI A s.heap [wX9 h_me q_me k_me z3] H locs := hw
    refine lv_aload_n hx hb dX9_readPart_102 rfl (lv_at hl 0 rfl) ?_
    refine fgX9_20 hx hb hts hown hK hw 0 rfl kw1196 dX9_readPart_103 ?_
    refine lv_if_eq (tgt := 143) hx hb dX9_readPart_106 (by decide) (fun c => ?_) (fun c => ?_)
    · have h := z_t h c
      refine lv_iconst (v := 3) hx hb dX9_readPart_143 (by decide) ?_
      have hy := Option.some.inj h
      rw [← hQz, ← hy]
      exact xr_i (v := (3 : Int32)) hx hb hr rfl hlk hK hw dX9_readPart_144
    · have h := z_f h c
      refine lv_iload_n hx hb dX9_readPart_109 rfl (lv_at hl 1 rfl) ?_
      refine lv_bipush (v := 6) hx hb dX9_readPart_110 (by decide) ?_
      refine lv_icmp_lt (tgt := 143) hx hb dX9_readPart_112 (by decide) (fun c => ?_) (fun c => ?_)
      · have h := z_t h c
        refine lv_iconst (v := 3) hx hb dX9_readPart_143 (by decide) ?_
        have hy := Option.some.inj h
        rw [← hQz, ← hy]
        exact xr_i (v := (3 : Int32)) hx hb hr rfl hlk hK hw dX9_readPart_144
      · have h := z_f h c
        refine lv_aload_n hx hb dX9_readPart_115 rfl (lv_at hl 0 rfl) ?_
        refine fgX9_19 hx hb hts hown hK hw 0 rfl kw1195 dX9_readPart_116 ?_
        refine lv_if_ne (tgt := 143) hx hb dX9_readPart_119 (by decide) (fun c => ?_) (fun c => ?_)
        · have h := z_f h c
          refine lv_iconst (v := 3) hx hb dX9_readPart_143 (by decide) ?_
          have hy := Option.some.inj h
          rw [← hQz, ← hy]
          exact xr_i (v := (3 : Int32)) hx hb hr rfl hlk hK hw dX9_readPart_144
        · have h := z_t h c
          refine lv_aload_n hx hb dX9_readPart_122 rfl (lv_at hl 0 rfl) ?_
          refine fgX9_23 hx hb hts hown hK hw 0 rfl kw1199 dX9_readPart_123 ?_
          refine lv_iconst (v := 1) hx hb dX9_readPart_126 (by decide) ?_
          refine lv_isub hx hb dX9_readPart_127 ?_
          obtain ⟨x4, ex4, h⟩ := z_lt h
          refine lv_fi (v := x4) ex4.symm ?_
          refine lv_istore_n (lv' := [(3, .int x4), (0, .ref h_me), (1, .int v1)]) hx hb dX9_readPart_128 rfl hl (by decide) rfl (fun ls hl => ?_)
          refine lv_aload_n hx hb dX9_readPart_129 rfl (lv_at hl 1 rfl) ?_
          refine fgX9_25 hx hb hts hown hK hw 0 rfl kw1201 dX9_readPart_130 ?_
          refine lv_iload_n hx hb dX9_readPart_133 rfl (lv_at hl 0 rfl) ?_
          refine lv_aload_n hx hb dX9_readPart_134 rfl (lv_at hl 1 rfl) ?_
          refine lv_lconst (v := 0) hx hb dX9_readPart_135 (by decide) ?_
          refine lv_ldc2 (v := 6) hx hb hown (hts _ kw1577) dX9_readPart_136 ?_
          obtain ⟨z5, ez5, h⟩ := z_bd h
          refine xj_i (xrV (As := [.long (0 : Int64), .long (6 : Int64)]) (rest := [.int x4, .ref (q_me 25)]) ⟨hx, hb, hml, hown, hts⟩ (m_X9_number l dC dI _ h_me q_me k_me z3 (0 : Int64) (6 : Int64) z5 ez5) kw1581 kw1578 kw1580 kw69 kw120 hd_X9_number ⟨rfl, rfl⟩ rfl rfl ⟨rfl, rfl⟩ hX hK hw [0] (by decide) rfl rfl rfl rfl rfl hl.1 rfl rfl dX9_readPart_139) hw hA [0] (by decide) rfl rfl (fun H locs hw => ?_)
          have hw : Wd dC dI A s.heap [wX9 h_me q_me k_me z5.2] H locs := hw
          obtain ⟨g6, h⟩ := z_gd h
          refine fbX9_25 hx hb hK hw 0 rfl rfl g6 dX9_readPart_142 (fun H locs hw => ?_)
          obtain ⟨o7, eo7, h⟩ := z_lt h
          have hw : Wd dC dI A s.heap [wX9 h_me q_me k_me o7] H locs := by rw [eo7]; exact hw
          refine lv_iconst (v := 3) hx hb dX9_readPart_143 (by decide) ?_
          have hy := Option.some.inj h
          rw [← hQz, ← hy]
          exact xr_i (v := (3 : Int32)) hx hb hr rfl hlk hK hw dX9_readPart_144
  have bk_86_5 : ∀ (v1 : Int32) (v2 : Int32) (s0 : Int32) (s1 : Int32) (o_me : Ob) (H : Heap) (locs : List Loc) (ls : Array Slot), bk_X9_readPart_86   v1 v2 s0 s1 o_me = some y → Wd dC dI A s.heap [wX9 h_me q_me k_me o_me] H locs → lv_has ls 4 [(0, .ref h_me), (1, .int v1), (2, .int v2)] → W p l e ({ frames := 4, cells := 0, slots := 0, locals := 86 } : Room) s m ([.ref h_me] : List Value).toArray below meth c H locs 0 0 Qz (F0 m 86 ls [.int s0, .int s1, .ref h_me]) := by
    intro v1 v2 s0 s1 o_me H locs ls h hw hl
    unfold bk_X9_readPart_86 at h
    refine lv_iload_n hx hb dX9_readPart_86 rfl (lv_at hl 2 rfl) ?_
    refine lv_if_eq (tgt := 98) hx hb dX9_readPart_87 (by decide) (fun c => ?_) (fun c => ?_)
    · have h := z_t h c
      refine lv_iconst (v := 0) hx hb dX9_readPart_98 (by decide) ?_
      exact bk_99_6  v1 (0 : Int32) s0 s1 o_me _ _ _ h hw (lv_sub hl [0, 1] rfl)
    · have h := z_f h c
      refine lv_aload_n hx hb dX9_readPart_90 rfl (lv_at hl 0 rfl) ?_
      refine fgX9_17 hx hb hts hown hK hw 0 rfl kw1193 dX9_readPart_91 ?_
      refine lv_l2i hx hb dX9_readPart_94 rfl ?_
      refine lv_goto (tgt := 99) hx hb dX9_readPart_95 (by decide) ?_
      exact bk_99_6  v1 ((gL o_me 17).toInt32) s0 s1 o_me _ _ _ h hw (lv_sub hl [0, 1] rfl)
  have bk_76_4 : ∀ (v1 : Int32) (v2 : Int32) (s0 : Int32) (o_me : Ob) (H : Heap) (locs : List Loc) (ls : Array Slot), bk_X9_readPart_76   v1 v2 s0 o_me = some y → Wd dC dI A s.heap [wX9 h_me q_me k_me o_me] H locs → lv_has ls 4 [(0, .ref h_me), (1, .int v1), (2, .int v2)] → W p l e ({ frames := 4, cells := 0, slots := 0, locals := 86 } : Room) s m ([.ref h_me] : List Value).toArray below meth c H locs 0 0 Qz (F0 m 76 ls [.int s0, .ref h_me]) := by
    intro v1 v2 s0 o_me H locs ls h hw hl
    unfold bk_X9_readPart_76 at h
    refine lv_iload_n hx hb dX9_readPart_76 rfl (lv_at hl 1 rfl) ?_
    refine lv_iconst (v := (-1)) hx hb dX9_readPart_77 (by decide) ?_
    refine lv_icmp_ne (tgt := 85) hx hb dX9_readPart_78 (by decide) (fun c => ?_) (fun c => ?_)
    · have h := z_f h c
      refine lv_iload_n hx hb dX9_readPart_85 rfl (lv_at hl 1 rfl) ?_
      exact bk_86_5  v1 v2 v1 s0 o_me _ _ _ h hw (lv_sub hl [0, 1, 2] rfl)
    · have h := z_t h c
      refine lv_iconst (v := 0) hx hb dX9_readPart_81 (by decide) ?_
      refine lv_goto (tgt := 86) hx hb dX9_readPart_82 (by decide) ?_
      exact bk_86_5  v1 v2 (0 : Int32) s0 o_me _ _ _ h hw (lv_sub hl [0, 1, 2] rfl)
  have bk_71_3 : ∀ (v1 : Int32) (v2 : Int32) (o_me : Ob) (H : Heap) (locs : List Loc) (ls : Array Slot), bk_X9_readPart_71   v1 v2 o_me = some y → Wd dC dI A s.heap [wX9 h_me q_me k_me o_me] H locs → lv_has ls 4 [(0, .ref h_me), (1, .int v1), (2, .int v2)] → W p l e ({ frames := 4, cells := 0, slots := 0, locals := 86 } : Room) s m ([.ref h_me] : List Value).toArray below meth c H locs 0 0 Qz (F0 m 71 ls [.ref h_me]) := by
    intro v1 v2 o_me H locs ls h hw hl
    unfold bk_X9_readPart_71 at h
    refine lv_iconst (v := 1) hx hb dX9_readPart_71 (by decide) ?_
    refine lv_goto (tgt := 76) hx hb dX9_readPart_72 (by decide) ?_
    exact bk_76_4  v1 v2 (1 : Int32) o_me _ _ _ h hw (lv_sub hl [0, 1, 2] rfl)
  have bk_60_2 : ∀ (v1 : Int32) (s0 : Int32) (o_me : Ob) (H : Heap) (locs : List Loc) (ls : Array Slot), bk_X9_readPart_60   v1 s0 o_me = some y → Wd dC dI A s.heap [wX9 h_me q_me k_me o_me] H locs → lv_has ls 4 [(0, .ref h_me), (1, .int v1)] → W p l e ({ frames := 4, cells := 0, slots := 0, locals := 86 } : Room) s m ([.ref h_me] : List Value).toArray below meth c H locs 0 0 Qz (F0 m 60 ls [.int s0]) := by
    intro v1 s0 o_me H locs ls h hw hl
    unfold bk_X9_readPart_60 at h
    refine lv_istore_n (lv' := [(2, .int s0), (0, .ref h_me), (1, .int v1)]) hx hb dX9_readPart_60 rfl hl (by decide) rfl (fun ls hl => ?_)
    refine lv_aload_n hx hb dX9_readPart_61 rfl (lv_at hl 1 rfl) ?_
    refine lv_iload_n hx hb dX9_readPart_62 rfl (lv_at hl 2 rfl) ?_
    refine lv_iconst (v := (-1)) hx hb dX9_readPart_63 (by decide) ?_
    refine lv_icmp_ne (tgt := 71) hx hb dX9_readPart_64 (by decide) (fun c => ?_) (fun c => ?_)
    · have h := z_f h c
      exact bk_71_3  v1 s0 o_me _ _ _ h hw (lv_sub hl [1, 2, 0] rfl)
    · have h := z_t h c
      refine lv_iload_n hx hb dX9_readPart_67 rfl (lv_at hl 0 rfl) ?_
      refine lv_if_eq (tgt := 75) hx hb dX9_readPart_68 (by decide) (fun c => ?_) (fun c => ?_)
      · have h := z_t h c
        refine lv_iconst (v := 0) hx hb dX9_readPart_75 (by decide) ?_
        exact bk_76_4  v1 s0 (0 : Int32) o_me _ _ _ h hw (lv_sub hl [1, 2, 0] rfl)
      · have h := z_f h c
        exact bk_71_3  v1 s0 o_me _ _ _ h hw (lv_sub hl [1, 2, 0] rfl)
  have bk_59_1 : ∀ (v1 : Int32) (o_me : Ob) (H : Heap) (locs : List Loc) (ls : Array Slot), bk_X9_readPart_59   v1 o_me = some y → Wd dC dI A s.heap [wX9 h_me q_me k_me o_me] H locs → lv_has ls 4 [(0, .ref h_me), (1, .int v1)] → W p l e ({ frames := 4, cells := 0, slots := 0, locals := 86 } : Room) s m ([.ref h_me] : List Value).toArray below meth c H locs 0 0 Qz (F0 m 59 ls []) := by
    intro v1 o_me H locs ls h hw hl
    unfold bk_X9_readPart_59 at h
    refine lv_iconst (v := 0) hx hb dX9_readPart_59 (by decide) ?_
    exact bk_60_2  v1 (0 : Int32) o_me _ _ _ h hw (lv_sub hl [0, 1] rfl)
  have bk_35_0 : ∀ (s0 : Int32) (o_me : Ob) (H : Heap) (locs : List Loc) (ls : Array Slot), bk_X9_readPart_35   s0 o_me = some y → Wd dC dI A s.heap [wX9 h_me q_me k_me o_me] H locs → lv_has ls 4 [(0, .ref h_me)] → W p l e ({ frames := 4, cells := 0, slots := 0, locals := 86 } : Room) s m ([.ref h_me] : List Value).toArray below meth c H locs 0 0 Qz (F0 m 35 ls [.int s0]) := by
    intro s0 o_me H locs ls h hw hl
    unfold bk_X9_readPart_35 at h
    refine lv_istore_n (lv' := [(1, .int s0), (0, .ref h_me)]) hx hb dX9_readPart_35 rfl hl (by decide) rfl (fun ls hl => ?_)
    refine lv_aload_n hx hb dX9_readPart_36 rfl (lv_at hl 1 rfl) ?_
    refine fgX9_16 hx hb hts hown hK hw 0 rfl kw1192 dX9_readPart_37 ?_
    refine lv_iconst (v := 2) hx hb dX9_readPart_40 (by decide) ?_
    refine lv_icmp_ne (tgt := 59) hx hb dX9_readPart_41 (by decide) (fun c => ?_) (fun c => ?_)
    · have h := z_f h c
      exact bk_59_1  s0 o_me _ _ _ h hw (lv_sub hl [1, 0] rfl)
    · have h := z_t h c
      refine lv_aload_n hx hb dX9_readPart_44 rfl (lv_at hl 1 rfl) ?_
      refine fgX9_17 hx hb hts hown hK hw 0 rfl kw1193 dX9_readPart_45 ?_
      refine lv_ldc2 (v := 1000) hx hb hown (hts _ kw1568) dX9_readPart_48 ?_
      refine W.lcmp hx hb dX9_readPart_51 ?_
      refine lv_if_gt (tgt := 59) hx hb dX9_readPart_52 (by decide) (fun c => ?_) (fun c => ?_)
      · have h := z_t h c
        exact bk_59_1  s0 o_me _ _ _ h hw (lv_sub hl [1, 0] rfl)
      · have h := z_f h c
        refine lv_iconst (v := 1) hx hb dX9_readPart_55 (by decide) ?_
        refine lv_goto (tgt := 60) hx hb dX9_readPart_56 (by decide) ?_
        exact bk_60_2  s0 (1 : Int32) o_me _ _ _ h hw (lv_sub hl [1, 0] rfl)
  unfold f_X9_readPart at h
  refine lv_aload_n hx hb dX9_readPart_0 rfl (lv_at hl 0 rfl) ?_
  refine lv_bipush (v := 91) hx hb dX9_readPart_1 (by decide) ?_
  obtain ⟨z1, ez1, h⟩ := z_bd h
  refine xj_i (xrV (As := [.int (91 : Int32)]) (rest := []) ⟨hx, hb, hml, hown, hts⟩ (m_X9_isSign l dC dI _ h_me q_me k_me o_me (91 : Int32) z1 ez1) kw1551 kw1548 kw1550 kw62 kw120 hd_X9_isSign ⟨rfl, rfl⟩ rfl rfl ⟨rfl, rfl⟩ hX hK hw [0] (by decide) rfl rfl rfl rfl rfl hl.1 rfl rfl dX9_readPart_3) hw hA [0] (by decide) rfl rfl (fun H locs hw => ?_)
  have hw : Wd dC dI A s.heap [wX9 h_me q_me k_me o_me] H locs := hw
  refine lv_if_eq (tgt := 17) hx hb dX9_readPart_6 (by decide) (fun c => ?_) (fun c => ?_)
  · have h := z_t h c
    refine lv_aload_n hx hb dX9_readPart_17 rfl (lv_at hl 0 rfl) ?_
    refine fgX9_20 hx hb hts hown hK hw 0 rfl kw1196 dX9_readPart_18 ?_
    refine lv_if_eq (tgt := 31) hx hb dX9_readPart_21 (by decide) (fun c => ?_) (fun c => ?_)
    · have h := z_t h c
      refine lv_aload_n hx hb dX9_readPart_31 rfl (lv_at hl 0 rfl) ?_
      obtain ⟨z2, ez2, h⟩ := z_bd h
      refine xj_i (xrV (As := []) (rest := []) ⟨hx, hb, hml, hown, hts⟩ (m_X9_partAt l dC dI _ h_me q_me k_me o_me z2 ez2) kw1567 kw1564 kw1566 kw66 kw120 hd_X9_partAt ⟨rfl, rfl⟩ rfl rfl ⟨rfl, rfl⟩ hX hK hw [0] (by decide) rfl rfl rfl rfl rfl hl.1 rfl rfl dX9_readPart_32) hw hA [0] (by decide) rfl rfl (fun H locs hw => ?_)
      have hw : Wd dC dI A s.heap [wX9 h_me q_me k_me o_me] H locs := hw
      exact bk_35_0  z2 o_me _ _ _ h hw (lv_sub hl [0] rfl)
    · have h := z_f h c
      refine lv_aload_n hx hb dX9_readPart_24 rfl (lv_at hl 0 rfl) ?_
      obtain ⟨z8, ez8, h⟩ := z_bd h
      refine xj_i (xrV (As := []) (rest := []) ⟨hx, hb, hml, hown, hts⟩ (m_X9_orderPartAt l dC dI _ h_me q_me k_me o_me z8 ez8) kw1563 kw1560 kw1562 kw65 kw120 hd_X9_orderPartAt ⟨rfl, rfl⟩ rfl rfl ⟨rfl, rfl⟩ hX hK hw [0] (by decide) rfl rfl rfl rfl rfl hl.1 rfl rfl dX9_readPart_25) hw hA [0] (by decide) rfl rfl (fun H locs hw => ?_)
      have hw : Wd dC dI A s.heap [wX9 h_me q_me k_me o_me] H locs := hw
      refine lv_goto (tgt := 35) hx hb dX9_readPart_28 (by decide) ?_
      exact bk_35_0  z8 o_me _ _ _ h hw (lv_sub hl [0] rfl)
  · have h := z_f h c
    refine lv_aload_n hx hb dX9_readPart_9 rfl (lv_at hl 0 rfl) ?_
    refine lv_bipush (v := 32) hx hb dX9_readPart_10 (by decide) ?_
    obtain ⟨z9, ez9, h⟩ := z_bd h
    refine xj_v (xrV (As := [.int (32 : Int32)]) (rest := []) ⟨hx, hb, hml, hown, hts⟩ (m_X9_openBracket l dC dI _ h_me q_me k_me o_me (32 : Int32) z9 ez9) kw1555 kw1552 kw1554 kw63 kw120 hd_X9_openBracket ⟨rfl, rfl⟩ rfl rfl ⟨rfl, rfl⟩ hX hK hw [0] (by decide) rfl rfl rfl rfl rfl hl.1 rfl rfl dX9_readPart_12) hw hA [0] (by decide) rfl rfl (fun H locs hw => ?_)
    have hw : Wd dC dI A s.heap [wX9 h_me q_me k_me z9] H locs := hw
    refine lv_iconst (v := 1) hx hb dX9_readPart_15 (by decide) ?_
    have hy := Option.some.inj h
    rw [← hQz, ← hy]
    exact xr_i (v := (1 : Int32)) hx hb hr rfl hlk hK hw dX9_readPart_16

def f_X9_readPlain (o_me : Ob) : Option (Int32 × Ob) :=
  (f_X9_isWord o_me (14836 : Int64)).bind fun z1 =>
  if z1 = (0 : Int32) then
  ((f_X9_isSign o_me (40 : Int32)).bind fun z2 =>
  if z2 = (0 : Int32) then
  ((f_X9_readPart o_me).bind fun z3 =>
  some (z3.1, z3.2))
  else
  ((f_X9_openBracket o_me (31 : Int32)).bind fun z4 =>
  some ((0 : Int32), z4)))
  else
  ((f_X9_push o_me (28 : Int32) (0 : Int32)).bind fun z5 =>
  (f_X9_next z5).bind fun z6 =>
  some ((0 : Int32), z6))
set_option maxHeartbeats 4000000 in
set_option maxRecDepth 100000 in
theorem m_X9_readPlain (l : Launch) (dC : Nat → ClassId) (dI : Nat → Nat → Nat) (sz : Nat) (h_me : Nat) (q_me : Nat → Nat) (k_me : Nat → ClassId) (o_me : Ob) (y : Int32 × Ob) (h : f_X9_readPlain o_me = some y) : CI l yX9_readPlain cX9_readPlain 1 (some .int) ({ frames := 5, cells := 0, slots := 0, locals := 109 } : Room) dC dI sz [.ref h_me] [wX9 h_me q_me k_me o_me] [tX9 k_me] y.1 [wX9 h_me q_me k_me y.2] := by
  refine CC_of (by decide) (Nat.le_of_ble_eq_true rfl) ?_
  intro p e s m below meth c A ls hx hb hml hr hlk hnm hown hts hX hK hP hD hA hl
  have hl : lv_has ls 1 [(0, .ref h_me)] := hl
  have hown : s.vm.findClass RX9 = some m.cls := hown
  have hw : Wd dC dI A s.heap [wX9 h_me q_me k_me o_me] s.heap [] := ⟨hP, hD, va_S.rf⟩
  generalize hQz : (MQ below (QI dC dI (fun r (_ : Unit) => r = y.1) (fun _ => Jn [wX9 h_me q_me k_me y.2]) (fun _ => Jt [tX9 k_me]) A) ([.ref h_me] : List Value).toArray s 0 0 A) = Qz
  clear hP hD hnm
  unfold f_X9_readPlain at h
  refine lv_aload_n hx hb dX9_readPlain_0 rfl (lv_at hl 0 rfl) ?_
  refine lv_ldc2 (v := 14836) hx hb hown (hts _ kw1543) dX9_readPlain_1 ?_
  obtain ⟨z1, ez1, h⟩ := z_bd h
  refine xj_i (xrV (As := [.long (14836 : Int64)]) (rest := []) ⟨hx, hb, hml, hown, hts⟩ (m_X9_isWord l dC dI _ h_me q_me k_me o_me (14836 : Int64) z1 ez1) kw1530 kw1527 kw1529 kw57 kw120 hd_X9_isWord ⟨rfl, rfl⟩ rfl rfl ⟨rfl, rfl⟩ hX hK hw [0] (by decide) rfl rfl rfl rfl rfl hl.1 rfl rfl dX9_readPlain_4) hw hA [0] (by decide) rfl rfl (fun H locs hw => ?_)
  have hw : Wd dC dI A s.heap [wX9 h_me q_me k_me o_me] H locs := hw
  refine lv_if_eq (tgt := 23) hx hb dX9_readPlain_7 (by decide) (fun c => ?_) (fun c => ?_)
  · have h := z_t h c
    refine lv_aload_n hx hb dX9_readPlain_23 rfl (lv_at hl 0 rfl) ?_
    refine lv_bipush (v := 40) hx hb dX9_readPlain_24 (by decide) ?_
    obtain ⟨z2, ez2, h⟩ := z_bd h
    refine xj_i (xrV (As := [.int (40 : Int32)]) (rest := []) ⟨hx, hb, hml, hown, hts⟩ (m_X9_isSign l dC dI _ h_me q_me k_me o_me (40 : Int32) z2 ez2) kw1551 kw1548 kw1550 kw62 kw120 hd_X9_isSign ⟨rfl, rfl⟩ rfl rfl ⟨rfl, rfl⟩ hX hK hw [0] (by decide) rfl rfl rfl rfl rfl hl.1 rfl rfl dX9_readPlain_26) hw hA [0] (by decide) rfl rfl (fun H locs hw => ?_)
    have hw : Wd dC dI A s.heap [wX9 h_me q_me k_me o_me] H locs := hw
    refine lv_if_eq (tgt := 40) hx hb dX9_readPlain_29 (by decide) (fun c => ?_) (fun c => ?_)
    · have h := z_t h c
      refine lv_aload_n hx hb dX9_readPlain_40 rfl (lv_at hl 0 rfl) ?_
      obtain ⟨z3, ez3, h⟩ := z_bd h
      refine xj_i (xrV (As := []) (rest := []) ⟨hx, hb, hml, hown, hts⟩ (m_X9_readPart l dC dI _ h_me q_me k_me o_me z3 ez3) kw1559 kw1556 kw1558 kw64 kw120 hd_X9_readPart ⟨rfl, rfl⟩ rfl rfl ⟨rfl, rfl⟩ hX hK hw [0] (by decide) rfl rfl rfl rfl rfl hl.1 rfl rfl dX9_readPlain_41) hw hA [0] (by decide) rfl rfl (fun H locs hw => ?_)
      have hw : Wd dC dI A s.heap [wX9 h_me q_me k_me z3.2] H locs := hw
      have hy := Option.some.inj h
      rw [← hQz, ← hy]
      exact xr_i (v := z3.1) hx hb hr rfl hlk hK hw dX9_readPlain_44
    · have h := z_f h c
      refine lv_aload_n hx hb dX9_readPlain_32 rfl (lv_at hl 0 rfl) ?_
      refine lv_bipush (v := 31) hx hb dX9_readPlain_33 (by decide) ?_
      obtain ⟨z4, ez4, h⟩ := z_bd h
      refine xj_v (xrV (As := [.int (31 : Int32)]) (rest := []) ⟨hx, hb, hml, hown, hts⟩ (m_X9_openBracket l dC dI _ h_me q_me k_me o_me (31 : Int32) z4 ez4) kw1555 kw1552 kw1554 kw63 kw120 hd_X9_openBracket ⟨rfl, rfl⟩ rfl rfl ⟨rfl, rfl⟩ hX hK hw [0] (by decide) rfl rfl rfl rfl rfl hl.1 rfl rfl dX9_readPlain_35) hw hA [0] (by decide) rfl rfl (fun H locs hw => ?_)
      have hw : Wd dC dI A s.heap [wX9 h_me q_me k_me z4] H locs := hw
      refine lv_iconst (v := 0) hx hb dX9_readPlain_38 (by decide) ?_
      have hy := Option.some.inj h
      rw [← hQz, ← hy]
      exact xr_i (v := (0 : Int32)) hx hb hr rfl hlk hK hw dX9_readPlain_39
  · have h := z_f h c
    refine lv_aload_n hx hb dX9_readPlain_10 rfl (lv_at hl 0 rfl) ?_
    refine lv_bipush (v := 28) hx hb dX9_readPlain_11 (by decide) ?_
    refine lv_iconst (v := 0) hx hb dX9_readPlain_13 (by decide) ?_
    obtain ⟨z5, ez5, h⟩ := z_bd h
    refine xj_v (xrV (As := [.int (28 : Int32), .int (0 : Int32)]) (rest := []) ⟨hx, hb, hml, hown, hts⟩ (m_X9_push l dC dI _ h_me q_me k_me o_me (28 : Int32) (0 : Int32) z5 ez5) kw1547 kw1544 kw1546 kw61 kw120 hd_X9_push ⟨rfl, rfl⟩ rfl rfl ⟨rfl, rfl⟩ hX hK hw [0] (by decide) rfl rfl rfl rfl rfl hl.1 rfl rfl dX9_readPlain_14) hw hA [0] (by decide) rfl rfl (fun H locs hw => ?_)
    have hw : Wd dC dI A s.heap [wX9 h_me q_me k_me z5] H locs := hw
    refine lv_aload_n hx hb dX9_readPlain_17 rfl (lv_at hl 0 rfl) ?_
    obtain ⟨z6, ez6, h⟩ := z_bd h
    refine xj_v (xrV (As := []) (rest := []) ⟨hx, hb, hml, hown, hts⟩ (m_X9_next l dC dI _ h_me q_me k_me z5 z6 ez6) kw1512 kw1509 kw1511 kw55 kw120 hd_X9_next ⟨rfl, rfl⟩ rfl rfl ⟨rfl, rfl⟩ hX hK hw [0] (by decide) rfl rfl rfl rfl rfl hl.1 rfl rfl dX9_readPlain_18) hw hA [0] (by decide) rfl rfl (fun H locs hw => ?_)
    have hw : Wd dC dI A s.heap [wX9 h_me q_me k_me z6] H locs := hw
    refine lv_iconst (v := 0) hx hb dX9_readPlain_21 (by decide) ?_
    have hy := Option.some.inj h
    rw [← hQz, ← hy]
    exact xr_i (v := (0 : Int32)) hx hb hr rfl hlk hK hw dX9_readPlain_22

def bk_X9_readExpression_76   (o_me : Ob) : Option (Ob) :=
  (f_X9_settle o_me (1 : Int32)).bind fun z3 =>
  some z3
def bk_X9_readExpression_72  (rec_20_1 : Int32 × Int32 × Ob → Option (Ob)) (v1 : Int32) (s0 : Int32) (o_me : Ob) : Option (Ob) :=
  rec_20_1 (v1, s0, o_me)
def lb_X9_readExpression_20   (rec_20_1 : Int32 × Int32 × Ob → Option (Ob)) (v1 : Int32) (v2 : Int32) (o_me : Ob) : Option (Ob) :=
  if (gI o_me 19) = (0 : Int32) then
  (if v2 = (4 : Int32) then
  (bk_X9_readExpression_76   o_me)
  else
  (if v2 = (0 : Int32) then
  ((f_X9_readPlain o_me).bind fun z7 =>
  bk_X9_readExpression_72  rec_20_1 v1 z7.1 z7.2)
  else
  (if v2 = (1 : Int32) then
  ((f_X9_readPart o_me).bind fun z6 =>
  bk_X9_readExpression_72  rec_20_1 v1 z6.1 z6.2)
  else
  (if v2 = (3 : Int32) then
  ((f_X9_behindSum o_me v1).bind fun z5 =>
  bk_X9_readExpression_72  rec_20_1 v1 z5.1 z5.2)
  else
  ((f_X9_behindTest o_me).bind fun z4 =>
  bk_X9_readExpression_72  rec_20_1 v1 z4.1 z4.2)))))
  else
  (bk_X9_readExpression_76   o_me)
def lp_X9_readExpression_20   : Nat → (Int32 × Int32 × Ob) → Option (Ob) := zit (fun rec a => lb_X9_readExpression_20   rec a.1 a.2.1 a.2.2)
def bk_X9_readExpression_19   (v1 : Int32) (s0 : Int32) (o_me : Ob) : Option (Ob) :=
  lp_X9_readExpression_20   zfu (v1, s0, o_me)
def f_X9_readExpression (o_me : Ob) (p0 : Int32) : Option (Ob) :=
  zlt (sI o_me 29 (0 : Int32)) fun o1 =>
  zlt (sI o1 30 (0 : Int32)) fun o2 =>
  if p0 = (0 : Int32) then
  (bk_X9_readExpression_19   p0 (1 : Int32) o2)
  else
  (bk_X9_readExpression_19   p0 (0 : Int32) o2)
set_option maxHeartbeats 4000000 in
set_option maxRecDepth 100000 in
theorem m_X9_readExpression (l : Launch) (dC : Nat → ClassId) (dI : Nat → Nat → Nat) (sz : Nat) (h_me : Nat) (q_me : Nat → Nat) (k_me : Nat → ClassId) (o_me : Ob) (p0 : Int32) (y : Ob) (h : f_X9_readExpression o_me p0 = some y) : CV l yX9_readExpression cX9_readExpression 3 none ({ frames := 6, cells := 0, slots := 0, locals := 129 } : Room) dC dI sz [.ref h_me, .int p0] [wX9 h_me q_me k_me o_me] [tX9 k_me] [wX9 h_me q_me k_me y] := by
  refine CC_of (by decide) (Nat.le_of_ble_eq_true rfl) ?_
  intro p e s m below meth c A ls hx hb hml hr hlk hnm hown hts hX hK hP hD hA hl
  have hl : lv_has ls 3 [(0, .ref h_me), (1, .int p0)] := hl
  have hown : s.vm.findClass RX9 = some m.cls := hown
  have hw : Wd dC dI A s.heap [wX9 h_me q_me k_me o_me] s.heap [] := ⟨hP, hD, va_S.rf⟩
  generalize hQz : (MQ below (QV dC dI (fun (_ : Unit) => True) (fun _ => Jn [wX9 h_me q_me k_me y]) (fun _ => Jt [tX9 k_me]) A) ([.ref h_me, .int p0] : List Value).toArray s 0 0 A) = Qz
  clear hP hD hnm
  have bk_76_2 : ∀ (o_me : Ob) (H : Heap) (locs : List Loc) (ls : Array Slot), bk_X9_readExpression_76   o_me = some y → Wd dC dI A s.heap [wX9 h_me q_me k_me o_me] H locs → lv_has ls 3 [(0, .ref h_me)] → W p l e ({ frames := 6, cells := 0, slots := 0, locals := 129 } : Room) s m ([.ref h_me, .int p0] : List Value).toArray below meth c H locs 0 0 Qz (F0 m 76 ls []) := by
    intro o_me H locs ls h hw hl
    unfold bk_X9_readExpression_76 at h
    refine lv_aload_n hx hb dX9_readExpression_76 rfl (lv_at hl 0 rfl) ?_
    refine lv_iconst (v := 1) hx hb dX9_readExpression_77 (by decide) ?_
    obtain ⟨z3, ez3, h⟩ := z_bd h
    refine xj_v (xrV (As := [.int (1 : Int32)]) (rest := []) ⟨hx, hb, hml, hown, hts⟩ (m_X9_settle l dC dI _ h_me q_me k_me o_me (1 : Int32) z3 ez3) kw1592 kw1589 kw1591 kw71 kw120 hd_X9_settle ⟨rfl, rfl⟩ rfl rfl ⟨rfl, rfl⟩ hX hK hw [0] (by decide) rfl rfl rfl rfl rfl hl.1 rfl rfl dX9_readExpression_78) hw hA [0] (by decide) rfl rfl (fun H locs hw => ?_)
    have hw : Wd dC dI A s.heap [wX9 h_me q_me k_me z3] H locs := hw
    have hy := Option.some.inj h
    rw [← hQz, ← hy]
    exact xr_v hx hb hr hlk hK hw dX9_readExpression_81
  have bk_72_3 : ∀ (rec_20_1 : Int32 × Int32 × Ob → Option (Ob)) (hrec_20_1 : ∀ (v1 : Int32) (v2 : Int32) (o_me : Ob) (H : Heap) (locs : List Loc) (ls : Array Slot), rec_20_1 (v1, v2, o_me) = some y → Wd dC dI A s.heap [wX9 h_me q_me k_me o_me] H locs → lv_has ls 3 [(0, .ref h_me), (1, .int v1), (2, .int v2)] → W p l e ({ frames := 6, cells := 0, slots := 0, locals := 129 } : Room) s m ([.ref h_me, .int p0] : List Value).toArray below meth c H locs 0 0 Qz (F0 m 20 ls [])), ∀ (v1 : Int32) (s0 : Int32) (o_me : Ob) (H : Heap) (locs : List Loc) (ls : Array Slot), bk_X9_readExpression_72  rec_20_1 v1 s0 o_me = some y → Wd dC dI A s.heap [wX9 h_me q_me k_me o_me] H locs → lv_has ls 3 [(0, .ref h_me), (1, .int v1)] → W p l e ({ frames := 6, cells := 0, slots := 0, locals := 129 } : Room) s m ([.ref h_me, .int p0] : List Value).toArray below meth c H locs 0 0 Qz (F0 m 72 ls [.int s0]) := by
    intro rec_20_1 hrec_20_1
    intro v1 s0 o_me H locs ls h hw hl
    unfold bk_X9_readExpression_72 at h
    refine lv_istore_n (lv' := [(2, .int s0), (0, .ref h_me), (1, .int v1)]) hx hb dX9_readExpression_72 rfl hl (by decide) rfl (fun ls hl => ?_)
    refine lv_goto (tgt := 20) hx hb dX9_readExpression_73 (by decide) ?_
    exact hrec_20_1 v1 s0 o_me _ _ _ h hw (lv_sub hl [1, 2, 0] rfl)
  have lp_20_1 : ∀ (N : Nat), ∀ (v1 : Int32) (v2 : Int32) (o_me : Ob) (H : Heap) (locs : List Loc) (ls : Array Slot), lp_X9_readExpression_20   N (v1, v2, o_me) = some y → Wd dC dI A s.heap [wX9 h_me q_me k_me o_me] H locs → lv_has ls 3 [(0, .ref h_me), (1, .int v1), (2, .int v2)] → W p l e ({ frames := 6, cells := 0, slots := 0, locals := 129 } : Room) s m ([.ref h_me, .int p0] : List Value).toArray below meth c H locs 0 0 Qz (F0 m 20 ls []) := by
    intro N
    induction N with
    | zero =>
      intro v1 v2 o_me H locs ls h hw hl
      exact absurd (show (none : Option (Ob)) = some y from h) (by simp)
    | succ N ih =>
      intro v1 v2 o_me H locs ls h hw hl
      have h : lb_X9_readExpression_20   (lp_X9_readExpression_20   N) v1 v2 o_me = some y := h
      unfold lb_X9_readExpression_20 at h
      refine lv_aload_n hx hb dX9_readExpression_20 rfl (lv_at hl 0 rfl) ?_
      refine fgX9_19 hx hb hts hown hK hw 0 rfl kw1195 dX9_readExpression_21 ?_
      refine lv_if_ne (tgt := 76) hx hb dX9_readExpression_24 (by decide) (fun c => ?_) (fun c => ?_)
      · have h := z_f h c
        exact bk_76_2  o_me _ _ _ h hw (lv_sub hl [0] rfl)
      · have h := z_t h c
        refine lv_iload_n hx hb dX9_readExpression_27 rfl (lv_at hl 2 rfl) ?_
        refine lv_iconst (v := 4) hx hb dX9_readExpression_28 (by decide) ?_
        refine lv_icmp_eq (tgt := 76) hx hb dX9_readExpression_29 (by decide) (fun c => ?_) (fun c => ?_)
        · have h := z_t h c
          exact bk_76_2  o_me _ _ _ h hw (lv_sub hl [0] rfl)
        · have h := z_f h c
          refine lv_iload_n hx hb dX9_readExpression_32 rfl (lv_at hl 2 rfl) ?_
          refine lv_if_ne (tgt := 43) hx hb dX9_readExpression_33 (by decide) (fun c => ?_) (fun c => ?_)
          · have h := z_f h c
            refine lv_iload_n hx hb dX9_readExpression_43 rfl (lv_at hl 2 rfl) ?_
            refine lv_iconst (v := 1) hx hb dX9_readExpression_44 (by decide) ?_
            refine lv_icmp_ne (tgt := 55) hx hb dX9_readExpression_45 (by decide) (fun c => ?_) (fun c => ?_)
            · have h := z_f h c
              refine lv_iload_n hx hb dX9_readExpression_55 rfl (lv_at hl 2 rfl) ?_
              refine lv_iconst (v := 3) hx hb dX9_readExpression_56 (by decide) ?_
              refine lv_icmp_ne (tgt := 68) hx hb dX9_readExpression_57 (by decide) (fun c => ?_) (fun c => ?_)
              · have h := z_f h c
                refine lv_aload_n hx hb dX9_readExpression_68 rfl (lv_at hl 0 rfl) ?_
                obtain ⟨z4, ez4, h⟩ := z_bd h
                refine xj_i (xrV (As := []) (rest := []) ⟨hx, hb, hml, hown, hts⟩ (m_X9_behindTest l dC dI _ h_me q_me k_me o_me z4 ez4) kw1608 kw1605 kw1607 kw74 kw120 hd_X9_behindTest ⟨rfl, rfl⟩ rfl rfl ⟨rfl, rfl⟩ hX hK hw [0] (by decide) rfl rfl rfl rfl rfl hl.1 rfl rfl dX9_readExpression_69) hw hA [0] (by decide) rfl rfl (fun H locs hw => ?_)
                have hw : Wd dC dI A s.heap [wX9 h_me q_me k_me z4.2] H locs := hw
                exact bk_72_3 (lp_X9_readExpression_20   N) ih v1 z4.1 z4.2 _ _ _ h hw (lv_sub hl [0, 1] rfl)
              · have h := z_t h c
                refine lv_aload_n hx hb dX9_readExpression_60 rfl (lv_at hl 0 rfl) ?_
                refine lv_iload_n hx hb dX9_readExpression_61 rfl (lv_at hl 1 rfl) ?_
                obtain ⟨z5, ez5, h⟩ := z_bd h
                refine xj_i (xrV (As := [.int v1]) (rest := []) ⟨hx, hb, hml, hown, hts⟩ (m_X9_behindSum l dC dI _ h_me q_me k_me o_me v1 z5 ez5) kw1585 kw1582 kw1584 kw70 kw120 hd_X9_behindSum ⟨rfl, rfl⟩ rfl rfl ⟨rfl, rfl⟩ hX hK hw [0] (by decide) rfl rfl rfl rfl rfl hl.1 rfl rfl dX9_readExpression_62) hw hA [0] (by decide) rfl rfl (fun H locs hw => ?_)
                have hw : Wd dC dI A s.heap [wX9 h_me q_me k_me z5.2] H locs := hw
                refine lv_goto (tgt := 72) hx hb dX9_readExpression_65 (by decide) ?_
                exact bk_72_3 (lp_X9_readExpression_20   N) ih v1 z5.1 z5.2 _ _ _ h hw (lv_sub hl [0, 1] rfl)
            · have h := z_t h c
              refine lv_aload_n hx hb dX9_readExpression_48 rfl (lv_at hl 0 rfl) ?_
              obtain ⟨z6, ez6, h⟩ := z_bd h
              refine xj_i (xrV (As := []) (rest := []) ⟨hx, hb, hml, hown, hts⟩ (m_X9_readPart l dC dI _ h_me q_me k_me o_me z6 ez6) kw1559 kw1556 kw1558 kw64 kw120 hd_X9_readPart ⟨rfl, rfl⟩ rfl rfl ⟨rfl, rfl⟩ hX hK hw [0] (by decide) rfl rfl rfl rfl rfl hl.1 rfl rfl dX9_readExpression_49) hw hA [0] (by decide) rfl rfl (fun H locs hw => ?_)
              have hw : Wd dC dI A s.heap [wX9 h_me q_me k_me z6.2] H locs := hw
              refine lv_goto (tgt := 72) hx hb dX9_readExpression_52 (by decide) ?_
              exact bk_72_3 (lp_X9_readExpression_20   N) ih v1 z6.1 z6.2 _ _ _ h hw (lv_sub hl [0, 1] rfl)
          · have h := z_t h c
            refine lv_aload_n hx hb dX9_readExpression_36 rfl (lv_at hl 0 rfl) ?_
            obtain ⟨z7, ez7, h⟩ := z_bd h
            refine xj_i (xrV (As := []) (rest := []) ⟨hx, hb, hml, hown, hts⟩ (m_X9_readPlain l dC dI _ h_me q_me k_me o_me z7 ez7) kw1542 kw1539 kw1541 kw60 kw120 hd_X9_readPlain ⟨rfl, rfl⟩ rfl rfl ⟨rfl, rfl⟩ hX hK hw [0] (by decide) rfl rfl rfl rfl rfl hl.1 rfl rfl dX9_readExpression_37) hw hA [0] (by decide) rfl rfl (fun H locs hw => ?_)
            have hw : Wd dC dI A s.heap [wX9 h_me q_me k_me z7.2] H locs := hw
            refine lv_goto (tgt := 72) hx hb dX9_readExpression_40 (by decide) ?_
            exact bk_72_3 (lp_X9_readExpression_20   N) ih v1 z7.1 z7.2 _ _ _ h hw (lv_sub hl [0, 1] rfl)
  have bk_19_0 : ∀ (v1 : Int32) (s0 : Int32) (o_me : Ob) (H : Heap) (locs : List Loc) (ls : Array Slot), bk_X9_readExpression_19   v1 s0 o_me = some y → Wd dC dI A s.heap [wX9 h_me q_me k_me o_me] H locs → lv_has ls 3 [(0, .ref h_me), (1, .int v1)] → W p l e ({ frames := 6, cells := 0, slots := 0, locals := 129 } : Room) s m ([.ref h_me, .int p0] : List Value).toArray below meth c H locs 0 0 Qz (F0 m 19 ls [.int s0]) := by
    intro v1 s0 o_me H locs ls h hw hl
    unfold bk_X9_readExpression_19 at h
    refine lv_istore_n (lv' := [(2, .int s0), (0, .ref h_me), (1, .int v1)]) hx hb dX9_readExpression_19 rfl hl (by decide) rfl (fun ls hl => ?_)
    exact lp_20_1  zfu v1 s0 o_me _ _ _ h hw (lv_sub hl [1, 2, 0] rfl)
  unfold f_X9_readExpression at h
  refine lv_aload_n hx hb dX9_readExpression_0 rfl (lv_at hl 0 rfl) ?_
  refine lv_iconst (v := 0) hx hb dX9_readExpression_1 (by decide) ?_
  refine fpX9_29 hx hb hts hown hK hw 0 rfl kw1205 dX9_readExpression_2 (fun H locs hw => ?_)
  obtain ⟨o1, eo1, h⟩ := z_lt h
  have hw : Wd dC dI A s.heap [wX9 h_me q_me k_me o1] H locs := by rw [eo1]; exact hw
  refine lv_aload_n hx hb dX9_readExpression_5 rfl (lv_at hl 0 rfl) ?_
  refine lv_iconst (v := 0) hx hb dX9_readExpression_6 (by decide) ?_
  refine fpX9_30 hx hb hts hown hK hw 0 rfl kw1206 dX9_readExpression_7 (fun H locs hw => ?_)
  obtain ⟨o2, eo2, h⟩ := z_lt h
  have hw : Wd dC dI A s.heap [wX9 h_me q_me k_me o2] H locs := by rw [eo2]; exact hw
  refine lv_iload_n hx hb dX9_readExpression_10 rfl (lv_at hl 1 rfl) ?_
  refine lv_if_eq (tgt := 18) hx hb dX9_readExpression_11 (by decide) (fun c => ?_) (fun c => ?_)
  · have h := z_t h c
    refine lv_iconst (v := 1) hx hb dX9_readExpression_18 (by decide) ?_
    exact bk_19_0  p0 (1 : Int32) o2 _ _ _ h hw (lv_sub hl [0, 1] rfl)
  · have h := z_f h c
    refine lv_iconst (v := 0) hx hb dX9_readExpression_14 (by decide) ?_
    refine lv_goto (tgt := 19) hx hb dX9_readExpression_15 (by decide) ?_
    exact bk_19_0  p0 (0 : Int32) o2 _ _ _ h hw (lv_sub hl [0, 1] rfl)

def bk_X9_readLaw_185   (v2 : Int32) (o_me : Ob) : Option (Ob) :=
  zgd (zin (v2 + (6 : Int32)) 96) <|
  zlt (tA o_me 22 (v2 + (6 : Int32)).toNatClampNeg (gI o_me 23)) fun o13 =>
  some o13
def bk_X9_readLaw_135   (v2 : Int32) (o_me : Ob) : Option (Ob) :=
  zgd (zin (v2 + (4 : Int32)) 96) <|
  zlt (tA o_me 22 (v2 + (4 : Int32)).toNatClampNeg (gI o_me 23)) fun o9 =>
  zgd (zin (v2 + (5 : Int32)) 96) <|
  zlt (tA o9 22 (v2 + (5 : Int32)).toNatClampNeg (gI o9 23)) fun o11 =>
  if (gI o11 19) = (0 : Int32) then
  ((f_X9_isWord o11 (294 : Int64)).bind fun z14 =>
  if z14 = (0 : Int32) then
  (bk_X9_readLaw_185   v2 o11)
  else
  ((f_X9_next o11).bind fun z15 =>
  (f_X9_readExpression z15 (1 : Int32)).bind fun z16 =>
  bk_X9_readLaw_185   v2 z16))
  else
  (bk_X9_readLaw_185   v2 o11)
def lb_X9_readLaw_75   (rec_75_3 : Int32 × Int32 × Int32 × Ob → Option (Ob)) (v1 : Int32) (v2 : Int32) (v3 : Int32) (o_me : Ob) : Option (Ob) :=
  if (8 : Int32) ≤ v3 then
  (zgd (zin v2 96) <|
  zlt (tA o_me 22 v2.toNatClampNeg v1) fun o4 =>
  zlt (sI o4 21 ((gI o4 21) + (1 : Int32))) fun o5 =>
  zgd (zin (v2 + (3 : Int32)) 96) <|
  zlt (tA o5 22 (v2 + (3 : Int32)).toNatClampNeg (gI o5 23)) fun o7 =>
  if v1 = (3 : Int32) then
  (bk_X9_readLaw_135   v2 o7)
  else
  ((f_X9_readExpression o7 (0 : Int32)).bind fun z17 =>
  bk_X9_readLaw_135   v2 z17))
  else
  (zgd (zin (v2 + v3) 96) <|
  zlt (tA o_me 22 (v2 + v3).toNatClampNeg (0 : Int32)) fun o19 =>
  zlt (v3 + (1 : Int32)) fun x20 =>
  rec_75_3 (v1, v2, x20, o19))
def lp_X9_readLaw_75   : Nat → (Int32 × Int32 × Int32 × Ob) → Option (Ob) := zit (fun rec a => lb_X9_readLaw_75   rec a.1 a.2.1 a.2.2.1 a.2.2.2)
def bk_X9_readLaw_54   (v1 : Int32) (s0 : Int32) (o_me : Ob) : Option (Ob) :=
  (f_X9_must o_me s0).bind fun z1 =>
  if (gI z1 19) = (0 : Int32) then
  (zlt ((8 : Int32) * (gI z1 21)) fun x2 =>
  lp_X9_readLaw_75   zfu (v1, x2, (0 : Int32), z1))
  else
  (some z1)
def bk_X9_readLaw_53   (v1 : Int32) (o_me : Ob) : Option (Ob) :=
  bk_X9_readLaw_54   v1 (0 : Int32) o_me
def bk_X9_readLaw_27  (rec_4_0 : Int32 × Int32 × Ob → Option (Ob)) (v2 : Int32) (s0 : Int32) (o_me : Ob) : Option (Ob) :=
  zlt (v2 + (1 : Int32)) fun x23 =>
  rec_4_0 (s0, x23, o_me)
def lb_X9_readLaw_4   (rec_4_0 : Int32 × Int32 × Ob → Option (Ob)) (v1 : Int32) (v2 : Int32) (o_me : Ob) : Option (Ob) :=
  if (4 : Int32) ≤ v2 then
  (if v1 = (-1 : Int32) then
  (bk_X9_readLaw_53   v1 o_me)
  else
  (if (12 : Int32) ≤ (gI o_me 21) then
  (bk_X9_readLaw_53   v1 o_me)
  else
  (bk_X9_readLaw_54   v1 (1 : Int32) o_me)))
  else
  (zgd (zin v2 4) <|
  (f_X9_isWord o_me (gM o_me 33 v2.toNatClampNeg)).bind fun z22 =>
  if z22 = (0 : Int32) then
  (bk_X9_readLaw_27  rec_4_0 v2 v1 o_me)
  else
  (bk_X9_readLaw_27  rec_4_0 v2 v2 o_me))
def lp_X9_readLaw_4   : Nat → (Int32 × Int32 × Ob) → Option (Ob) := zit (fun rec a => lb_X9_readLaw_4   rec a.1 a.2.1 a.2.2)
def f_X9_readLaw (o_me : Ob) : Option (Ob) :=
  lp_X9_readLaw_4   zfu ((-1 : Int32), (0 : Int32), o_me)
set_option maxHeartbeats 4000000 in
set_option maxRecDepth 100000 in
theorem m_X9_readLaw (l : Launch) (dC : Nat → ClassId) (dI : Nat → Nat → Nat) (sz : Nat) (h_me : Nat) (q_me : Nat → Nat) (k_me : Nat → ClassId) (o_me : Ob) (y : Ob) (h : f_X9_readLaw o_me = some y) : CV l yX9_readLaw cX9_readLaw 4 none ({ frames := 7, cells := 0, slots := 0, locals := 151 } : Room) dC dI sz [.ref h_me] [wX9 h_me q_me k_me o_me] [tX9 k_me] [wX9 h_me q_me k_me y] := by
  refine CC_of (by decide) (Nat.le_of_ble_eq_true rfl) ?_
  intro p e s m below meth c A ls hx hb hml hr hlk hnm hown hts hX hK hP hD hA hl
  have hl : lv_has ls 4 [(0, .ref h_me)] := hl
  have hown : s.vm.findClass RX9 = some m.cls := hown
  have hw : Wd dC dI A s.heap [wX9 h_me q_me k_me o_me] s.heap [] := ⟨hP, hD, va_S.rf⟩
  generalize hQz : (MQ below (QV dC dI (fun (_ : Unit) => True) (fun _ => Jn [wX9 h_me q_me k_me y]) (fun _ => Jt [tX9 k_me]) A) ([.ref h_me] : List Value).toArray s 0 0 A) = Qz
  clear hP hD hnm
  have bk_185_5 : ∀ (v2 : Int32) (o_me : Ob) (H : Heap) (locs : List Loc) (ls : Array Slot), bk_X9_readLaw_185   v2 o_me = some y → Wd dC dI A s.heap [wX9 h_me q_me k_me o_me] H locs → lv_has ls 4 [(0, .ref h_me), (2, .int v2)] → W p l e ({ frames := 7, cells := 0, slots := 0, locals := 151 } : Room) s m ([.ref h_me] : List Value).toArray below meth c H locs 0 0 Qz (F0 m 185 ls []) := by
    intro v2 o_me H locs ls h hw hl
    unfold bk_X9_readLaw_185 at h
    refine lv_aload_n hx hb dX9_readLaw_185 rfl (lv_at hl 0 rfl) ?_
    refine fgX9_22 hx hb hts hown hK hw 0 rfl kw1198 dX9_readLaw_186 ?_
    refine lv_iload_n hx hb dX9_readLaw_189 rfl (lv_at hl 1 rfl) ?_
    refine lv_bipush (v := 6) hx hb dX9_readLaw_190 (by decide) ?_
    refine lv_iadd hx hb dX9_readLaw_192 ?_
    refine lv_aload_n hx hb dX9_readLaw_193 rfl (lv_at hl 0 rfl) ?_
    refine fgX9_23 hx hb hts hown hK hw 0 rfl kw1199 dX9_readLaw_194 ?_
    obtain ⟨g12, h⟩ := z_gd h
    refine fbX9_22 hx hb hK hw 0 rfl rfl g12 dX9_readLaw_197 (fun H locs hw => ?_)
    obtain ⟨o13, eo13, h⟩ := z_lt h
    have hw : Wd dC dI A s.heap [wX9 h_me q_me k_me o13] H locs := by rw [eo13]; exact hw
    have hy := Option.some.inj h
    rw [← hQz, ← hy]
    exact xr_v hx hb hr hlk hK hw dX9_readLaw_198
  have bk_135_4 : ∀ (v2 : Int32) (o_me : Ob) (H : Heap) (locs : List Loc) (ls : Array Slot), bk_X9_readLaw_135   v2 o_me = some y → Wd dC dI A s.heap [wX9 h_me q_me k_me o_me] H locs → lv_has ls 4 [(0, .ref h_me), (2, .int v2)] → W p l e ({ frames := 7, cells := 0, slots := 0, locals := 151 } : Room) s m ([.ref h_me] : List Value).toArray below meth c H locs 0 0 Qz (F0 m 135 ls []) := by
    intro v2 o_me H locs ls h hw hl
    unfold bk_X9_readLaw_135 at h
    refine lv_aload_n hx hb dX9_readLaw_135 rfl (lv_at hl 0 rfl) ?_
    refine fgX9_22 hx hb hts hown hK hw 0 rfl kw1198 dX9_readLaw_136 ?_
    refine lv_iload_n hx hb dX9_readLaw_139 rfl (lv_at hl 1 rfl) ?_
    refine lv_iconst (v := 4) hx hb dX9_readLaw_140 (by decide) ?_
    refine lv_iadd hx hb dX9_readLaw_141 ?_
    refine lv_aload_n hx hb dX9_readLaw_142 rfl (lv_at hl 0 rfl) ?_
    refine fgX9_23 hx hb hts hown hK hw 0 rfl kw1199 dX9_readLaw_143 ?_
    obtain ⟨g8, h⟩ := z_gd h
    refine fbX9_22 hx hb hK hw 0 rfl rfl g8 dX9_readLaw_146 (fun H locs hw => ?_)
    obtain ⟨o9, eo9, h⟩ := z_lt h
    have hw : Wd dC dI A s.heap [wX9 h_me q_me k_me o9] H locs := by rw [eo9]; exact hw
    refine lv_aload_n hx hb dX9_readLaw_147 rfl (lv_at hl 0 rfl) ?_
    refine fgX9_22 hx hb hts hown hK hw 0 rfl kw1198 dX9_readLaw_148 ?_
    refine lv_iload_n hx hb dX9_readLaw_151 rfl (lv_at hl 1 rfl) ?_
    refine lv_iconst (v := 5) hx hb dX9_readLaw_152 (by decide) ?_
    refine lv_iadd hx hb dX9_readLaw_153 ?_
    refine lv_aload_n hx hb dX9_readLaw_154 rfl (lv_at hl 0 rfl) ?_
    refine fgX9_23 hx hb hts hown hK hw 0 rfl kw1199 dX9_readLaw_155 ?_
    obtain ⟨g10, h⟩ := z_gd h
    refine fbX9_22 hx hb hK hw 0 rfl rfl g10 dX9_readLaw_158 (fun H locs hw => ?_)
    obtain ⟨o11, eo11, h⟩ := z_lt h
    have hw : Wd dC dI A s.heap [wX9 h_me q_me k_me o11] H locs := by rw [eo11]; exact hw
    refine lv_aload_n hx hb dX9_readLaw_159 rfl (lv_at hl 0 rfl) ?_
    refine fgX9_19 hx hb hts hown hK hw 0 rfl kw1195 dX9_readLaw_160 ?_
    refine lv_if_ne (tgt := 185) hx hb dX9_readLaw_163 (by decide) (fun c => ?_) (fun c => ?_)
    · have h := z_f h c
      exact bk_185_5  v2 o11 _ _ _ h hw (lv_sub hl [0, 1] rfl)
    · have h := z_t h c
      refine lv_aload_n hx hb dX9_readLaw_166 rfl (lv_at hl 0 rfl) ?_
      refine lv_ldc2 (v := 294) hx hb hown (hts _ kw1611) dX9_readLaw_167 ?_
      obtain ⟨z14, ez14, h⟩ := z_bd h
      refine xj_i (xrV (As := [.long (294 : Int64)]) (rest := []) ⟨hx, hb, hml, hown, hts⟩ (m_X9_isWord l dC dI _ h_me q_me k_me o11 (294 : Int64) z14 ez14) kw1530 kw1527 kw1529 kw57 kw120 hd_X9_isWord ⟨rfl, rfl⟩ rfl rfl ⟨rfl, rfl⟩ hX hK hw [0] (by decide) rfl rfl rfl rfl rfl hl.1 rfl rfl dX9_readLaw_170) hw hA [0] (by decide) rfl rfl (fun H locs hw => ?_)
      have hw : Wd dC dI A s.heap [wX9 h_me q_me k_me o11] H locs := hw
      refine lv_if_eq (tgt := 185) hx hb dX9_readLaw_173 (by decide) (fun c => ?_) (fun c => ?_)
      · have h := z_t h c
        exact bk_185_5  v2 o11 _ _ _ h hw (lv_sub hl [0, 1] rfl)
      · have h := z_f h c
        refine lv_aload_n hx hb dX9_readLaw_176 rfl (lv_at hl 0 rfl) ?_
        obtain ⟨z15, ez15, h⟩ := z_bd h
        refine xj_v (xrV (As := []) (rest := []) ⟨hx, hb, hml, hown, hts⟩ (m_X9_next l dC dI _ h_me q_me k_me o11 z15 ez15) kw1512 kw1509 kw1511 kw55 kw120 hd_X9_next ⟨rfl, rfl⟩ rfl rfl ⟨rfl, rfl⟩ hX hK hw [0] (by decide) rfl rfl rfl rfl rfl hl.1 rfl rfl dX9_readLaw_177) hw hA [0] (by decide) rfl rfl (fun H locs hw => ?_)
        have hw : Wd dC dI A s.heap [wX9 h_me q_me k_me z15] H locs := hw
        refine lv_aload_n hx hb dX9_readLaw_180 rfl (lv_at hl 0 rfl) ?_
        refine lv_iconst (v := 1) hx hb dX9_readLaw_181 (by decide) ?_
        obtain ⟨z16, ez16, h⟩ := z_bd h
        refine xj_v (xrV (As := [.int (1 : Int32)]) (rest := []) ⟨hx, hb, hml, hown, hts⟩ (m_X9_readExpression l dC dI _ h_me q_me k_me z15 (1 : Int32) z16 ez16) kw1538 kw1535 kw1537 kw59 kw120 hd_X9_readExpression ⟨rfl, rfl⟩ rfl rfl ⟨rfl, rfl⟩ hX hK hw [0] (by decide) rfl rfl rfl rfl rfl hl.1 rfl rfl dX9_readLaw_182) hw hA [0] (by decide) rfl rfl (fun H locs hw => ?_)
        have hw : Wd dC dI A s.heap [wX9 h_me q_me k_me z16] H locs := hw
        exact bk_185_5  v2 z16 _ _ _ h hw (lv_sub hl [0, 1] rfl)
  have lp_75_3 : ∀ (N : Nat), ∀ (v1 : Int32) (v2 : Int32) (v3 : Int32) (o_me : Ob) (H : Heap) (locs : List Loc) (ls : Array Slot), lp_X9_readLaw_75   N (v1, v2, v3, o_me) = some y → Wd dC dI A s.heap [wX9 h_me q_me k_me o_me] H locs → lv_has ls 4 [(0, .ref h_me), (1, .int v1), (2, .int v2), (3, .int v3)] → W p l e ({ frames := 7, cells := 0, slots := 0, locals := 151 } : Room) s m ([.ref h_me] : List Value).toArray below meth c H locs 0 0 Qz (F0 m 75 ls []) := by
    intro N
    induction N with
    | zero =>
      intro v1 v2 v3 o_me H locs ls h hw hl
      exact absurd (show (none : Option (Ob)) = some y from h) (by simp)
    | succ N ih =>
      intro v1 v2 v3 o_me H locs ls h hw hl
      have h : lb_X9_readLaw_75   (lp_X9_readLaw_75   N) v1 v2 v3 o_me = some y := h
      unfold lb_X9_readLaw_75 at h
      refine lv_iload_n hx hb dX9_readLaw_75 rfl (lv_at hl 3 rfl) ?_
      refine lv_bipush (v := 8) hx hb dX9_readLaw_76 (by decide) ?_
      refine lv_icmp_ge (tgt := 96) hx hb dX9_readLaw_78 (by decide) (fun c => ?_) (fun c => ?_)
      · have h := z_t h c
        refine lv_aload_n hx hb dX9_readLaw_96 rfl (lv_at hl 0 rfl) ?_
        refine fgX9_22 hx hb hts hown hK hw 0 rfl kw1198 dX9_readLaw_97 ?_
        refine lv_iload_n hx hb dX9_readLaw_100 rfl (lv_at hl 2 rfl) ?_
        refine lv_iload_n hx hb dX9_readLaw_101 rfl (lv_at hl 1 rfl) ?_
        obtain ⟨g3, h⟩ := z_gd h
        refine fbX9_22 hx hb hK hw 0 rfl rfl g3 dX9_readLaw_102 (fun H locs hw => ?_)
        obtain ⟨o4, eo4, h⟩ := z_lt h
        have hw : Wd dC dI A s.heap [wX9 h_me q_me k_me o4] H locs := by rw [eo4]; exact hw
        refine lv_aload_n hx hb dX9_readLaw_103 rfl (lv_at hl 0 rfl) ?_
        refine lv_dup hx hb dX9_readLaw_104 rfl ?_
        refine fgX9_21 hx hb hts hown hK hw 0 rfl kw1197 dX9_readLaw_105 ?_
        refine lv_iconst (v := 1) hx hb dX9_readLaw_108 (by decide) ?_
        refine lv_iadd hx hb dX9_readLaw_109 ?_
        refine fpX9_21 hx hb hts hown hK hw 0 rfl kw1197 dX9_readLaw_110 (fun H locs hw => ?_)
        obtain ⟨o5, eo5, h⟩ := z_lt h
        have hw : Wd dC dI A s.heap [wX9 h_me q_me k_me o5] H locs := by rw [eo5]; exact hw
        refine lv_aload_n hx hb dX9_readLaw_113 rfl (lv_at hl 0 rfl) ?_
        refine fgX9_22 hx hb hts hown hK hw 0 rfl kw1198 dX9_readLaw_114 ?_
        refine lv_iload_n hx hb dX9_readLaw_117 rfl (lv_at hl 2 rfl) ?_
        refine lv_iconst (v := 3) hx hb dX9_readLaw_118 (by decide) ?_
        refine lv_iadd hx hb dX9_readLaw_119 ?_
        refine lv_aload_n hx hb dX9_readLaw_120 rfl (lv_at hl 0 rfl) ?_
        refine fgX9_23 hx hb hts hown hK hw 0 rfl kw1199 dX9_readLaw_121 ?_
        obtain ⟨g6, h⟩ := z_gd h
        refine fbX9_22 hx hb hK hw 0 rfl rfl g6 dX9_readLaw_124 (fun H locs hw => ?_)
        obtain ⟨o7, eo7, h⟩ := z_lt h
        have hw : Wd dC dI A s.heap [wX9 h_me q_me k_me o7] H locs := by rw [eo7]; exact hw
        refine lv_iload_n hx hb dX9_readLaw_125 rfl (lv_at hl 1 rfl) ?_
        refine lv_iconst (v := 3) hx hb dX9_readLaw_126 (by decide) ?_
        refine lv_icmp_eq (tgt := 135) hx hb dX9_readLaw_127 (by decide) (fun c => ?_) (fun c => ?_)
        · have h := z_t h c
          exact bk_135_4  v2 o7 _ _ _ h hw (lv_sub hl [0, 2] rfl)
        · have h := z_f h c
          refine lv_aload_n hx hb dX9_readLaw_130 rfl (lv_at hl 0 rfl) ?_
          refine lv_iconst (v := 0) hx hb dX9_readLaw_131 (by decide) ?_
          obtain ⟨z17, ez17, h⟩ := z_bd h
          refine xj_v (xrV (As := [.int (0 : Int32)]) (rest := []) ⟨hx, hb, hml, hown, hts⟩ (m_X9_readExpression l dC dI _ h_me q_me k_me o7 (0 : Int32) z17 ez17) kw1538 kw1535 kw1537 kw59 kw120 hd_X9_readExpression ⟨rfl, rfl⟩ rfl rfl ⟨rfl, rfl⟩ hX hK hw [0] (by decide) rfl rfl rfl rfl rfl hl.1 rfl rfl dX9_readLaw_132) hw hA [0] (by decide) rfl rfl (fun H locs hw => ?_)
          have hw : Wd dC dI A s.heap [wX9 h_me q_me k_me z17] H locs := hw
          exact bk_135_4  v2 z17 _ _ _ h hw (lv_sub hl [0, 2] rfl)
      · have h := z_f h c
        refine lv_aload_n hx hb dX9_readLaw_81 rfl (lv_at hl 0 rfl) ?_
        refine fgX9_22 hx hb hts hown hK hw 0 rfl kw1198 dX9_readLaw_82 ?_
        refine lv_iload_n hx hb dX9_readLaw_85 rfl (lv_at hl 2 rfl) ?_
        refine lv_iload_n hx hb dX9_readLaw_86 rfl (lv_at hl 3 rfl) ?_
        refine lv_iadd hx hb dX9_readLaw_87 ?_
        refine lv_iconst (v := 0) hx hb dX9_readLaw_88 (by decide) ?_
        obtain ⟨g18, h⟩ := z_gd h
        refine fbX9_22 hx hb hK hw 0 rfl rfl g18 dX9_readLaw_89 (fun H locs hw => ?_)
        obtain ⟨o19, eo19, h⟩ := z_lt h
        have hw : Wd dC dI A s.heap [wX9 h_me q_me k_me o19] H locs := by rw [eo19]; exact hw
        obtain ⟨x20, ex20, h⟩ := z_lt h
        refine lv_iinc (v := x20) (lv' := [(3, .int x20), (0, .ref h_me), (1, .int v1), (2, .int v2)]) hx hb dX9_readLaw_90 hl (k := 3) rfl ((congrArg (v3 + ·) (show Int32.ofInt 1 = (1 : Int32) from by decide)).trans ex20.symm) (by decide) rfl (fun ls hl => ?_)
        refine lv_goto (tgt := 75) hx hb dX9_readLaw_93 (by decide) ?_
        exact ih v1 v2 x20 o19 _ _ _ h hw (lv_sub hl [1, 2, 3, 0] rfl)
  have bk_54_2 : ∀ (v1 : Int32) (s0 : Int32) (o_me : Ob) (H : Heap) (locs : List Loc) (ls : Array Slot), bk_X9_readLaw_54   v1 s0 o_me = some y → Wd dC dI A s.heap [wX9 h_me q_me k_me o_me] H locs → lv_has ls 4 [(0, .ref h_me), (1, .int v1)] → W p l e ({ frames := 7, cells := 0, slots := 0, locals := 151 } : Room) s m ([.ref h_me] : List Value).toArray below meth c H locs 0 0 Qz (F0 m 54 ls [.int s0, .ref h_me]) := by
    intro v1 s0 o_me H locs ls h hw hl
    unfold bk_X9_readLaw_54 at h
    obtain ⟨z1, ez1, h⟩ := z_bd h
    refine xj_v (xrV (As := [.int s0]) (rest := []) ⟨hx, hb, hml, hown, hts⟩ (m_X9_must l dC dI _ h_me q_me k_me o_me s0 z1 ez1) kw1534 kw1531 kw1533 kw58 kw120 hd_X9_must ⟨rfl, rfl⟩ rfl rfl ⟨rfl, rfl⟩ hX hK hw [0] (by decide) rfl rfl rfl rfl rfl hl.1 rfl rfl dX9_readLaw_54) hw hA [0] (by decide) rfl rfl (fun H locs hw => ?_)
    have hw : Wd dC dI A s.heap [wX9 h_me q_me k_me z1] H locs := hw
    refine lv_aload_n hx hb dX9_readLaw_57 rfl (lv_at hl 0 rfl) ?_
    refine fgX9_19 hx hb hts hown hK hw 0 rfl kw1195 dX9_readLaw_58 ?_
    refine lv_if_eq (tgt := 65) hx hb dX9_readLaw_61 (by decide) (fun c => ?_) (fun c => ?_)
    · have h := z_t h c
      refine lv_bipush (v := 8) hx hb dX9_readLaw_65 (by decide) ?_
      refine lv_aload_n hx hb dX9_readLaw_67 rfl (lv_at hl 0 rfl) ?_
      refine fgX9_21 hx hb hts hown hK hw 0 rfl kw1197 dX9_readLaw_68 ?_
      refine lv_imul hx hb dX9_readLaw_71 ?_
      obtain ⟨x2, ex2, h⟩ := z_lt h
      refine lv_fi (v := x2) ex2.symm ?_
      refine lv_istore_n (lv' := [(2, .int x2), (0, .ref h_me), (1, .int v1)]) hx hb dX9_readLaw_72 rfl hl (by decide) rfl (fun ls hl => ?_)
      refine lv_iconst (v := 0) hx hb dX9_readLaw_73 (by decide) ?_
      refine lv_istore_n (lv' := [(3, .int (0 : Int32)), (2, .int x2), (0, .ref h_me), (1, .int v1)]) hx hb dX9_readLaw_74 rfl hl (by decide) rfl (fun ls hl => ?_)
      exact lp_75_3  zfu v1 x2 (0 : Int32) z1 _ _ _ h hw (lv_sub hl [2, 3, 1, 0] rfl)
    · have h := z_f h c
      have hy := Option.some.inj h
      rw [← hQz, ← hy]
      exact xr_v hx hb hr hlk hK hw dX9_readLaw_64
  have bk_53_1 : ∀ (v1 : Int32) (o_me : Ob) (H : Heap) (locs : List Loc) (ls : Array Slot), bk_X9_readLaw_53   v1 o_me = some y → Wd dC dI A s.heap [wX9 h_me q_me k_me o_me] H locs → lv_has ls 4 [(0, .ref h_me), (1, .int v1)] → W p l e ({ frames := 7, cells := 0, slots := 0, locals := 151 } : Room) s m ([.ref h_me] : List Value).toArray below meth c H locs 0 0 Qz (F0 m 53 ls [.ref h_me]) := by
    intro v1 o_me H locs ls h hw hl
    unfold bk_X9_readLaw_53 at h
    refine lv_iconst (v := 0) hx hb dX9_readLaw_53 (by decide) ?_
    exact bk_54_2  v1 (0 : Int32) o_me _ _ _ h hw (lv_sub hl [0, 1] rfl)
  have bk_27_6 : ∀ (rec_4_0 : Int32 × Int32 × Ob → Option (Ob)) (hrec_4_0 : ∀ (v1 : Int32) (v2 : Int32) (o_me : Ob) (H : Heap) (locs : List Loc) (ls : Array Slot), rec_4_0 (v1, v2, o_me) = some y → Wd dC dI A s.heap [wX9 h_me q_me k_me o_me] H locs → lv_has ls 4 [(0, .ref h_me), (1, .int v1), (2, .int v2)] → W p l e ({ frames := 7, cells := 0, slots := 0, locals := 151 } : Room) s m ([.ref h_me] : List Value).toArray below meth c H locs 0 0 Qz (F0 m 4 ls [])), ∀ (v2 : Int32) (s0 : Int32) (o_me : Ob) (H : Heap) (locs : List Loc) (ls : Array Slot), bk_X9_readLaw_27  rec_4_0 v2 s0 o_me = some y → Wd dC dI A s.heap [wX9 h_me q_me k_me o_me] H locs → lv_has ls 4 [(0, .ref h_me), (2, .int v2)] → W p l e ({ frames := 7, cells := 0, slots := 0, locals := 151 } : Room) s m ([.ref h_me] : List Value).toArray below meth c H locs 0 0 Qz (F0 m 27 ls [.int s0]) := by
    intro rec_4_0 hrec_4_0
    intro v2 s0 o_me H locs ls h hw hl
    unfold bk_X9_readLaw_27 at h
    refine lv_istore_n (lv' := [(1, .int s0), (0, .ref h_me), (2, .int v2)]) hx hb dX9_readLaw_27 rfl hl (by decide) rfl (fun ls hl => ?_)
    obtain ⟨x23, ex23, h⟩ := z_lt h
    refine lv_iinc (v := x23) (lv' := [(2, .int x23), (1, .int s0), (0, .ref h_me)]) hx hb dX9_readLaw_28 hl (k := 2) rfl ((congrArg (v2 + ·) (show Int32.ofInt 1 = (1 : Int32) from by decide)).trans ex23.symm) (by decide) rfl (fun ls hl => ?_)
    refine lv_goto (tgt := 4) hx hb dX9_readLaw_31 (by decide) ?_
    exact hrec_4_0 s0 x23 o_me _ _ _ h hw (lv_sub hl [2, 1, 0] rfl)
  have lp_4_0 : ∀ (N : Nat), ∀ (v1 : Int32) (v2 : Int32) (o_me : Ob) (H : Heap) (locs : List Loc) (ls : Array Slot), lp_X9_readLaw_4   N (v1, v2, o_me) = some y → Wd dC dI A s.heap [wX9 h_me q_me k_me o_me] H locs → lv_has ls 4 [(0, .ref h_me), (1, .int v1), (2, .int v2)] → W p l e ({ frames := 7, cells := 0, slots := 0, locals := 151 } : Room) s m ([.ref h_me] : List Value).toArray below meth c H locs 0 0 Qz (F0 m 4 ls []) := by
    intro N
    induction N with
    | zero =>
      intro v1 v2 o_me H locs ls h hw hl
      exact absurd (show (none : Option (Ob)) = some y from h) (by simp)
    | succ N ih =>
      intro v1 v2 o_me H locs ls h hw hl
      have h : lb_X9_readLaw_4   (lp_X9_readLaw_4   N) v1 v2 o_me = some y := h
      unfold lb_X9_readLaw_4 at h
      refine lv_iload_n hx hb dX9_readLaw_4 rfl (lv_at hl 2 rfl) ?_
      refine lv_iconst (v := 4) hx hb dX9_readLaw_5 (by decide) ?_
      refine lv_icmp_ge (tgt := 34) hx hb dX9_readLaw_6 (by decide) (fun c => ?_) (fun c => ?_)
      · have h := z_t h c
        refine lv_aload_n hx hb dX9_readLaw_34 rfl (lv_at hl 0 rfl) ?_
        refine lv_iload_n hx hb dX9_readLaw_35 rfl (lv_at hl 1 rfl) ?_
        refine lv_iconst (v := (-1)) hx hb dX9_readLaw_36 (by decide) ?_
        refine lv_icmp_eq (tgt := 53) hx hb dX9_readLaw_37 (by decide) (fun c => ?_) (fun c => ?_)
        · have h := z_t h c
          exact bk_53_1  v1 o_me _ _ _ h hw (lv_sub hl [0, 1] rfl)
        · have h := z_f h c
          refine lv_aload_n hx hb dX9_readLaw_40 rfl (lv_at hl 0 rfl) ?_
          refine fgX9_21 hx hb hts hown hK hw 0 rfl kw1197 dX9_readLaw_41 ?_
          refine lv_bipush (v := 12) hx hb dX9_readLaw_44 (by decide) ?_
          refine lv_icmp_ge (tgt := 53) hx hb dX9_readLaw_46 (by decide) (fun c => ?_) (fun c => ?_)
          · have h := z_t h c
            exact bk_53_1  v1 o_me _ _ _ h hw (lv_sub hl [0, 1] rfl)
          · have h := z_f h c
            refine lv_iconst (v := 1) hx hb dX9_readLaw_49 (by decide) ?_
            refine lv_goto (tgt := 54) hx hb dX9_readLaw_50 (by decide) ?_
            exact bk_54_2  v1 (1 : Int32) o_me _ _ _ h hw (lv_sub hl [0, 1] rfl)
      · have h := z_f h c
        refine lv_aload_n hx hb dX9_readLaw_9 rfl (lv_at hl 0 rfl) ?_
        refine lv_aload_n hx hb dX9_readLaw_10 rfl (lv_at hl 0 rfl) ?_
        refine fgX9_33 hx hb hts hown hK hw 0 rfl kw1209 dX9_readLaw_11 ?_
        refine lv_iload_n hx hb dX9_readLaw_14 rfl (lv_at hl 2 rfl) ?_
        obtain ⟨g21, h⟩ := z_gd h
        refine faX9_33 hx hb hK hw 0 rfl rfl g21 dX9_readLaw_15 ?_
        obtain ⟨z22, ez22, h⟩ := z_bd h
        refine xj_i (xrV (As := [.long (gM o_me 33 v2.toNatClampNeg)]) (rest := []) ⟨hx, hb, hml, hown, hts⟩ (m_X9_isWord l dC dI _ h_me q_me k_me o_me (gM o_me 33 v2.toNatClampNeg) z22 ez22) kw1530 kw1527 kw1529 kw57 kw120 hd_X9_isWord ⟨rfl, rfl⟩ rfl rfl ⟨rfl, rfl⟩ hX hK hw [0] (by decide) rfl rfl rfl rfl rfl hl.1 rfl rfl dX9_readLaw_16) hw hA [0] (by decide) rfl rfl (fun H locs hw => ?_)
        have hw : Wd dC dI A s.heap [wX9 h_me q_me k_me o_me] H locs := hw
        refine lv_if_eq (tgt := 26) hx hb dX9_readLaw_19 (by decide) (fun c => ?_) (fun c => ?_)
        · have h := z_t h c
          refine lv_iload_n hx hb dX9_readLaw_26 rfl (lv_at hl 1 rfl) ?_
          exact bk_27_6 (lp_X9_readLaw_4   N) ih v2 v1 o_me _ _ _ h hw (lv_sub hl [0, 2] rfl)
        · have h := z_f h c
          refine lv_iload_n hx hb dX9_readLaw_22 rfl (lv_at hl 2 rfl) ?_
          refine lv_goto (tgt := 27) hx hb dX9_readLaw_23 (by decide) ?_
          exact bk_27_6 (lp_X9_readLaw_4   N) ih v2 v2 o_me _ _ _ h hw (lv_sub hl [0, 2] rfl)
  unfold f_X9_readLaw at h
  refine lv_iconst (v := (-1)) hx hb dX9_readLaw_0 (by decide) ?_
  refine lv_istore_n (lv' := [(1, .int (-1 : Int32)), (0, .ref h_me)]) hx hb dX9_readLaw_1 rfl hl (by decide) rfl (fun ls hl => ?_)
  refine lv_iconst (v := 0) hx hb dX9_readLaw_2 (by decide) ?_
  refine lv_istore_n (lv' := [(2, .int (0 : Int32)), (1, .int (-1 : Int32)), (0, .ref h_me)]) hx hb dX9_readLaw_3 rfl hl (by decide) rfl (fun ls hl => ?_)
  exact lp_4_0  zfu (-1 : Int32) (0 : Int32) o_me _ _ _ h hw (lv_sub hl [2, 1, 0] rfl)

def lb_X9_law_145   (rec_145_3 : Int32 × Int32 × Ob → Option (Int32 × Ob)) (v1 : Int32) (v2 : Int32) (o_me : Ob) : Option (Int32 × Ob) :=
  if (gI o_me 23) ≤ v2 then
  (zlt (tA o_me 3 (2 : Int32).toNatClampNeg ((gA o_me 3 (2 : Int32).toNatClampNeg) + (1 : Int32))) fun o8 =>
  (f_X9_tell o8 ((gA o8 3 (2 : Int32).toNatClampNeg) - (1 : Int32))).bind fun z9 =>
  some (z9.1, z9.2))
  else
  (zgd (zin v2 400) <|
  zgd (zin ((v1 + (98 : Int32)) + ((2 : Int32) * v2)) 5484) <|
  zlt (tA o_me 3 ((v1 + (98 : Int32)) + ((2 : Int32) * v2)).toNatClampNeg (gA o_me 24 v2.toNatClampNeg)) fun o12 =>
  zgd (zin v2 400) <|
  zgd (zin (((v1 + (98 : Int32)) + ((2 : Int32) * v2)) + (1 : Int32)) 5484) <|
  zlt (tA o12 3 (((v1 + (98 : Int32)) + ((2 : Int32) * v2)) + (1 : Int32)).toNatClampNeg (gA o12 25 v2.toNatClampNeg)) fun o15 =>
  zlt (v2 + (1 : Int32)) fun x16 =>
  rec_145_3 (v1, x16, o15))
def lp_X9_law_145   : Nat → (Int32 × Int32 × Ob) → Option (Int32 × Ob) := zit (fun rec a => lb_X9_law_145   rec a.1 a.2.1 a.2.2)
def lb_X9_law_110   (rec_110_2 : Int32 × Int32 × Ob → Option (Int32 × Ob)) (v1 : Int32) (v2 : Int32) (o_me : Ob) : Option (Int32 × Ob) :=
  if ((8 : Int32) * (gI o_me 21)) ≤ v2 then
  (lp_X9_law_145   zfu (v1, (0 : Int32), o_me))
  else
  (zgd (zin v2 96) <|
  zgd (zin ((v1 + (2 : Int32)) + v2) 5484) <|
  zlt (tA o_me 3 ((v1 + (2 : Int32)) + v2).toNatClampNeg (gA o_me 22 v2.toNatClampNeg)) fun o19 =>
  zlt (v2 + (1 : Int32)) fun x20 =>
  rec_110_2 (v1, x20, o19))
def lp_X9_law_110   : Nat → (Int32 × Int32 × Ob) → Option (Int32 × Ob) := zit (fun rec a => lb_X9_law_110   rec a.1 a.2.1 a.2.2)
def bk_X9_law_64   (o_me : Ob) : Option (Int32 × Ob) :=
  (f_X9_endText o_me).bind fun z4 =>
  if (gI z4 19) = (0 : Int32) then
  (zlt ((84 : Int32) + ((900 : Int32) * (gA z4 3 (2 : Int32).toNatClampNeg))) fun x5 =>
  zgd (zin (x5 + (1 : Int32)) 5484) <|
  zlt (tA z4 3 (x5 + (1 : Int32)).toNatClampNeg (gI z4 21)) fun o7 =>
  lp_X9_law_110   zfu (x5, (0 : Int32), o7))
  else
  ((f_X9_tell z4 (-6 : Int32)).bind fun z21 =>
  some (z21.1, z21.2))
def lb_X9_law_37   (rec_37_0 : Ob → Option (Int32 × Ob)) (o_me : Ob) : Option (Int32 × Ob) :=
  if (gI o_me 19) = (0 : Int32) then
  ((f_X9_isSign o_me (59 : Int32)).bind fun z22 =>
  if z22 = (0 : Int32) then
  (bk_X9_law_64   o_me)
  else
  ((f_X9_next o_me).bind fun z23 =>
  (f_X9_readLaw z23).bind fun z24 =>
  rec_37_0 z24))
  else
  (bk_X9_law_64   o_me)
def lp_X9_law_37   : Nat → Ob → Option (Int32 × Ob) := zit (fun rec a => lb_X9_law_37   rec a)
def f_X9_law (o_me : Ob) : Option (Int32 × Ob) :=
  zlt (sI o_me 0 (0 : Int32)) fun o1 =>
  if (gA o1 3 (2 : Int32).toNatClampNeg) = (6 : Int32) then
  (zlt (sI o1 13 (0 : Int32)) fun o25 =>
  (f_X9_tell o25 (-5 : Int32)).bind fun z26 =>
  some (z26.1, z26.2))
  else
  ((f_X9_beginText o1 (0 : Int32)).bind fun z2 =>
  (f_X9_readLaw z2).bind fun z3 =>
  lp_X9_law_37   zfu z3)
set_option maxHeartbeats 4000000 in
set_option maxRecDepth 100000 in
theorem m_X9_law (l : Launch) (dC : Nat → ClassId) (dI : Nat → Nat → Nat) (sz : Nat) (h_me : Nat) (q_me : Nat → Nat) (k_me : Nat → ClassId) (o_me : Ob) (y : Int32 × Ob) (h : f_X9_law o_me = some y) : CI l yX9_law cX9_law 3 (some .int) ({ frames := 8, cells := 0, slots := 0, locals := 174 } : Room) dC dI sz [.ref h_me] [wX9 h_me q_me k_me o_me] [tX9 k_me] y.1 [wX9 h_me q_me k_me y.2] := by
  refine CC_of (by decide) (Nat.le_of_ble_eq_true rfl) ?_
  intro p e s m below meth c A ls hx hb hml hr hlk hnm hown hts hX hK hP hD hA hl
  have hl : lv_has ls 3 [(0, .ref h_me)] := hl
  have hown : s.vm.findClass RX9 = some m.cls := hown
  have hw : Wd dC dI A s.heap [wX9 h_me q_me k_me o_me] s.heap [] := ⟨hP, hD, va_S.rf⟩
  generalize hQz : (MQ below (QI dC dI (fun r (_ : Unit) => r = y.1) (fun _ => Jn [wX9 h_me q_me k_me y.2]) (fun _ => Jt [tX9 k_me]) A) ([.ref h_me] : List Value).toArray s 0 0 A) = Qz
  clear hP hD hnm
  have lp_145_3 : ∀ (N : Nat), ∀ (v1 : Int32) (v2 : Int32) (o_me : Ob) (H : Heap) (locs : List Loc) (ls : Array Slot), lp_X9_law_145   N (v1, v2, o_me) = some y → Wd dC dI A s.heap [wX9 h_me q_me k_me o_me] H locs → lv_has ls 3 [(0, .ref h_me), (1, .int v1), (2, .int v2)] → W p l e ({ frames := 8, cells := 0, slots := 0, locals := 174 } : Room) s m ([.ref h_me] : List Value).toArray below meth c H locs 0 0 Qz (F0 m 145 ls []) := by
    intro N
    induction N with
    | zero =>
      intro v1 v2 o_me H locs ls h hw hl
      exact absurd (show (none : Option (Int32 × Ob)) = some y from h) (by simp)
    | succ N ih =>
      intro v1 v2 o_me H locs ls h hw hl
      have h : lb_X9_law_145   (lp_X9_law_145   N) v1 v2 o_me = some y := h
      unfold lb_X9_law_145 at h
      refine lv_iload_n hx hb dX9_law_145 rfl (lv_at hl 2 rfl) ?_
      refine lv_aload_n hx hb dX9_law_146 rfl (lv_at hl 0 rfl) ?_
      refine fgX9_23 hx hb hts hown hK hw 0 rfl kw1199 dX9_law_147 ?_
      refine lv_icmp_ge (tgt := 199) hx hb dX9_law_150 (by decide) (fun c => ?_) (fun c => ?_)
      · have h := z_t h c
        refine lv_aload_n hx hb dX9_law_199 rfl (lv_at hl 0 rfl) ?_
        refine fgX9_3 hx hb hts hown hK hw 0 rfl kw1179 dX9_law_200 ?_
        refine lv_iconst (v := 2) hx hb dX9_law_203 (by decide) ?_
        refine lv_dup2_11 hx hb dX9_law_204 rfl rfl ?_
        refine faX9_3 hx hb hK hw 0 rfl rfl (by decide) dX9_law_205 ?_
        refine lv_iconst (v := 1) hx hb dX9_law_206 (by decide) ?_
        refine lv_iadd hx hb dX9_law_207 ?_
        refine fbX9_3 hx hb hK hw 0 rfl rfl (by decide) dX9_law_208 (fun H locs hw => ?_)
        obtain ⟨o8, eo8, h⟩ := z_lt h
        have hw : Wd dC dI A s.heap [wX9 h_me q_me k_me o8] H locs := by rw [eo8]; exact hw
        refine lv_aload_n hx hb dX9_law_209 rfl (lv_at hl 0 rfl) ?_
        refine lv_aload_n hx hb dX9_law_210 rfl (lv_at hl 0 rfl) ?_
        refine fgX9_3 hx hb hts hown hK hw 0 rfl kw1179 dX9_law_211 ?_
        refine lv_iconst (v := 2) hx hb dX9_law_214 (by decide) ?_
        refine faX9_3 hx hb hK hw 0 rfl rfl (by decide) dX9_law_215 ?_
        refine lv_iconst (v := 1) hx hb dX9_law_216 (by decide) ?_
        refine lv_isub hx hb dX9_law_217 ?_
        obtain ⟨z9, ez9, h⟩ := z_bd h
        refine xj_i (xrV (As := [.int ((gA o8 3 (2 : Int32).toNatClampNeg) - (1 : Int32))]) (rest := []) ⟨hx, hb, hml, hown, hts⟩ (m_X9_tell l dC dI _ h_me q_me k_me o8 ((gA o8 3 (2 : Int32).toNatClampNeg) - (1 : Int32)) z9 ez9) kw1374 kw1371 kw1373 kw39 kw120 hd_X9_tell ⟨rfl, rfl⟩ rfl rfl ⟨rfl, rfl⟩ hX hK hw [0] (by decide) rfl rfl rfl rfl rfl hl.1 rfl rfl dX9_law_218) hw hA [0] (by decide) rfl rfl (fun H locs hw => ?_)
        have hw : Wd dC dI A s.heap [wX9 h_me q_me k_me z9.2] H locs := hw
        have hy := Option.some.inj h
        rw [← hQz, ← hy]
        exact xr_i (v := z9.1) hx hb hr rfl hlk hK hw dX9_law_221
      · have h := z_f h c
        refine lv_aload_n hx hb dX9_law_153 rfl (lv_at hl 0 rfl) ?_
        refine fgX9_3 hx hb hts hown hK hw 0 rfl kw1179 dX9_law_154 ?_
        refine lv_iload_n hx hb dX9_law_157 rfl (lv_at hl 1 rfl) ?_
        refine lv_bipush (v := 98) hx hb dX9_law_158 (by decide) ?_
        refine lv_iadd hx hb dX9_law_160 ?_
        refine lv_iconst (v := 2) hx hb dX9_law_161 (by decide) ?_
        refine lv_iload_n hx hb dX9_law_162 rfl (lv_at hl 2 rfl) ?_
        refine lv_imul hx hb dX9_law_163 ?_
        refine lv_iadd hx hb dX9_law_164 ?_
        refine lv_aload_n hx hb dX9_law_165 rfl (lv_at hl 0 rfl) ?_
        refine fgX9_24 hx hb hts hown hK hw 0 rfl kw1200 dX9_law_166 ?_
        refine lv_iload_n hx hb dX9_law_169 rfl (lv_at hl 2 rfl) ?_
        obtain ⟨g10, h⟩ := z_gd h
        refine faX9_24 hx hb hK hw 0 rfl rfl g10 dX9_law_170 ?_
        obtain ⟨g11, h⟩ := z_gd h
        refine fbX9_3 hx hb hK hw 0 rfl rfl g11 dX9_law_171 (fun H locs hw => ?_)
        obtain ⟨o12, eo12, h⟩ := z_lt h
        have hw : Wd dC dI A s.heap [wX9 h_me q_me k_me o12] H locs := by rw [eo12]; exact hw
        refine lv_aload_n hx hb dX9_law_172 rfl (lv_at hl 0 rfl) ?_
        refine fgX9_3 hx hb hts hown hK hw 0 rfl kw1179 dX9_law_173 ?_
        refine lv_iload_n hx hb dX9_law_176 rfl (lv_at hl 1 rfl) ?_
        refine lv_bipush (v := 98) hx hb dX9_law_177 (by decide) ?_
        refine lv_iadd hx hb dX9_law_179 ?_
        refine lv_iconst (v := 2) hx hb dX9_law_180 (by decide) ?_
        refine lv_iload_n hx hb dX9_law_181 rfl (lv_at hl 2 rfl) ?_
        refine lv_imul hx hb dX9_law_182 ?_
        refine lv_iadd hx hb dX9_law_183 ?_
        refine lv_iconst (v := 1) hx hb dX9_law_184 (by decide) ?_
        refine lv_iadd hx hb dX9_law_185 ?_
        refine lv_aload_n hx hb dX9_law_186 rfl (lv_at hl 0 rfl) ?_
        refine fgX9_25 hx hb hts hown hK hw 0 rfl kw1201 dX9_law_187 ?_
        refine lv_iload_n hx hb dX9_law_190 rfl (lv_at hl 2 rfl) ?_
        obtain ⟨g13, h⟩ := z_gd h
        refine faX9_25 hx hb hK hw 0 rfl rfl g13 dX9_law_191 ?_
        obtain ⟨g14, h⟩ := z_gd h
        refine fbX9_3 hx hb hK hw 0 rfl rfl g14 dX9_law_192 (fun H locs hw => ?_)
        obtain ⟨o15, eo15, h⟩ := z_lt h
        have hw : Wd dC dI A s.heap [wX9 h_me q_me k_me o15] H locs := by rw [eo15]; exact hw
        obtain ⟨x16, ex16, h⟩ := z_lt h
        refine lv_iinc (v := x16) (lv' := [(2, .int x16), (0, .ref h_me), (1, .int v1)]) hx hb dX9_law_193 hl (k := 2) rfl ((congrArg (v2 + ·) (show Int32.ofInt 1 = (1 : Int32) from by decide)).trans ex16.symm) (by decide) rfl (fun ls hl => ?_)
        refine lv_goto (tgt := 145) hx hb dX9_law_196 (by decide) ?_
        exact ih v1 x16 o15 _ _ _ h hw (lv_sub hl [1, 2, 0] rfl)
  have lp_110_2 : ∀ (N : Nat), ∀ (v1 : Int32) (v2 : Int32) (o_me : Ob) (H : Heap) (locs : List Loc) (ls : Array Slot), lp_X9_law_110   N (v1, v2, o_me) = some y → Wd dC dI A s.heap [wX9 h_me q_me k_me o_me] H locs → lv_has ls 3 [(0, .ref h_me), (1, .int v1), (2, .int v2)] → W p l e ({ frames := 8, cells := 0, slots := 0, locals := 174 } : Room) s m ([.ref h_me] : List Value).toArray below meth c H locs 0 0 Qz (F0 m 110 ls []) := by
    intro N
    induction N with
    | zero =>
      intro v1 v2 o_me H locs ls h hw hl
      exact absurd (show (none : Option (Int32 × Ob)) = some y from h) (by simp)
    | succ N ih =>
      intro v1 v2 o_me H locs ls h hw hl
      have h : lb_X9_law_110   (lp_X9_law_110   N) v1 v2 o_me = some y := h
      unfold lb_X9_law_110 at h
      refine lv_iload_n hx hb dX9_law_110 rfl (lv_at hl 2 rfl) ?_
      refine lv_bipush (v := 8) hx hb dX9_law_111 (by decide) ?_
      refine lv_aload_n hx hb dX9_law_113 rfl (lv_at hl 0 rfl) ?_
      refine fgX9_21 hx hb hts hown hK hw 0 rfl kw1197 dX9_law_114 ?_
      refine lv_imul hx hb dX9_law_117 ?_
      refine lv_icmp_ge (tgt := 143) hx hb dX9_law_118 (by decide) (fun c => ?_) (fun c => ?_)
      · have h := z_t h c
        refine lv_iconst (v := 0) hx hb dX9_law_143 (by decide) ?_
        refine lv_istore_n (lv' := [(2, .int (0 : Int32)), (0, .ref h_me), (1, .int v1)]) hx hb dX9_law_144 rfl hl (by decide) rfl (fun ls hl => ?_)
        exact lp_145_3  zfu v1 (0 : Int32) o_me _ _ _ h hw (lv_sub hl [1, 2, 0] rfl)
      · have h := z_f h c
        refine lv_aload_n hx hb dX9_law_121 rfl (lv_at hl 0 rfl) ?_
        refine fgX9_3 hx hb hts hown hK hw 0 rfl kw1179 dX9_law_122 ?_
        refine lv_iload_n hx hb dX9_law_125 rfl (lv_at hl 1 rfl) ?_
        refine lv_iconst (v := 2) hx hb dX9_law_126 (by decide) ?_
        refine lv_iadd hx hb dX9_law_127 ?_
        refine lv_iload_n hx hb dX9_law_128 rfl (lv_at hl 2 rfl) ?_
        refine lv_iadd hx hb dX9_law_129 ?_
        refine lv_aload_n hx hb dX9_law_130 rfl (lv_at hl 0 rfl) ?_
        refine fgX9_22 hx hb hts hown hK hw 0 rfl kw1198 dX9_law_131 ?_
        refine lv_iload_n hx hb dX9_law_134 rfl (lv_at hl 2 rfl) ?_
        obtain ⟨g17, h⟩ := z_gd h
        refine faX9_22 hx hb hK hw 0 rfl rfl g17 dX9_law_135 ?_
        obtain ⟨g18, h⟩ := z_gd h
        refine fbX9_3 hx hb hK hw 0 rfl rfl g18 dX9_law_136 (fun H locs hw => ?_)
        obtain ⟨o19, eo19, h⟩ := z_lt h
        have hw : Wd dC dI A s.heap [wX9 h_me q_me k_me o19] H locs := by rw [eo19]; exact hw
        obtain ⟨x20, ex20, h⟩ := z_lt h
        refine lv_iinc (v := x20) (lv' := [(2, .int x20), (0, .ref h_me), (1, .int v1)]) hx hb dX9_law_137 hl (k := 2) rfl ((congrArg (v2 + ·) (show Int32.ofInt 1 = (1 : Int32) from by decide)).trans ex20.symm) (by decide) rfl (fun ls hl => ?_)
        refine lv_goto (tgt := 110) hx hb dX9_law_140 (by decide) ?_
        exact ih v1 x20 o19 _ _ _ h hw (lv_sub hl [1, 2, 0] rfl)
  have bk_64_1 : ∀ (o_me : Ob) (H : Heap) (locs : List Loc) (ls : Array Slot), bk_X9_law_64   o_me = some y → Wd dC dI A s.heap [wX9 h_me q_me k_me o_me] H locs → lv_has ls 3 [(0, .ref h_me)] → W p l e ({ frames := 8, cells := 0, slots := 0, locals := 174 } : Room) s m ([.ref h_me] : List Value).toArray below meth c H locs 0 0 Qz (F0 m 64 ls []) := by
    intro o_me H locs ls h hw hl
    unfold bk_X9_law_64 at h
    refine lv_aload_n hx hb dX9_law_64 rfl (lv_at hl 0 rfl) ?_
    obtain ⟨z4, ez4, h⟩ := z_bd h
    refine xj_v (xrV (As := []) (rest := []) ⟨hx, hb, hml, hown, hts⟩ (m_X9_endText l dC dI _ h_me q_me k_me o_me z4 ez4) kw1615 kw1612 kw1614 kw75 kw120 hd_X9_endText ⟨rfl, rfl⟩ rfl rfl ⟨rfl, rfl⟩ hX hK hw [0] (by decide) rfl rfl rfl rfl rfl hl.1 rfl rfl dX9_law_65) hw hA [0] (by decide) rfl rfl (fun H locs hw => ?_)
    have hw : Wd dC dI A s.heap [wX9 h_me q_me k_me z4] H locs := hw
    refine lv_aload_n hx hb dX9_law_68 rfl (lv_at hl 0 rfl) ?_
    refine fgX9_19 hx hb hts hown hK hw 0 rfl kw1195 dX9_law_69 ?_
    refine lv_if_eq (tgt := 82) hx hb dX9_law_72 (by decide) (fun c => ?_) (fun c => ?_)
    · have h := z_t h c
      refine lv_bipush (v := 84) hx hb dX9_law_82 (by decide) ?_
      refine lv_sipush (v := 900) hx hb dX9_law_84 (by decide) ?_
      refine lv_aload_n hx hb dX9_law_87 rfl (lv_at hl 0 rfl) ?_
      refine fgX9_3 hx hb hts hown hK hw 0 rfl kw1179 dX9_law_88 ?_
      refine lv_iconst (v := 2) hx hb dX9_law_91 (by decide) ?_
      refine faX9_3 hx hb hK hw 0 rfl rfl (by decide) dX9_law_92 ?_
      refine lv_imul hx hb dX9_law_93 ?_
      refine lv_iadd hx hb dX9_law_94 ?_
      obtain ⟨x5, ex5, h⟩ := z_lt h
      refine lv_fi (v := x5) ex5.symm ?_
      refine lv_istore_n (lv' := [(1, .int x5), (0, .ref h_me)]) hx hb dX9_law_95 rfl hl (by decide) rfl (fun ls hl => ?_)
      refine lv_aload_n hx hb dX9_law_96 rfl (lv_at hl 1 rfl) ?_
      refine fgX9_3 hx hb hts hown hK hw 0 rfl kw1179 dX9_law_97 ?_
      refine lv_iload_n hx hb dX9_law_100 rfl (lv_at hl 0 rfl) ?_
      refine lv_iconst (v := 1) hx hb dX9_law_101 (by decide) ?_
      refine lv_iadd hx hb dX9_law_102 ?_
      refine lv_aload_n hx hb dX9_law_103 rfl (lv_at hl 1 rfl) ?_
      refine fgX9_21 hx hb hts hown hK hw 0 rfl kw1197 dX9_law_104 ?_
      obtain ⟨g6, h⟩ := z_gd h
      refine fbX9_3 hx hb hK hw 0 rfl rfl g6 dX9_law_107 (fun H locs hw => ?_)
      obtain ⟨o7, eo7, h⟩ := z_lt h
      have hw : Wd dC dI A s.heap [wX9 h_me q_me k_me o7] H locs := by rw [eo7]; exact hw
      refine lv_iconst (v := 0) hx hb dX9_law_108 (by decide) ?_
      refine lv_istore_n (lv' := [(2, .int (0 : Int32)), (1, .int x5), (0, .ref h_me)]) hx hb dX9_law_109 rfl hl (by decide) rfl (fun ls hl => ?_)
      exact lp_110_2  zfu x5 (0 : Int32) o7 _ _ _ h hw (lv_sub hl [2, 1, 0] rfl)
    · have h := z_f h c
      refine lv_aload_n hx hb dX9_law_75 rfl (lv_at hl 0 rfl) ?_
      refine lv_bipush (v := (-6)) hx hb dX9_law_76 (by decide) ?_
      obtain ⟨z21, ez21, h⟩ := z_bd h
      refine xj_i (xrV (As := [.int (-6 : Int32)]) (rest := []) ⟨hx, hb, hml, hown, hts⟩ (m_X9_tell l dC dI _ h_me q_me k_me z4 (-6 : Int32) z21 ez21) kw1374 kw1371 kw1373 kw39 kw120 hd_X9_tell ⟨rfl, rfl⟩ rfl rfl ⟨rfl, rfl⟩ hX hK hw [0] (by decide) rfl rfl rfl rfl rfl hl.1 rfl rfl dX9_law_78) hw hA [0] (by decide) rfl rfl (fun H locs hw => ?_)
      have hw : Wd dC dI A s.heap [wX9 h_me q_me k_me z21.2] H locs := hw
      have hy := Option.some.inj h
      rw [← hQz, ← hy]
      exact xr_i (v := z21.1) hx hb hr rfl hlk hK hw dX9_law_81
  have lp_37_0 : ∀ (N : Nat), ∀ (o_me : Ob) (H : Heap) (locs : List Loc) (ls : Array Slot), lp_X9_law_37   N o_me = some y → Wd dC dI A s.heap [wX9 h_me q_me k_me o_me] H locs → lv_has ls 3 [(0, .ref h_me)] → W p l e ({ frames := 8, cells := 0, slots := 0, locals := 174 } : Room) s m ([.ref h_me] : List Value).toArray below meth c H locs 0 0 Qz (F0 m 37 ls []) := by
    intro N
    induction N with
    | zero =>
      intro o_me H locs ls h hw hl
      exact absurd (show (none : Option (Int32 × Ob)) = some y from h) (by simp)
    | succ N ih =>
      intro o_me H locs ls h hw hl
      have h : lb_X9_law_37   (lp_X9_law_37   N) o_me = some y := h
      unfold lb_X9_law_37 at h
      refine lv_aload_n hx hb dX9_law_37 rfl (lv_at hl 0 rfl) ?_
      refine fgX9_19 hx hb hts hown hK hw 0 rfl kw1195 dX9_law_38 ?_
      refine lv_if_ne (tgt := 64) hx hb dX9_law_41 (by decide) (fun c => ?_) (fun c => ?_)
      · have h := z_f h c
        exact bk_64_1  o_me _ _ _ h hw (lv_sub hl [0] rfl)
      · have h := z_t h c
        refine lv_aload_n hx hb dX9_law_44 rfl (lv_at hl 0 rfl) ?_
        refine lv_bipush (v := 59) hx hb dX9_law_45 (by decide) ?_
        obtain ⟨z22, ez22, h⟩ := z_bd h
        refine xj_i (xrV (As := [.int (59 : Int32)]) (rest := []) ⟨hx, hb, hml, hown, hts⟩ (m_X9_isSign l dC dI _ h_me q_me k_me o_me (59 : Int32) z22 ez22) kw1551 kw1548 kw1550 kw62 kw120 hd_X9_isSign ⟨rfl, rfl⟩ rfl rfl ⟨rfl, rfl⟩ hX hK hw [0] (by decide) rfl rfl rfl rfl rfl hl.1 rfl rfl dX9_law_47) hw hA [0] (by decide) rfl rfl (fun H locs hw => ?_)
        have hw : Wd dC dI A s.heap [wX9 h_me q_me k_me o_me] H locs := hw
        refine lv_if_eq (tgt := 64) hx hb dX9_law_50 (by decide) (fun c => ?_) (fun c => ?_)
        · have h := z_t h c
          exact bk_64_1  o_me _ _ _ h hw (lv_sub hl [0] rfl)
        · have h := z_f h c
          refine lv_aload_n hx hb dX9_law_53 rfl (lv_at hl 0 rfl) ?_
          obtain ⟨z23, ez23, h⟩ := z_bd h
          refine xj_v (xrV (As := []) (rest := []) ⟨hx, hb, hml, hown, hts⟩ (m_X9_next l dC dI _ h_me q_me k_me o_me z23 ez23) kw1512 kw1509 kw1511 kw55 kw120 hd_X9_next ⟨rfl, rfl⟩ rfl rfl ⟨rfl, rfl⟩ hX hK hw [0] (by decide) rfl rfl rfl rfl rfl hl.1 rfl rfl dX9_law_54) hw hA [0] (by decide) rfl rfl (fun H locs hw => ?_)
          have hw : Wd dC dI A s.heap [wX9 h_me q_me k_me z23] H locs := hw
          refine lv_aload_n hx hb dX9_law_57 rfl (lv_at hl 0 rfl) ?_
          obtain ⟨z24, ez24, h⟩ := z_bd h
          refine xj_v (xrV (As := []) (rest := []) ⟨hx, hb, hml, hown, hts⟩ (m_X9_readLaw l dC dI _ h_me q_me k_me z23 z24 ez24) kw1526 kw1523 kw1525 kw56 kw120 hd_X9_readLaw ⟨rfl, rfl⟩ rfl rfl ⟨rfl, rfl⟩ hX hK hw [0] (by decide) rfl rfl rfl rfl rfl hl.1 rfl rfl dX9_law_58) hw hA [0] (by decide) rfl rfl (fun H locs hw => ?_)
          have hw : Wd dC dI A s.heap [wX9 h_me q_me k_me z24] H locs := hw
          refine lv_goto (tgt := 37) hx hb dX9_law_61 (by decide) ?_
          exact ih z24 _ _ _ h hw (lv_sub hl [0] rfl)
  unfold f_X9_law at h
  refine lv_aload_n hx hb dX9_law_0 rfl (lv_at hl 0 rfl) ?_
  refine lv_iconst (v := 0) hx hb dX9_law_1 (by decide) ?_
  refine fpX9_0 hx hb hts hown hK hw 0 rfl kw1176 dX9_law_2 (fun H locs hw => ?_)
  obtain ⟨o1, eo1, h⟩ := z_lt h
  have hw : Wd dC dI A s.heap [wX9 h_me q_me k_me o1] H locs := by rw [eo1]; exact hw
  refine lv_aload_n hx hb dX9_law_5 rfl (lv_at hl 0 rfl) ?_
  refine fgX9_3 hx hb hts hown hK hw 0 rfl kw1179 dX9_law_6 ?_
  refine lv_iconst (v := 2) hx hb dX9_law_9 (by decide) ?_
  refine faX9_3 hx hb hK hw 0 rfl rfl (by decide) dX9_law_10 ?_
  refine lv_bipush (v := 6) hx hb dX9_law_11 (by decide) ?_
  refine lv_icmp_ne (tgt := 28) hx hb dX9_law_13 (by decide) (fun c => ?_) (fun c => ?_)
  · have h := z_f h c
    refine lv_aload_n hx hb dX9_law_28 rfl (lv_at hl 0 rfl) ?_
    refine lv_iconst (v := 0) hx hb dX9_law_29 (by decide) ?_
    obtain ⟨z2, ez2, h⟩ := z_bd h
    refine xj_v (xrV (As := [.int (0 : Int32)]) (rest := []) ⟨hx, hb, hml, hown, hts⟩ (m_X9_beginText l dC dI _ h_me q_me k_me o1 (0 : Int32) z2 ez2) kw1504 kw1501 kw1503 kw53 kw120 hd_X9_beginText ⟨rfl, rfl⟩ rfl rfl ⟨rfl, rfl⟩ hX hK hw [0] (by decide) rfl rfl rfl rfl rfl hl.1 rfl rfl dX9_law_30) hw hA [0] (by decide) rfl rfl (fun H locs hw => ?_)
    have hw : Wd dC dI A s.heap [wX9 h_me q_me k_me z2] H locs := hw
    refine lv_aload_n hx hb dX9_law_33 rfl (lv_at hl 0 rfl) ?_
    obtain ⟨z3, ez3, h⟩ := z_bd h
    refine xj_v (xrV (As := []) (rest := []) ⟨hx, hb, hml, hown, hts⟩ (m_X9_readLaw l dC dI _ h_me q_me k_me z2 z3 ez3) kw1526 kw1523 kw1525 kw56 kw120 hd_X9_readLaw ⟨rfl, rfl⟩ rfl rfl ⟨rfl, rfl⟩ hX hK hw [0] (by decide) rfl rfl rfl rfl rfl hl.1 rfl rfl dX9_law_34) hw hA [0] (by decide) rfl rfl (fun H locs hw => ?_)
    have hw : Wd dC dI A s.heap [wX9 h_me q_me k_me z3] H locs := hw
    exact lp_37_0  zfu z3 _ _ _ h hw (lv_sub hl [0] rfl)
  · have h := z_t h c
    refine lv_aload_n hx hb dX9_law_16 rfl (lv_at hl 0 rfl) ?_
    refine lv_iconst (v := 0) hx hb dX9_law_17 (by decide) ?_
    refine fpX9_13 hx hb hts hown hK hw 0 rfl kw1189 dX9_law_18 (fun H locs hw => ?_)
    obtain ⟨o25, eo25, h⟩ := z_lt h
    have hw : Wd dC dI A s.heap [wX9 h_me q_me k_me o25] H locs := by rw [eo25]; exact hw
    refine lv_aload_n hx hb dX9_law_21 rfl (lv_at hl 0 rfl) ?_
    refine lv_bipush (v := (-5)) hx hb dX9_law_22 (by decide) ?_
    obtain ⟨z26, ez26, h⟩ := z_bd h
    refine xj_i (xrV (As := [.int (-5 : Int32)]) (rest := []) ⟨hx, hb, hml, hown, hts⟩ (m_X9_tell l dC dI _ h_me q_me k_me o25 (-5 : Int32) z26 ez26) kw1374 kw1371 kw1373 kw39 kw120 hd_X9_tell ⟨rfl, rfl⟩ rfl rfl ⟨rfl, rfl⟩ hX hK hw [0] (by decide) rfl rfl rfl rfl rfl hl.1 rfl rfl dX9_law_24) hw hA [0] (by decide) rfl rfl (fun H locs hw => ?_)
    have hw : Wd dC dI A s.heap [wX9 h_me q_me k_me z26.2] H locs := hw
    have hy := Option.some.inj h
    rw [← hQz, ← hy]
    exact xr_i (v := z26.1) hx hb hr rfl hlk hK hw dX9_law_27

def f_X9_leftBy (o_me : Ob) (p0 : Int32) (p1 : Int32) : Option (Int32) :=
  (f_X9_is p0 p1).bind fun z1 =>
  if z1 = (0 : Int32) then
  (zgd (zin ((64 : Int32) + p1) 5484) <|
  (f_X9_ones ((gA o_me 3 ((64 : Int32) + p1).toNatClampNeg) &&& p0)).bind fun z3 =>
  zgd (zin (p0 ||| ((1 : Int32) <<< (p1 &&& 31))) 128) <|
  some (z3 + (gA o_me 46 (p0 ||| ((1 : Int32) <<< (p1 &&& 31))).toNatClampNeg)))
  else
  (some (100000000 : Int32))
set_option maxHeartbeats 4000000 in
set_option maxRecDepth 100000 in
theorem m_X9_leftBy (l : Launch) (dC : Nat → ClassId) (dI : Nat → Nat → Nat) (sz : Nat) (h_me : Nat) (q_me : Nat → Nat) (k_me : Nat → ClassId) (o_me : Ob) (p0 : Int32) (p1 : Int32) (y : Int32) (h : f_X9_leftBy o_me p0 p1 = some y) : CI l yX9_leftBy cX9_leftBy 3 (some .int) ({ frames := 1, cells := 0, slots := 0, locals := 22 } : Room) dC dI sz [.ref h_me, .int p0, .int p1] [wX9 h_me q_me k_me o_me] [tX9 k_me] y [wX9 h_me q_me k_me o_me] := by
  refine CC_of (by decide) (Nat.le_of_ble_eq_true rfl) ?_
  intro p e s m below meth c A ls hx hb hml hr hlk hnm hown hts hX hK hP hD hA hl
  have hl : lv_has ls 3 [(0, .ref h_me), (1, .int p0), (2, .int p1)] := hl
  have hown : s.vm.findClass RX9 = some m.cls := hown
  have hw : Wd dC dI A s.heap [wX9 h_me q_me k_me o_me] s.heap [] := ⟨hP, hD, va_S.rf⟩
  generalize hQz : (MQ below (QI dC dI (fun r (_ : Unit) => r = y) (fun _ => Jn [wX9 h_me q_me k_me o_me]) (fun _ => Jt [tX9 k_me]) A) ([.ref h_me, .int p0, .int p1] : List Value).toArray s 0 0 A) = Qz
  clear hP hD hnm
  unfold f_X9_leftBy at h
  refine lv_iload_n hx hb dX9_leftBy_0 rfl (lv_at hl 1 rfl) ?_
  refine lv_iload_n hx hb dX9_leftBy_1 rfl (lv_at hl 2 rfl) ?_
  obtain ⟨z1, ez1, h⟩ := z_bd h
  refine xj_i (xrS (As := [.int p0, .int p1]) (rest := []) ⟨hx, hb, hml, hown, hts⟩ (m_X9_is l dC dI _  p0 p1 z1 ez1) kw1704 kw1702 kw1703 kw120 hd_X9_is ⟨rfl, rfl⟩ rfl rfl ⟨rfl, rfl⟩ hX hK hw [] (by decide) rfl rfl hl.1 rfl rfl dX9_leftBy_2) hw hA [] (by decide) rfl rfl (fun H locs hw => ?_)
  refine lv_if_eq (tgt := 14) hx hb dX9_leftBy_5 (by decide) (fun c => ?_) (fun c => ?_)
  · have h := z_t h c
    refine lv_aload_n hx hb dX9_leftBy_14 rfl (lv_at hl 0 rfl) ?_
    refine fgX9_3 hx hb hts hown hK hw 0 rfl kw1179 dX9_leftBy_15 ?_
    refine lv_bipush (v := 64) hx hb dX9_leftBy_18 (by decide) ?_
    refine lv_iload_n hx hb dX9_leftBy_20 rfl (lv_at hl 2 rfl) ?_
    refine lv_iadd hx hb dX9_leftBy_21 ?_
    obtain ⟨g2, h⟩ := z_gd h
    refine faX9_3 hx hb hK hw 0 rfl rfl g2 dX9_leftBy_22 ?_
    refine lv_iload_n hx hb dX9_leftBy_23 rfl (lv_at hl 1 rfl) ?_
    refine lv_iand hx hb dX9_leftBy_24 ?_
    obtain ⟨z3, ez3, h⟩ := z_bd h
    refine xj_i (xrS (As := [.int ((gA o_me 3 ((64 : Int32) + p1).toNatClampNeg) &&& p0)]) (rest := []) ⟨hx, hb, hml, hown, hts⟩ (m_X9_ones l dC dI _  ((gA o_me 3 ((64 : Int32) + p1).toNatClampNeg) &&& p0) z3 ez3) kw1707 kw1705 kw1706 kw120 hd_X9_ones ⟨rfl, rfl⟩ rfl rfl ⟨rfl, rfl⟩ hX hK hw [] (by decide) rfl rfl hl.1 rfl rfl dX9_leftBy_25) hw hA [] (by decide) rfl rfl (fun H locs hw => ?_)
    refine lv_aload_n hx hb dX9_leftBy_28 rfl (lv_at hl 0 rfl) ?_
    refine fgX9_46 hx hb hts hown hK hw 0 rfl kw1222 dX9_leftBy_29 ?_
    refine lv_iload_n hx hb dX9_leftBy_32 rfl (lv_at hl 1 rfl) ?_
    refine lv_iconst (v := 1) hx hb dX9_leftBy_33 (by decide) ?_
    refine lv_iload_n hx hb dX9_leftBy_34 rfl (lv_at hl 2 rfl) ?_
    refine lv_ishl hx hb dX9_leftBy_35 ?_
    refine lv_ior hx hb dX9_leftBy_36 ?_
    obtain ⟨g4, h⟩ := z_gd h
    refine faX9_46 hx hb hK hw 0 rfl rfl g4 dX9_leftBy_37 ?_
    refine lv_iadd hx hb dX9_leftBy_38 ?_
    have hy := Option.some.inj h
    rw [← hQz, ← hy]
    exact xr_i (v := z3 + (gA o_me 46 (p0 ||| ((1 : Int32) <<< (p1 &&& 31))).toNatClampNeg)) hx hb hr rfl hlk hK hw dX9_leftBy_39
  · have h := z_f h c
    refine lv_ldcw (v := 100000000) hx hb hown (hts _ kw1701) dX9_leftBy_8 ?_
    refine lv_goto (tgt := 39) hx hb dX9_leftBy_11 (by decide) ?_
    have hy := Option.some.inj h
    rw [← hQz, ← hy]
    exact xr_i (v := (100000000 : Int32)) hx hb hr rfl hlk hK hw dX9_leftBy_39

def bk_X9_layLeft_82  (rec_22_0 : Int32 × Ob → Option (Ob)) (rec_37_1 : Int32 × Int32 × Ob → Option (Ob)) (v2 : Int32) (v3 : Int32) (s0 : Int32) (s1 : Int32) (o_me : Ob) : Option (Ob) :=
  zgd (zin s1 128) <|
  zlt (tA o_me 46 s1.toNatClampNeg s0) fun o12 =>
  zlt (v3 + (1 : Int32)) fun x13 =>
  rec_37_1 (v2, x13, o12)
def lb_X9_layLeft_37  (rec_22_0 : Int32 × Ob → Option (Ob)) (rec_37_1 : Int32 × Int32 × Ob → Option (Ob)) (v2 : Int32) (v3 : Int32) (o_me : Ob) : Option (Ob) :=
  if (gA o_me 3 (0 : Int32).toNatClampNeg) ≤ v3 then
  (zlt (v2 + (-1 : Int32)) fun x7 =>
  rec_22_0 (x7, o_me))
  else
  ((f_X9_leftBy o_me v2 v3).bind fun z8 =>
  zgd (zin v2 128) <|
  if (gA o_me 46 v2.toNatClampNeg) ≤ z8 then
  (zgd (zin v2 128) <|
  bk_X9_layLeft_82  rec_22_0 rec_37_1 v2 v3 (gA o_me 46 v2.toNatClampNeg) v2 o_me)
  else
  (bk_X9_layLeft_82  rec_22_0 rec_37_1 v2 v3 z8 v2 o_me))
def lp_X9_layLeft_37  (rec_22_0 : Int32 × Ob → Option (Ob)) : Nat → (Int32 × Int32 × Ob) → Option (Ob) := zit (fun rec a => lb_X9_layLeft_37  rec_22_0 rec a.1 a.2.1 a.2.2)
def lb_X9_layLeft_22   (rec_22_0 : Int32 × Ob → Option (Ob)) (v2 : Int32) (o_me : Ob) : Option (Ob) :=
  if v2 < (0 : Int32) then
  (some o_me)
  else
  (zgd (zin v2 128) <|
  zlt (tA o_me 46 v2.toNatClampNeg (100000000 : Int32)) fun o6 =>
  lp_X9_layLeft_37  rec_22_0 zfu (v2, (0 : Int32), o6))
def lp_X9_layLeft_22   : Nat → (Int32 × Ob) → Option (Ob) := zit (fun rec a => lb_X9_layLeft_22   rec a.1 a.2)
def f_X9_layLeft (o_me : Ob) : Option (Ob) :=
  zlt (((1 : Int32) <<< ((gA o_me 3 (0 : Int32).toNatClampNeg) &&& 31)) - (1 : Int32)) fun x1 =>
  zgd (zin x1 128) <|
  zlt (tA o_me 46 x1.toNatClampNeg (0 : Int32)) fun o3 =>
  zlt (x1 - (1 : Int32)) fun x4 =>
  lp_X9_layLeft_22   zfu (x4, o3)
set_option maxHeartbeats 4000000 in
set_option maxRecDepth 100000 in
theorem m_X9_layLeft (l : Launch) (dC : Nat → ClassId) (dI : Nat → Nat → Nat) (sz : Nat) (h_me : Nat) (q_me : Nat → Nat) (k_me : Nat → ClassId) (o_me : Ob) (y : Ob) (h : f_X9_layLeft o_me = some y) : CV l yX9_layLeft cX9_layLeft 5 none ({ frames := 2, cells := 0, slots := 0, locals := 44 } : Room) dC dI sz [.ref h_me] [wX9 h_me q_me k_me o_me] [tX9 k_me] [wX9 h_me q_me k_me y] := by
  refine CC_of (by decide) (Nat.le_of_ble_eq_true rfl) ?_
  intro p e s m below meth c A ls hx hb hml hr hlk hnm hown hts hX hK hP hD hA hl
  have hl : lv_has ls 5 [(0, .ref h_me)] := hl
  have hown : s.vm.findClass RX9 = some m.cls := hown
  have hw : Wd dC dI A s.heap [wX9 h_me q_me k_me o_me] s.heap [] := ⟨hP, hD, va_S.rf⟩
  generalize hQz : (MQ below (QV dC dI (fun (_ : Unit) => True) (fun _ => Jn [wX9 h_me q_me k_me y]) (fun _ => Jt [tX9 k_me]) A) ([.ref h_me] : List Value).toArray s 0 0 A) = Qz
  clear hP hD hnm
  have bk_82_2 : ∀ (rec_22_0 : Int32 × Ob → Option (Ob)) (hrec_22_0 : ∀ (v2 : Int32) (o_me : Ob) (H : Heap) (locs : List Loc) (ls : Array Slot), rec_22_0 (v2, o_me) = some y → Wd dC dI A s.heap [wX9 h_me q_me k_me o_me] H locs → lv_has ls 5 [(0, .ref h_me), (2, .int v2)] → W p l e ({ frames := 2, cells := 0, slots := 0, locals := 44 } : Room) s m ([.ref h_me] : List Value).toArray below meth c H locs 0 0 Qz (F0 m 22 ls [])) (rec_37_1 : Int32 × Int32 × Ob → Option (Ob)) (hrec_37_1 : ∀ (v2 : Int32) (v3 : Int32) (o_me : Ob) (H : Heap) (locs : List Loc) (ls : Array Slot), rec_37_1 (v2, v3, o_me) = some y → Wd dC dI A s.heap [wX9 h_me q_me k_me o_me] H locs → lv_has ls 5 [(0, .ref h_me), (2, .int v2), (3, .int v3)] → W p l e ({ frames := 2, cells := 0, slots := 0, locals := 44 } : Room) s m ([.ref h_me] : List Value).toArray below meth c H locs 0 0 Qz (F0 m 37 ls [])), ∀ (v2 : Int32) (v3 : Int32) (s0 : Int32) (s1 : Int32) (o_me : Ob) (H : Heap) (locs : List Loc) (ls : Array Slot), bk_X9_layLeft_82  rec_22_0 rec_37_1 v2 v3 s0 s1 o_me = some y → Wd dC dI A s.heap [wX9 h_me q_me k_me o_me] H locs → lv_has ls 5 [(0, .ref h_me), (2, .int v2), (3, .int v3)] → W p l e ({ frames := 2, cells := 0, slots := 0, locals := 44 } : Room) s m ([.ref h_me] : List Value).toArray below meth c H locs 0 0 Qz (F0 m 82 ls [.int s0, .int s1, .ref (q_me 46)]) := by
    intro rec_22_0 hrec_22_0 rec_37_1 hrec_37_1
    intro v2 v3 s0 s1 o_me H locs ls h hw hl
    unfold bk_X9_layLeft_82 at h
    obtain ⟨g11, h⟩ := z_gd h
    refine fbX9_46 hx hb hK hw 0 rfl rfl g11 dX9_layLeft_82 (fun H locs hw => ?_)
    obtain ⟨o12, eo12, h⟩ := z_lt h
    have hw : Wd dC dI A s.heap [wX9 h_me q_me k_me o12] H locs := by rw [eo12]; exact hw
    obtain ⟨x13, ex13, h⟩ := z_lt h
    refine lv_iinc (v := x13) (lv' := [(3, .int x13), (0, .ref h_me), (2, .int v2)]) hx hb dX9_layLeft_83 hl (k := 2) rfl ((congrArg (v3 + ·) (show Int32.ofInt 1 = (1 : Int32) from by decide)).trans ex13.symm) (by decide) rfl (fun ls hl => ?_)
    refine lv_goto (tgt := 37) hx hb dX9_layLeft_86 (by decide) ?_
    exact hrec_37_1 v2 x13 o12 _ _ _ h hw (lv_sub hl [1, 2, 0] rfl)
  have lp_37_1 : ∀ (rec_22_0 : Int32 × Ob → Option (Ob)) (hrec_22_0 : ∀ (v2 : Int32) (o_me : Ob) (H : Heap) (locs : List Loc) (ls : Array Slot), rec_22_0 (v2, o_me) = some y → Wd dC dI A s.heap [wX9 h_me q_me k_me o_me] H locs → lv_has ls 5 [(0, .ref h_me), (2, .int v2)] → W p l e ({ frames := 2, cells := 0, slots := 0, locals := 44 } : Room) s m ([.ref h_me] : List Value).toArray below meth c H locs 0 0 Qz (F0 m 22 ls [])) (N : Nat), ∀ (v2 : Int32) (v3 : Int32) (o_me : Ob) (H : Heap) (locs : List Loc) (ls : Array Slot), lp_X9_layLeft_37  rec_22_0 N (v2, v3, o_me) = some y → Wd dC dI A s.heap [wX9 h_me q_me k_me o_me] H locs → lv_has ls 5 [(0, .ref h_me), (2, .int v2), (3, .int v3)] → W p l e ({ frames := 2, cells := 0, slots := 0, locals := 44 } : Room) s m ([.ref h_me] : List Value).toArray below meth c H locs 0 0 Qz (F0 m 37 ls []) := by
    intro rec_22_0 hrec_22_0
    intro N
    induction N with
    | zero =>
      intro v2 v3 o_me H locs ls h hw hl
      exact absurd (show (none : Option (Ob)) = some y from h) (by simp)
    | succ N ih =>
      intro v2 v3 o_me H locs ls h hw hl
      have h : lb_X9_layLeft_37  rec_22_0 (lp_X9_layLeft_37  rec_22_0 N) v2 v3 o_me = some y := h
      unfold lb_X9_layLeft_37 at h
      refine lv_iload_n hx hb dX9_layLeft_37 rfl (lv_at hl 2 rfl) ?_
      refine lv_aload_n hx hb dX9_layLeft_38 rfl (lv_at hl 0 rfl) ?_
      refine fgX9_3 hx hb hts hown hK hw 0 rfl kw1179 dX9_layLeft_39 ?_
      refine lv_iconst (v := 0) hx hb dX9_layLeft_42 (by decide) ?_
      refine faX9_3 hx hb hK hw 0 rfl rfl (by decide) dX9_layLeft_43 ?_
      refine lv_icmp_ge (tgt := 89) hx hb dX9_layLeft_44 (by decide) (fun c => ?_) (fun c => ?_)
      · have h := z_t h c
        obtain ⟨x7, ex7, h⟩ := z_lt h
        refine lv_iinc (v := x7) (lv' := [(2, .int x7), (0, .ref h_me), (3, .int v3)]) hx hb dX9_layLeft_89 hl (k := 1) rfl ((congrArg (v2 + ·) (show Int32.ofInt (-1) = (-1 : Int32) from by decide)).trans ex7.symm) (by decide) rfl (fun ls hl => ?_)
        refine lv_goto (tgt := 22) hx hb dX9_layLeft_92 (by decide) ?_
        exact hrec_22_0 x7 o_me _ _ _ h hw (lv_sub hl [1, 0] rfl)
      · have h := z_f h c
        refine lv_aload_n hx hb dX9_layLeft_47 rfl (lv_at hl 0 rfl) ?_
        refine lv_iload_n hx hb dX9_layLeft_48 rfl (lv_at hl 1 rfl) ?_
        refine lv_iload_n hx hb dX9_layLeft_49 rfl (lv_at hl 2 rfl) ?_
        obtain ⟨z8, ez8, h⟩ := z_bd h
        refine xj_i (xrV (As := [.int v2, .int v3]) (rest := []) ⟨hx, hb, hml, hown, hts⟩ (m_X9_leftBy l dC dI _ h_me q_me k_me o_me v2 v3 z8 ez8) kw1743 kw1740 kw1742 kw94 kw120 hd_X9_leftBy ⟨rfl, rfl⟩ rfl rfl ⟨rfl, rfl⟩ hX hK hw [0] (by decide) rfl rfl rfl rfl rfl hl.1 rfl rfl dX9_layLeft_50) hw hA [0] (by decide) rfl rfl (fun H locs hw => ?_)
        have hw : Wd dC dI A s.heap [wX9 h_me q_me k_me o_me] H locs := hw
        refine lv_istore (lv' := [(4, .int z8), (0, .ref h_me), (2, .int v2), (3, .int v3)]) hx hb dX9_layLeft_53 hl (by decide) rfl (fun ls hl => ?_)
        refine lv_aload_n hx hb dX9_layLeft_55 rfl (lv_at hl 1 rfl) ?_
        refine fgX9_46 hx hb hts hown hK hw 0 rfl kw1222 dX9_layLeft_56 ?_
        refine lv_iload_n hx hb dX9_layLeft_59 rfl (lv_at hl 2 rfl) ?_
        refine lv_iload hx hb dX9_layLeft_60 (lv_at hl 0 rfl) ?_
        refine lv_aload_n hx hb dX9_layLeft_62 rfl (lv_at hl 1 rfl) ?_
        refine fgX9_46 hx hb hts hown hK hw 0 rfl kw1222 dX9_layLeft_63 ?_
        refine lv_iload_n hx hb dX9_layLeft_66 rfl (lv_at hl 2 rfl) ?_
        obtain ⟨g9, h⟩ := z_gd h
        refine faX9_46 hx hb hK hw 0 rfl rfl g9 dX9_layLeft_67 ?_
        refine lv_icmp_ge (tgt := 76) hx hb dX9_layLeft_68 (by decide) (fun c => ?_) (fun c => ?_)
        · have h := z_t h c
          refine lv_aload_n hx hb dX9_layLeft_76 rfl (lv_at hl 1 rfl) ?_
          refine fgX9_46 hx hb hts hown hK hw 0 rfl kw1222 dX9_layLeft_77 ?_
          refine lv_iload_n hx hb dX9_layLeft_80 rfl (lv_at hl 2 rfl) ?_
          obtain ⟨g10, h⟩ := z_gd h
          refine faX9_46 hx hb hK hw 0 rfl rfl g10 dX9_layLeft_81 ?_
          exact bk_82_2 rec_22_0 hrec_22_0 (lp_X9_layLeft_37  rec_22_0 N) ih v2 v3 (gA o_me 46 v2.toNatClampNeg) v2 o_me _ _ _ h hw (lv_sub hl [1, 2, 3] rfl)
        · have h := z_f h c
          refine lv_iload hx hb dX9_layLeft_71 (lv_at hl 0 rfl) ?_
          refine lv_goto (tgt := 82) hx hb dX9_layLeft_73 (by decide) ?_
          exact bk_82_2 rec_22_0 hrec_22_0 (lp_X9_layLeft_37  rec_22_0 N) ih v2 v3 z8 v2 o_me _ _ _ h hw (lv_sub hl [1, 2, 3] rfl)
  have lp_22_0 : ∀ (N : Nat), ∀ (v2 : Int32) (o_me : Ob) (H : Heap) (locs : List Loc) (ls : Array Slot), lp_X9_layLeft_22   N (v2, o_me) = some y → Wd dC dI A s.heap [wX9 h_me q_me k_me o_me] H locs → lv_has ls 5 [(0, .ref h_me), (2, .int v2)] → W p l e ({ frames := 2, cells := 0, slots := 0, locals := 44 } : Room) s m ([.ref h_me] : List Value).toArray below meth c H locs 0 0 Qz (F0 m 22 ls []) := by
    intro N
    induction N with
    | zero =>
      intro v2 o_me H locs ls h hw hl
      exact absurd (show (none : Option (Ob)) = some y from h) (by simp)
    | succ N ih =>
      intro v2 o_me H locs ls h hw hl
      have h : lb_X9_layLeft_22   (lp_X9_layLeft_22   N) v2 o_me = some y := h
      unfold lb_X9_layLeft_22 at h
      refine lv_iload_n hx hb dX9_layLeft_22 rfl (lv_at hl 1 rfl) ?_
      refine lv_if_lt (tgt := 95) hx hb dX9_layLeft_23 (by decide) (fun c => ?_) (fun c => ?_)
      · have h := z_t h c
        have hy := Option.some.inj h
        rw [← hQz, ← hy]
        exact xr_v hx hb hr hlk hK hw dX9_layLeft_95
      · have h := z_f h c
        refine lv_aload_n hx hb dX9_layLeft_26 rfl (lv_at hl 0 rfl) ?_
        refine fgX9_46 hx hb hts hown hK hw 0 rfl kw1222 dX9_layLeft_27 ?_
        refine lv_iload_n hx hb dX9_layLeft_30 rfl (lv_at hl 1 rfl) ?_
        refine lv_ldcw (v := 100000000) hx hb hown (hts _ kw1701) dX9_layLeft_31 ?_
        obtain ⟨g5, h⟩ := z_gd h
        refine fbX9_46 hx hb hK hw 0 rfl rfl g5 dX9_layLeft_34 (fun H locs hw => ?_)
        obtain ⟨o6, eo6, h⟩ := z_lt h
        have hw : Wd dC dI A s.heap [wX9 h_me q_me k_me o6] H locs := by rw [eo6]; exact hw
        refine lv_iconst (v := 0) hx hb dX9_layLeft_35 (by decide) ?_
        refine lv_istore_n (lv' := [(3, .int (0 : Int32)), (0, .ref h_me), (2, .int v2)]) hx hb dX9_layLeft_36 rfl hl (by decide) rfl (fun ls hl => ?_)
        exact lp_37_1 (lp_X9_layLeft_22   N) ih zfu v2 (0 : Int32) o6 _ _ _ h hw (lv_sub hl [1, 2, 0] rfl)
  unfold f_X9_layLeft at h
  refine lv_iconst (v := 1) hx hb dX9_layLeft_0 (by decide) ?_
  refine lv_aload_n hx hb dX9_layLeft_1 rfl (lv_at hl 0 rfl) ?_
  refine fgX9_3 hx hb hts hown hK hw 0 rfl kw1179 dX9_layLeft_2 ?_
  refine lv_iconst (v := 0) hx hb dX9_layLeft_5 (by decide) ?_
  refine faX9_3 hx hb hK hw 0 rfl rfl (by decide) dX9_layLeft_6 ?_
  refine lv_ishl hx hb dX9_layLeft_7 ?_
  refine lv_iconst (v := 1) hx hb dX9_layLeft_8 (by decide) ?_
  refine lv_isub hx hb dX9_layLeft_9 ?_
  obtain ⟨x1, ex1, h⟩ := z_lt h
  refine lv_fi (v := x1) ex1.symm ?_
  refine lv_istore_n (lv' := [(1, .int x1), (0, .ref h_me)]) hx hb dX9_layLeft_10 rfl hl (by decide) rfl (fun ls hl => ?_)
  refine lv_aload_n hx hb dX9_layLeft_11 rfl (lv_at hl 1 rfl) ?_
  refine fgX9_46 hx hb hts hown hK hw 0 rfl kw1222 dX9_layLeft_12 ?_
  refine lv_iload_n hx hb dX9_layLeft_15 rfl (lv_at hl 0 rfl) ?_
  refine lv_iconst (v := 0) hx hb dX9_layLeft_16 (by decide) ?_
  obtain ⟨g2, h⟩ := z_gd h
  refine fbX9_46 hx hb hK hw 0 rfl rfl g2 dX9_layLeft_17 (fun H locs hw => ?_)
  obtain ⟨o3, eo3, h⟩ := z_lt h
  have hw : Wd dC dI A s.heap [wX9 h_me q_me k_me o3] H locs := by rw [eo3]; exact hw
  refine lv_iload_n hx hb dX9_layLeft_18 rfl (lv_at hl 0 rfl) ?_
  refine lv_iconst (v := 1) hx hb dX9_layLeft_19 (by decide) ?_
  refine lv_isub hx hb dX9_layLeft_20 ?_
  obtain ⟨x4, ex4, h⟩ := z_lt h
  refine lv_fi (v := x4) ex4.symm ?_
  refine lv_istore_n (lv' := [(2, .int x4), (1, .int x1), (0, .ref h_me)]) hx hb dX9_layLeft_21 rfl hl (by decide) rfl (fun ls hl => ?_)
  exact lp_22_0  zfu x4 o3 _ _ _ h hw (lv_sub hl [2, 0] rfl)

def bk_X9_look_172  (rec_36_0 : Int32 × Int32 × Int32 × Int32 × Int32 × Ob → Option (Int32 × Ob)) (v1 : Int32) (v2 : Int32) (v4 : Int32) (v5 : Int32) (s0 : Int32) (o_me : Ob) : Option (Int32 × Ob) :=
  zlt (v5 + (1 : Int32)) fun x4 =>
  rec_36_0 (v1, v2, s0, v4, x4, o_me)
def bk_X9_look_158  (rec_36_0 : Int32 × Int32 × Int32 × Int32 × Int32 × Ob → Option (Int32 × Ob)) (v1 : Int32) (v2 : Int32) (v3 : Int32) (v5 : Int32) (v6 : Int32) (s0 : Int32) (o_me : Ob) : Option (Int32 × Ob) :=
  if v3 ≤ v6 then
  (bk_X9_look_172  rec_36_0 v1 v2 s0 v5 v3 o_me)
  else
  (bk_X9_look_172  rec_36_0 v1 v2 s0 v5 v6 o_me)
def bk_X9_look_139  (rec_36_0 : Int32 × Int32 × Int32 × Int32 × Int32 × Ob → Option (Int32 × Ob)) (rec_72_2 : Int32 × Int32 × Int32 × Int32 × Int32 × Int32 × Int32 × Ob → Option (Int32 × Ob)) (v1 : Int32) (v2 : Int32) (v3 : Int32) (v4 : Int32) (v5 : Int32) (v6 : Int32) (v7 : Int32) (o_me : Ob) : Option (Int32 × Ob) :=
  zlt (v7 + (1 : Int32)) fun x6 =>
  rec_72_2 (v1, v2, v3, v4, v5, v6, x6, o_me)
def bk_X9_look_137  (rec_36_0 : Int32 × Int32 × Int32 × Int32 × Int32 × Ob → Option (Int32 × Ob)) (rec_72_2 : Int32 × Int32 × Int32 × Int32 × Int32 × Int32 × Int32 × Ob → Option (Int32 × Ob)) (v1 : Int32) (v2 : Int32) (v3 : Int32) (v4 : Int32) (v5 : Int32) (v7 : Int32) (s0 : Int32) (o_me : Ob) : Option (Int32 × Ob) :=
  bk_X9_look_139  rec_36_0 rec_72_2 v1 v2 v3 v4 v5 s0 v7 o_me
def lb_X9_look_72  (rec_36_0 : Int32 × Int32 × Int32 × Int32 × Int32 × Ob → Option (Int32 × Ob)) (rec_72_2 : Int32 × Int32 × Int32 × Int32 × Int32 × Int32 × Int32 × Ob → Option (Int32 × Ob)) (v1 : Int32) (v2 : Int32) (v3 : Int32) (v4 : Int32) (v5 : Int32) (v6 : Int32) (v7 : Int32) (o_me : Ob) : Option (Int32 × Ob) :=
  if (gA o_me 3 (0 : Int32).toNatClampNeg) ≤ v7 then
  (if v3 ≤ v6 then
  (bk_X9_look_158  rec_36_0 v1 v2 v3 v5 v6 v4 o_me)
  else
  (bk_X9_look_158  rec_36_0 v1 v2 v3 v5 v6 v5 o_me))
  else
  ((f_X9_is v2 v7).bind fun z5 =>
  if z5 = (0 : Int32) then
  (bk_X9_look_139  rec_36_0 rec_72_2 v1 v2 v3 v4 v5 v6 v7 o_me)
  else
  ((f_X9_turnsOf o_me v7 v5).bind fun z7 =>
  zgd (zin z7.1 10) <|
  zgd (zin z7.1 10) <|
  zlt (tA z7.2 45 z7.1.toNatClampNeg ((gA z7.2 45 z7.1.toNatClampNeg) + (1 : Int32))) fun o10 =>
  zgd (zin z7.1 10) <|
  if (gA o10 45 z7.1.toNatClampNeg) ≤ v6 then
  (bk_X9_look_137  rec_36_0 rec_72_2 v1 v2 v3 v4 v5 v7 v6 o10)
  else
  (zgd (zin z7.1 10) <|
  bk_X9_look_137  rec_36_0 rec_72_2 v1 v2 v3 v4 v5 v7 (gA o10 45 z7.1.toNatClampNeg) o10)))
def lp_X9_look_72  (rec_36_0 : Int32 × Int32 × Int32 × Int32 × Int32 × Ob → Option (Int32 × Ob)) : Nat → (Int32 × Int32 × Int32 × Int32 × Int32 × Int32 × Int32 × Ob) → Option (Int32 × Ob) := zit (fun rec a => lb_X9_look_72  rec_36_0 rec a.1 a.2.1 a.2.2.1 a.2.2.2.1 a.2.2.2.2.1 a.2.2.2.2.2.1 a.2.2.2.2.2.2.1 a.2.2.2.2.2.2.2)
def lb_X9_look_45  (rec_36_0 : Int32 × Int32 × Int32 × Int32 × Int32 × Ob → Option (Int32 × Ob)) (rec_45_1 : Int32 × Int32 × Int32 × Int32 × Int32 × Int32 × Ob → Option (Int32 × Ob)) (v1 : Int32) (v2 : Int32) (v3 : Int32) (v4 : Int32) (v5 : Int32) (v6 : Int32) (o_me : Ob) : Option (Int32 × Ob) :=
  if (10 : Int32) ≤ v6 then
  (lp_X9_look_72  rec_36_0 zfu (v1, v2, v3, v4, v5, (0 : Int32), (0 : Int32), o_me))
  else
  (zgd (zin v6 10) <|
  zlt (tA o_me 45 v6.toNatClampNeg (0 : Int32)) fun o14 =>
  zlt (v6 + (1 : Int32)) fun x15 =>
  rec_45_1 (v1, v2, v3, v4, v5, x15, o14))
def lp_X9_look_45  (rec_36_0 : Int32 × Int32 × Int32 × Int32 × Int32 × Ob → Option (Int32 × Ob)) : Nat → (Int32 × Int32 × Int32 × Int32 × Int32 × Int32 × Ob) → Option (Int32 × Ob) := zit (fun rec a => lb_X9_look_45  rec_36_0 rec a.1 a.2.1 a.2.2.1 a.2.2.2.1 a.2.2.2.2.1 a.2.2.2.2.2.1 a.2.2.2.2.2.2)
def lb_X9_look_36   (rec_36_0 : Int32 × Int32 × Int32 × Int32 × Int32 × Ob → Option (Int32 × Ob)) (v1 : Int32) (v2 : Int32) (v3 : Int32) (v4 : Int32) (v5 : Int32) (o_me : Ob) : Option (Int32 × Ob) :=
  if (4 : Int32) ≤ v5 then
  (if v1 = (0 : Int32) then
  (some (v4, o_me))
  else
  (some (v3, o_me)))
  else
  (lp_X9_look_45  rec_36_0 zfu (v1, v2, v3, v4, v5, (0 : Int32), o_me))
def lp_X9_look_36   : Nat → (Int32 × Int32 × Int32 × Int32 × Int32 × Ob) → Option (Int32 × Ob) := zit (fun rec a => lb_X9_look_36   rec a.1 a.2.1 a.2.2.1 a.2.2.2.1 a.2.2.2.2.1 a.2.2.2.2.2)
def f_X9_look (o_me : Ob) (p0 : Int32) : Option (Int32 × Ob) :=
  zlt (sI o_me 0 (0 : Int32)) fun o1 =>
  (f_X9_thatCanBe o1).bind fun z2 =>
  (f_X9_in p0.toInt64 (0 : Int64) (1 : Int64)).bind fun z3 =>
  if z3 = (0 : Int32) then
  (some ((-1 : Int32), z2.2))
  else
  (if z2.1 = (0 : Int32) then
  (some ((-1 : Int32), z2.2))
  else
  (lp_X9_look_36   zfu (p0, z2.1, (100000000 : Int32), (-1 : Int32), (0 : Int32), z2.2)))
set_option maxHeartbeats 4000000 in
set_option maxRecDepth 100000 in
theorem m_X9_look (l : Launch) (dC : Nat → ClassId) (dI : Nat → Nat → Nat) (sz : Nat) (h_me : Nat) (q_me : Nat → Nat) (k_me : Nat → ClassId) (o_me : Ob) (p0 : Int32) (y : Int32 × Ob) (h : f_X9_look o_me p0 = some y) : CI l yX9_look cX9_look 9 (some .int) ({ frames := 7, cells := 0, slots := 0, locals := 169 } : Room) dC dI sz [.ref h_me, .int p0] [wX9 h_me q_me k_me o_me] [tX9 k_me] y.1 [wX9 h_me q_me k_me y.2] := by
  refine CC_of (by decide) (Nat.le_of_ble_eq_true rfl) ?_
  intro p e s m below meth c A ls hx hb hml hr hlk hnm hown hts hX hK hP hD hA hl
  have hl : lv_has ls 9 [(0, .ref h_me), (1, .int p0)] := hl
  have hown : s.vm.findClass RX9 = some m.cls := hown
  have hw : Wd dC dI A s.heap [wX9 h_me q_me k_me o_me] s.heap [] := ⟨hP, hD, va_S.rf⟩
  generalize hQz : (MQ below (QI dC dI (fun r (_ : Unit) => r = y.1) (fun _ => Jn [wX9 h_me q_me k_me y.2]) (fun _ => Jt [tX9 k_me]) A) ([.ref h_me, .int p0] : List Value).toArray s 0 0 A) = Qz
  clear hP hD hnm
  have bk_172_4 : ∀ (rec_36_0 : Int32 × Int32 × Int32 × Int32 × Int32 × Ob → Option (Int32 × Ob)) (hrec_36_0 : ∀ (v1 : Int32) (v2 : Int32) (v3 : Int32) (v4 : Int32) (v5 : Int32) (o_me : Ob) (H : Heap) (locs : List Loc) (ls : Array Slot), rec_36_0 (v1, v2, v3, v4, v5, o_me) = some y → Wd dC dI A s.heap [wX9 h_me q_me k_me o_me] H locs → lv_has ls 9 [(0, .ref h_me), (1, .int v1), (2, .int v2), (3, .int v3), (4, .int v4), (5, .int v5)] → W p l e ({ frames := 7, cells := 0, slots := 0, locals := 169 } : Room) s m ([.ref h_me, .int p0] : List Value).toArray below meth c H locs 0 0 Qz (F0 m 36 ls [])), ∀ (v1 : Int32) (v2 : Int32) (v4 : Int32) (v5 : Int32) (s0 : Int32) (o_me : Ob) (H : Heap) (locs : List Loc) (ls : Array Slot), bk_X9_look_172  rec_36_0 v1 v2 v4 v5 s0 o_me = some y → Wd dC dI A s.heap [wX9 h_me q_me k_me o_me] H locs → lv_has ls 9 [(0, .ref h_me), (1, .int v1), (2, .int v2), (4, .int v4), (5, .int v5)] → W p l e ({ frames := 7, cells := 0, slots := 0, locals := 169 } : Room) s m ([.ref h_me, .int p0] : List Value).toArray below meth c H locs 0 0 Qz (F0 m 172 ls [.int s0]) := by
    intro rec_36_0 hrec_36_0
    intro v1 v2 v4 v5 s0 o_me H locs ls h hw hl
    unfold bk_X9_look_172 at h
    refine lv_istore_n (lv' := [(3, .int s0), (0, .ref h_me), (1, .int v1), (2, .int v2), (4, .int v4), (5, .int v5)]) hx hb dX9_look_172 rfl hl (by decide) rfl (fun ls hl => ?_)
    obtain ⟨x4, ex4, h⟩ := z_lt h
    refine lv_iinc (v := x4) (lv' := [(5, .int x4), (3, .int s0), (0, .ref h_me), (1, .int v1), (2, .int v2), (4, .int v4)]) hx hb dX9_look_173 hl (k := 5) rfl ((congrArg (v5 + ·) (show Int32.ofInt 1 = (1 : Int32) from by decide)).trans ex4.symm) (by decide) rfl (fun ls hl => ?_)
    refine lv_goto (tgt := 36) hx hb dX9_look_176 (by decide) ?_
    exact hrec_36_0 v1 v2 s0 v4 x4 o_me _ _ _ h hw (lv_sub hl [2, 3, 4, 1, 5, 0] rfl)
  have bk_158_3 : ∀ (rec_36_0 : Int32 × Int32 × Int32 × Int32 × Int32 × Ob → Option (Int32 × Ob)) (hrec_36_0 : ∀ (v1 : Int32) (v2 : Int32) (v3 : Int32) (v4 : Int32) (v5 : Int32) (o_me : Ob) (H : Heap) (locs : List Loc) (ls : Array Slot), rec_36_0 (v1, v2, v3, v4, v5, o_me) = some y → Wd dC dI A s.heap [wX9 h_me q_me k_me o_me] H locs → lv_has ls 9 [(0, .ref h_me), (1, .int v1), (2, .int v2), (3, .int v3), (4, .int v4), (5, .int v5)] → W p l e ({ frames := 7, cells := 0, slots := 0, locals := 169 } : Room) s m ([.ref h_me, .int p0] : List Value).toArray below meth c H locs 0 0 Qz (F0 m 36 ls [])), ∀ (v1 : Int32) (v2 : Int32) (v3 : Int32) (v5 : Int32) (v6 : Int32) (s0 : Int32) (o_me : Ob) (H : Heap) (locs : List Loc) (ls : Array Slot), bk_X9_look_158  rec_36_0 v1 v2 v3 v5 v6 s0 o_me = some y → Wd dC dI A s.heap [wX9 h_me q_me k_me o_me] H locs → lv_has ls 9 [(0, .ref h_me), (1, .int v1), (2, .int v2), (3, .int v3), (5, .int v5), (6, .int v6)] → W p l e ({ frames := 7, cells := 0, slots := 0, locals := 169 } : Room) s m ([.ref h_me, .int p0] : List Value).toArray below meth c H locs 0 0 Qz (F0 m 158 ls [.int s0]) := by
    intro rec_36_0 hrec_36_0
    intro v1 v2 v3 v5 v6 s0 o_me H locs ls h hw hl
    unfold bk_X9_look_158 at h
    refine lv_istore (lv' := [(4, .int s0), (0, .ref h_me), (1, .int v1), (2, .int v2), (3, .int v3), (5, .int v5), (6, .int v6)]) hx hb dX9_look_158 hl (by decide) rfl (fun ls hl => ?_)
    refine lv_iload hx hb dX9_look_160 (lv_at hl 6 rfl) ?_
    refine lv_iload_n hx hb dX9_look_162 rfl (lv_at hl 4 rfl) ?_
    refine lv_icmp_ge (tgt := 171) hx hb dX9_look_163 (by decide) (fun c => ?_) (fun c => ?_)
    · have h := z_t h c
      refine lv_iload_n hx hb dX9_look_171 rfl (lv_at hl 4 rfl) ?_
      exact bk_172_4 rec_36_0 hrec_36_0 v1 v2 s0 v5 v3 o_me _ _ _ h hw (lv_sub hl [1, 2, 3, 0, 5] rfl)
    · have h := z_f h c
      refine lv_iload hx hb dX9_look_166 (lv_at hl 6 rfl) ?_
      refine lv_goto (tgt := 172) hx hb dX9_look_168 (by decide) ?_
      exact bk_172_4 rec_36_0 hrec_36_0 v1 v2 s0 v5 v6 o_me _ _ _ h hw (lv_sub hl [1, 2, 3, 0, 5] rfl)
  have bk_139_5 : ∀ (rec_36_0 : Int32 × Int32 × Int32 × Int32 × Int32 × Ob → Option (Int32 × Ob)) (hrec_36_0 : ∀ (v1 : Int32) (v2 : Int32) (v3 : Int32) (v4 : Int32) (v5 : Int32) (o_me : Ob) (H : Heap) (locs : List Loc) (ls : Array Slot), rec_36_0 (v1, v2, v3, v4, v5, o_me) = some y → Wd dC dI A s.heap [wX9 h_me q_me k_me o_me] H locs → lv_has ls 9 [(0, .ref h_me), (1, .int v1), (2, .int v2), (3, .int v3), (4, .int v4), (5, .int v5)] → W p l e ({ frames := 7, cells := 0, slots := 0, locals := 169 } : Room) s m ([.ref h_me, .int p0] : List Value).toArray below meth c H locs 0 0 Qz (F0 m 36 ls [])) (rec_72_2 : Int32 × Int32 × Int32 × Int32 × Int32 × Int32 × Int32 × Ob → Option (Int32 × Ob)) (hrec_72_2 : ∀ (v1 : Int32) (v2 : Int32) (v3 : Int32) (v4 : Int32) (v5 : Int32) (v6 : Int32) (v7 : Int32) (o_me : Ob) (H : Heap) (locs : List Loc) (ls : Array Slot), rec_72_2 (v1, v2, v3, v4, v5, v6, v7, o_me) = some y → Wd dC dI A s.heap [wX9 h_me q_me k_me o_me] H locs → lv_has ls 9 [(0, .ref h_me), (1, .int v1), (2, .int v2), (3, .int v3), (4, .int v4), (5, .int v5), (6, .int v6), (7, .int v7)] → W p l e ({ frames := 7, cells := 0, slots := 0, locals := 169 } : Room) s m ([.ref h_me, .int p0] : List Value).toArray below meth c H locs 0 0 Qz (F0 m 72 ls [])), ∀ (v1 : Int32) (v2 : Int32) (v3 : Int32) (v4 : Int32) (v5 : Int32) (v6 : Int32) (v7 : Int32) (o_me : Ob) (H : Heap) (locs : List Loc) (ls : Array Slot), bk_X9_look_139  rec_36_0 rec_72_2 v1 v2 v3 v4 v5 v6 v7 o_me = some y → Wd dC dI A s.heap [wX9 h_me q_me k_me o_me] H locs → lv_has ls 9 [(0, .ref h_me), (1, .int v1), (2, .int v2), (3, .int v3), (4, .int v4), (5, .int v5), (6, .int v6), (7, .int v7)] → W p l e ({ frames := 7, cells := 0, slots := 0, locals := 169 } : Room) s m ([.ref h_me, .int p0] : List Value).toArray below meth c H locs 0 0 Qz (F0 m 139 ls []) := by
    intro rec_36_0 hrec_36_0 rec_72_2 hrec_72_2
    intro v1 v2 v3 v4 v5 v6 v7 o_me H locs ls h hw hl
    unfold bk_X9_look_139 at h
    obtain ⟨x6, ex6, h⟩ := z_lt h
    refine lv_iinc (v := x6) (lv' := [(7, .int x6), (0, .ref h_me), (1, .int v1), (2, .int v2), (3, .int v3), (4, .int v4), (5, .int v5), (6, .int v6)]) hx hb dX9_look_139 hl (k := 7) rfl ((congrArg (v7 + ·) (show Int32.ofInt 1 = (1 : Int32) from by decide)).trans ex6.symm) (by decide) rfl (fun ls hl => ?_)
    refine lv_goto (tgt := 72) hx hb dX9_look_142 (by decide) ?_
    exact hrec_72_2 v1 v2 v3 v4 v5 v6 x6 o_me _ _ _ h hw (lv_sub hl [1, 2, 3, 4, 5, 6, 7, 0] rfl)
  have bk_137_6 : ∀ (rec_36_0 : Int32 × Int32 × Int32 × Int32 × Int32 × Ob → Option (Int32 × Ob)) (hrec_36_0 : ∀ (v1 : Int32) (v2 : Int32) (v3 : Int32) (v4 : Int32) (v5 : Int32) (o_me : Ob) (H : Heap) (locs : List Loc) (ls : Array Slot), rec_36_0 (v1, v2, v3, v4, v5, o_me) = some y → Wd dC dI A s.heap [wX9 h_me q_me k_me o_me] H locs → lv_has ls 9 [(0, .ref h_me), (1, .int v1), (2, .int v2), (3, .int v3), (4, .int v4), (5, .int v5)] → W p l e ({ frames := 7, cells := 0, slots := 0, locals := 169 } : Room) s m ([.ref h_me, .int p0] : List Value).toArray below meth c H locs 0 0 Qz (F0 m 36 ls [])) (rec_72_2 : Int32 × Int32 × Int32 × Int32 × Int32 × Int32 × Int32 × Ob → Option (Int32 × Ob)) (hrec_72_2 : ∀ (v1 : Int32) (v2 : Int32) (v3 : Int32) (v4 : Int32) (v5 : Int32) (v6 : Int32) (v7 : Int32) (o_me : Ob) (H : Heap) (locs : List Loc) (ls : Array Slot), rec_72_2 (v1, v2, v3, v4, v5, v6, v7, o_me) = some y → Wd dC dI A s.heap [wX9 h_me q_me k_me o_me] H locs → lv_has ls 9 [(0, .ref h_me), (1, .int v1), (2, .int v2), (3, .int v3), (4, .int v4), (5, .int v5), (6, .int v6), (7, .int v7)] → W p l e ({ frames := 7, cells := 0, slots := 0, locals := 169 } : Room) s m ([.ref h_me, .int p0] : List Value).toArray below meth c H locs 0 0 Qz (F0 m 72 ls [])), ∀ (v1 : Int32) (v2 : Int32) (v3 : Int32) (v4 : Int32) (v5 : Int32) (v7 : Int32) (s0 : Int32) (o_me : Ob) (H : Heap) (locs : List Loc) (ls : Array Slot), bk_X9_look_137  rec_36_0 rec_72_2 v1 v2 v3 v4 v5 v7 s0 o_me = some y → Wd dC dI A s.heap [wX9 h_me q_me k_me o_me] H locs → lv_has ls 9 [(0, .ref h_me), (1, .int v1), (2, .int v2), (3, .int v3), (4, .int v4), (5, .int v5), (7, .int v7)] → W p l e ({ frames := 7, cells := 0, slots := 0, locals := 169 } : Room) s m ([.ref h_me, .int p0] : List Value).toArray below meth c H locs 0 0 Qz (F0 m 137 ls [.int s0]) := by
    intro rec_36_0 hrec_36_0 rec_72_2 hrec_72_2
    intro v1 v2 v3 v4 v5 v7 s0 o_me H locs ls h hw hl
    unfold bk_X9_look_137 at h
    refine lv_istore (lv' := [(6, .int s0), (0, .ref h_me), (1, .int v1), (2, .int v2), (3, .int v3), (4, .int v4), (5, .int v5), (7, .int v7)]) hx hb dX9_look_137 hl (by decide) rfl (fun ls hl => ?_)
    exact bk_139_5 rec_36_0 hrec_36_0 rec_72_2 hrec_72_2 v1 v2 v3 v4 v5 s0 v7 o_me _ _ _ h hw (lv_sub hl [1, 2, 3, 4, 5, 6, 0, 7] rfl)
  have lp_72_2 : ∀ (rec_36_0 : Int32 × Int32 × Int32 × Int32 × Int32 × Ob → Option (Int32 × Ob)) (hrec_36_0 : ∀ (v1 : Int32) (v2 : Int32) (v3 : Int32) (v4 : Int32) (v5 : Int32) (o_me : Ob) (H : Heap) (locs : List Loc) (ls : Array Slot), rec_36_0 (v1, v2, v3, v4, v5, o_me) = some y → Wd dC dI A s.heap [wX9 h_me q_me k_me o_me] H locs → lv_has ls 9 [(0, .ref h_me), (1, .int v1), (2, .int v2), (3, .int v3), (4, .int v4), (5, .int v5)] → W p l e ({ frames := 7, cells := 0, slots := 0, locals := 169 } : Room) s m ([.ref h_me, .int p0] : List Value).toArray below meth c H locs 0 0 Qz (F0 m 36 ls [])) (N : Nat), ∀ (v1 : Int32) (v2 : Int32) (v3 : Int32) (v4 : Int32) (v5 : Int32) (v6 : Int32) (v7 : Int32) (o_me : Ob) (H : Heap) (locs : List Loc) (ls : Array Slot), lp_X9_look_72  rec_36_0 N (v1, v2, v3, v4, v5, v6, v7, o_me) = some y → Wd dC dI A s.heap [wX9 h_me q_me k_me o_me] H locs → lv_has ls 9 [(0, .ref h_me), (1, .int v1), (2, .int v2), (3, .int v3), (4, .int v4), (5, .int v5), (6, .int v6), (7, .int v7)] → W p l e ({ frames := 7, cells := 0, slots := 0, locals := 169 } : Room) s m ([.ref h_me, .int p0] : List Value).toArray below meth c H locs 0 0 Qz (F0 m 72 ls []) := by
    intro rec_36_0 hrec_36_0
    intro N
    induction N with
    | zero =>
      intro v1 v2 v3 v4 v5 v6 v7 o_me H locs ls h hw hl
      exact absurd (show (none : Option (Int32 × Ob)) = some y from h) (by simp)
    | succ N ih =>
      intro v1 v2 v3 v4 v5 v6 v7 o_me H locs ls h hw hl
      have h : lb_X9_look_72  rec_36_0 (lp_X9_look_72  rec_36_0 N) v1 v2 v3 v4 v5 v6 v7 o_me = some y := h
      unfold lb_X9_look_72 at h
      refine lv_iload hx hb dX9_look_72 (lv_at hl 7 rfl) ?_
      refine lv_aload_n hx hb dX9_look_74 rfl (lv_at hl 0 rfl) ?_
      refine fgX9_3 hx hb hts hown hK hw 0 rfl kw1179 dX9_look_75 ?_
      refine lv_iconst (v := 0) hx hb dX9_look_78 (by decide) ?_
      refine faX9_3 hx hb hK hw 0 rfl rfl (by decide) dX9_look_79 ?_
      refine lv_icmp_ge (tgt := 145) hx hb dX9_look_80 (by decide) (fun c => ?_) (fun c => ?_)
      · have h := z_t h c
        refine lv_iload hx hb dX9_look_145 (lv_at hl 6 rfl) ?_
        refine lv_iload_n hx hb dX9_look_147 rfl (lv_at hl 3 rfl) ?_
        refine lv_icmp_ge (tgt := 156) hx hb dX9_look_148 (by decide) (fun c => ?_) (fun c => ?_)
        · have h := z_t h c
          refine lv_iload hx hb dX9_look_156 (lv_at hl 4 rfl) ?_
          exact bk_158_3 rec_36_0 hrec_36_0 v1 v2 v3 v5 v6 v4 o_me _ _ _ h hw (lv_sub hl [0, 1, 2, 3, 5, 6] rfl)
        · have h := z_f h c
          refine lv_iload hx hb dX9_look_151 (lv_at hl 5 rfl) ?_
          refine lv_goto (tgt := 158) hx hb dX9_look_153 (by decide) ?_
          exact bk_158_3 rec_36_0 hrec_36_0 v1 v2 v3 v5 v6 v5 o_me _ _ _ h hw (lv_sub hl [0, 1, 2, 3, 5, 6] rfl)
      · have h := z_f h c
        refine lv_iload_n hx hb dX9_look_83 rfl (lv_at hl 2 rfl) ?_
        refine lv_iload hx hb dX9_look_84 (lv_at hl 7 rfl) ?_
        obtain ⟨z5, ez5, h⟩ := z_bd h
        refine xj_i (xrS (As := [.int v2, .int v7]) (rest := []) ⟨hx, hb, hml, hown, hts⟩ (m_X9_is l dC dI _  v2 v7 z5 ez5) kw1704 kw1702 kw1703 kw120 hd_X9_is ⟨rfl, rfl⟩ rfl rfl ⟨rfl, rfl⟩ hX hK hw [] (by decide) rfl rfl hl.1 rfl rfl dX9_look_86) hw hA [] (by decide) rfl rfl (fun H locs hw => ?_)
        refine lv_if_eq (tgt := 139) hx hb dX9_look_89 (by decide) (fun c => ?_) (fun c => ?_)
        · have h := z_t h c
          exact bk_139_5 rec_36_0 hrec_36_0 (lp_X9_look_72  rec_36_0 N) ih v1 v2 v3 v4 v5 v6 v7 o_me _ _ _ h hw (lv_sub hl [0, 1, 2, 3, 4, 5, 6, 7] rfl)
        · have h := z_f h c
          refine lv_aload_n hx hb dX9_look_92 rfl (lv_at hl 0 rfl) ?_
          refine lv_iload hx hb dX9_look_93 (lv_at hl 7 rfl) ?_
          refine lv_iload hx hb dX9_look_95 (lv_at hl 5 rfl) ?_
          obtain ⟨z7, ez7, h⟩ := z_bd h
          refine xj_i (xrV (As := [.int v7, .int v5]) (rest := []) ⟨hx, hb, hml, hown, hts⟩ (m_X9_turnsOf l dC dI _ h_me q_me k_me o_me v7 v5 z7 ez7) kw1652 kw1649 kw1651 kw82 kw120 hd_X9_turnsOf ⟨rfl, rfl⟩ rfl rfl ⟨rfl, rfl⟩ hX hK hw [0] (by decide) rfl rfl rfl rfl rfl hl.1 rfl rfl dX9_look_97) hw hA [0] (by decide) rfl rfl (fun H locs hw => ?_)
          have hw : Wd dC dI A s.heap [wX9 h_me q_me k_me z7.2] H locs := hw
          refine lv_istore (lv' := [(8, .int z7.1), (0, .ref h_me), (1, .int v1), (2, .int v2), (3, .int v3), (4, .int v4), (5, .int v5), (6, .int v6), (7, .int v7)]) hx hb dX9_look_100 hl (by decide) rfl (fun ls hl => ?_)
          refine lv_aload_n hx hb dX9_look_102 rfl (lv_at hl 1 rfl) ?_
          refine fgX9_45 hx hb hts hown hK hw 0 rfl kw1221 dX9_look_103 ?_
          refine lv_iload hx hb dX9_look_106 (lv_at hl 0 rfl) ?_
          refine lv_dup2_11 hx hb dX9_look_108 rfl rfl ?_
          obtain ⟨g8, h⟩ := z_gd h
          refine faX9_45 hx hb hK hw 0 rfl rfl g8 dX9_look_109 ?_
          refine lv_iconst (v := 1) hx hb dX9_look_110 (by decide) ?_
          refine lv_iadd hx hb dX9_look_111 ?_
          obtain ⟨g9, h⟩ := z_gd h
          refine fbX9_45 hx hb hK hw 0 rfl rfl g9 dX9_look_112 (fun H locs hw => ?_)
          obtain ⟨o10, eo10, h⟩ := z_lt h
          have hw : Wd dC dI A s.heap [wX9 h_me q_me k_me o10] H locs := by rw [eo10]; exact hw
          refine lv_aload_n hx hb dX9_look_113 rfl (lv_at hl 1 rfl) ?_
          refine fgX9_45 hx hb hts hown hK hw 0 rfl kw1221 dX9_look_114 ?_
          refine lv_iload hx hb dX9_look_117 (lv_at hl 0 rfl) ?_
          obtain ⟨g11, h⟩ := z_gd h
          refine faX9_45 hx hb hK hw 0 rfl rfl g11 dX9_look_119 ?_
          refine lv_iload hx hb dX9_look_120 (lv_at hl 7 rfl) ?_
          refine lv_icmp_le (tgt := 135) hx hb dX9_look_122 (by decide) (fun c => ?_) (fun c => ?_)
          · have h := z_t h c
            refine lv_iload hx hb dX9_look_135 (lv_at hl 7 rfl) ?_
            exact bk_137_6 rec_36_0 hrec_36_0 (lp_X9_look_72  rec_36_0 N) ih v1 v2 v3 v4 v5 v7 v6 o10 _ _ _ h hw (lv_sub hl [1, 2, 3, 4, 5, 6, 8] rfl)
          · have h := z_f h c
            refine lv_aload_n hx hb dX9_look_125 rfl (lv_at hl 1 rfl) ?_
            refine fgX9_45 hx hb hts hown hK hw 0 rfl kw1221 dX9_look_126 ?_
            refine lv_iload hx hb dX9_look_129 (lv_at hl 0 rfl) ?_
            obtain ⟨g12, h⟩ := z_gd h
            refine faX9_45 hx hb hK hw 0 rfl rfl g12 dX9_look_131 ?_
            refine lv_goto (tgt := 137) hx hb dX9_look_132 (by decide) ?_
            exact bk_137_6 rec_36_0 hrec_36_0 (lp_X9_look_72  rec_36_0 N) ih v1 v2 v3 v4 v5 v7 (gA o10 45 z7.1.toNatClampNeg) o10 _ _ _ h hw (lv_sub hl [1, 2, 3, 4, 5, 6, 8] rfl)
  have lp_45_1 : ∀ (rec_36_0 : Int32 × Int32 × Int32 × Int32 × Int32 × Ob → Option (Int32 × Ob)) (hrec_36_0 : ∀ (v1 : Int32) (v2 : Int32) (v3 : Int32) (v4 : Int32) (v5 : Int32) (o_me : Ob) (H : Heap) (locs : List Loc) (ls : Array Slot), rec_36_0 (v1, v2, v3, v4, v5, o_me) = some y → Wd dC dI A s.heap [wX9 h_me q_me k_me o_me] H locs → lv_has ls 9 [(0, .ref h_me), (1, .int v1), (2, .int v2), (3, .int v3), (4, .int v4), (5, .int v5)] → W p l e ({ frames := 7, cells := 0, slots := 0, locals := 169 } : Room) s m ([.ref h_me, .int p0] : List Value).toArray below meth c H locs 0 0 Qz (F0 m 36 ls [])) (N : Nat), ∀ (v1 : Int32) (v2 : Int32) (v3 : Int32) (v4 : Int32) (v5 : Int32) (v6 : Int32) (o_me : Ob) (H : Heap) (locs : List Loc) (ls : Array Slot), lp_X9_look_45  rec_36_0 N (v1, v2, v3, v4, v5, v6, o_me) = some y → Wd dC dI A s.heap [wX9 h_me q_me k_me o_me] H locs → lv_has ls 9 [(0, .ref h_me), (1, .int v1), (2, .int v2), (3, .int v3), (4, .int v4), (5, .int v5), (6, .int v6)] → W p l e ({ frames := 7, cells := 0, slots := 0, locals := 169 } : Room) s m ([.ref h_me, .int p0] : List Value).toArray below meth c H locs 0 0 Qz (F0 m 45 ls []) := by
    intro rec_36_0 hrec_36_0
    intro N
    induction N with
    | zero =>
      intro v1 v2 v3 v4 v5 v6 o_me H locs ls h hw hl
      exact absurd (show (none : Option (Int32 × Ob)) = some y from h) (by simp)
    | succ N ih =>
      intro v1 v2 v3 v4 v5 v6 o_me H locs ls h hw hl
      have h : lb_X9_look_45  rec_36_0 (lp_X9_look_45  rec_36_0 N) v1 v2 v3 v4 v5 v6 o_me = some y := h
      unfold lb_X9_look_45 at h
      refine lv_iload hx hb dX9_look_45 (lv_at hl 6 rfl) ?_
      refine lv_bipush (v := 10) hx hb dX9_look_47 (by decide) ?_
      refine lv_icmp_ge (tgt := 66) hx hb dX9_look_49 (by decide) (fun c => ?_) (fun c => ?_)
      · have h := z_t h c
        refine lv_iconst (v := 0) hx hb dX9_look_66 (by decide) ?_
        refine lv_istore (lv' := [(6, .int (0 : Int32)), (0, .ref h_me), (1, .int v1), (2, .int v2), (3, .int v3), (4, .int v4), (5, .int v5)]) hx hb dX9_look_67 hl (by decide) rfl (fun ls hl => ?_)
        refine lv_iconst (v := 0) hx hb dX9_look_69 (by decide) ?_
        refine lv_istore (lv' := [(7, .int (0 : Int32)), (6, .int (0 : Int32)), (0, .ref h_me), (1, .int v1), (2, .int v2), (3, .int v3), (4, .int v4), (5, .int v5)]) hx hb dX9_look_70 hl (by decide) rfl (fun ls hl => ?_)
        exact lp_72_2 rec_36_0 hrec_36_0 zfu v1 v2 v3 v4 v5 (0 : Int32) (0 : Int32) o_me _ _ _ h hw (lv_sub hl [2, 3, 4, 5, 6, 7, 1, 0] rfl)
      · have h := z_f h c
        refine lv_aload_n hx hb dX9_look_52 rfl (lv_at hl 0 rfl) ?_
        refine fgX9_45 hx hb hts hown hK hw 0 rfl kw1221 dX9_look_53 ?_
        refine lv_iload hx hb dX9_look_56 (lv_at hl 6 rfl) ?_
        refine lv_iconst (v := 0) hx hb dX9_look_58 (by decide) ?_
        obtain ⟨g13, h⟩ := z_gd h
        refine fbX9_45 hx hb hK hw 0 rfl rfl g13 dX9_look_59 (fun H locs hw => ?_)
        obtain ⟨o14, eo14, h⟩ := z_lt h
        have hw : Wd dC dI A s.heap [wX9 h_me q_me k_me o14] H locs := by rw [eo14]; exact hw
        obtain ⟨x15, ex15, h⟩ := z_lt h
        refine lv_iinc (v := x15) (lv' := [(6, .int x15), (0, .ref h_me), (1, .int v1), (2, .int v2), (3, .int v3), (4, .int v4), (5, .int v5)]) hx hb dX9_look_60 hl (k := 6) rfl ((congrArg (v6 + ·) (show Int32.ofInt 1 = (1 : Int32) from by decide)).trans ex15.symm) (by decide) rfl (fun ls hl => ?_)
        refine lv_goto (tgt := 45) hx hb dX9_look_63 (by decide) ?_
        exact ih v1 v2 v3 v4 v5 x15 o14 _ _ _ h hw (lv_sub hl [1, 2, 3, 4, 5, 6, 0] rfl)
  have lp_36_0 : ∀ (N : Nat), ∀ (v1 : Int32) (v2 : Int32) (v3 : Int32) (v4 : Int32) (v5 : Int32) (o_me : Ob) (H : Heap) (locs : List Loc) (ls : Array Slot), lp_X9_look_36   N (v1, v2, v3, v4, v5, o_me) = some y → Wd dC dI A s.heap [wX9 h_me q_me k_me o_me] H locs → lv_has ls 9 [(0, .ref h_me), (1, .int v1), (2, .int v2), (3, .int v3), (4, .int v4), (5, .int v5)] → W p l e ({ frames := 7, cells := 0, slots := 0, locals := 169 } : Room) s m ([.ref h_me, .int p0] : List Value).toArray below meth c H locs 0 0 Qz (F0 m 36 ls []) := by
    intro N
    induction N with
    | zero =>
      intro v1 v2 v3 v4 v5 o_me H locs ls h hw hl
      exact absurd (show (none : Option (Int32 × Ob)) = some y from h) (by simp)
    | succ N ih =>
      intro v1 v2 v3 v4 v5 o_me H locs ls h hw hl
      have h : lb_X9_look_36   (lp_X9_look_36   N) v1 v2 v3 v4 v5 o_me = some y := h
      unfold lb_X9_look_36 at h
      refine lv_iload hx hb dX9_look_36 (lv_at hl 5 rfl) ?_
      refine lv_iconst (v := 4) hx hb dX9_look_38 (by decide) ?_
      refine lv_icmp_ge (tgt := 179) hx hb dX9_look_39 (by decide) (fun c => ?_) (fun c => ?_)
      · have h := z_t h c
        refine lv_iload_n hx hb dX9_look_179 rfl (lv_at hl 1 rfl) ?_
        refine lv_if_ne (tgt := 188) hx hb dX9_look_180 (by decide) (fun c => ?_) (fun c => ?_)
        · have h := z_f h c
          refine lv_iload_n hx hb dX9_look_188 rfl (lv_at hl 3 rfl) ?_
          have hy := Option.some.inj h
          rw [← hQz, ← hy]
          exact xr_i (v := v3) hx hb hr rfl hlk hK hw dX9_look_189
        · have h := z_t h c
          refine lv_iload hx hb dX9_look_183 (lv_at hl 4 rfl) ?_
          refine lv_goto (tgt := 189) hx hb dX9_look_185 (by decide) ?_
          have hy := Option.some.inj h
          rw [← hQz, ← hy]
          exact xr_i (v := v4) hx hb hr rfl hlk hK hw dX9_look_189
      · have h := z_f h c
        refine lv_iconst (v := 0) hx hb dX9_look_42 (by decide) ?_
        refine lv_istore (lv' := [(6, .int (0 : Int32)), (0, .ref h_me), (1, .int v1), (2, .int v2), (3, .int v3), (4, .int v4), (5, .int v5)]) hx hb dX9_look_43 hl (by decide) rfl (fun ls hl => ?_)
        exact lp_45_1 (lp_X9_look_36   N) ih zfu v1 v2 v3 v4 v5 (0 : Int32) o_me _ _ _ h hw (lv_sub hl [1, 2, 3, 4, 5, 6, 0] rfl)
  unfold f_X9_look at h
  refine lv_aload_n hx hb dX9_look_0 rfl (lv_at hl 0 rfl) ?_
  refine lv_iconst (v := 0) hx hb dX9_look_1 (by decide) ?_
  refine fpX9_0 hx hb hts hown hK hw 0 rfl kw1176 dX9_look_2 (fun H locs hw => ?_)
  obtain ⟨o1, eo1, h⟩ := z_lt h
  have hw : Wd dC dI A s.heap [wX9 h_me q_me k_me o1] H locs := by rw [eo1]; exact hw
  refine lv_aload_n hx hb dX9_look_5 rfl (lv_at hl 0 rfl) ?_
  obtain ⟨z2, ez2, h⟩ := z_bd h
  refine xj_i (xrV (As := []) (rest := []) ⟨hx, hb, hml, hown, hts⟩ (m_X9_thatCanBe l dC dI _ h_me q_me k_me o1 z2 ez2) kw1727 kw1724 kw1726 kw92 kw120 hd_X9_thatCanBe ⟨rfl, rfl⟩ rfl rfl ⟨rfl, rfl⟩ hX hK hw [0] (by decide) rfl rfl rfl rfl rfl hl.1 rfl rfl dX9_look_6) hw hA [0] (by decide) rfl rfl (fun H locs hw => ?_)
  have hw : Wd dC dI A s.heap [wX9 h_me q_me k_me z2.2] H locs := hw
  refine lv_istore_n (lv' := [(2, .int z2.1), (0, .ref h_me), (1, .int p0)]) hx hb dX9_look_9 rfl hl (by decide) rfl (fun ls hl => ?_)
  refine lv_iload_n hx hb dX9_look_10 rfl (lv_at hl 2 rfl) ?_
  refine lv_i2l hx hb dX9_look_11 rfl ?_
  refine lv_lconst (v := 0) hx hb dX9_look_12 (by decide) ?_
  refine lv_lconst (v := 1) hx hb dX9_look_13 (by decide) ?_
  obtain ⟨z3, ez3, h⟩ := z_bd h
  refine xj_i (xrS (As := [.long p0.toInt64, .long (0 : Int64), .long (1 : Int64)]) (rest := []) ⟨hx, hb, hml, hown, hts⟩ (m_X9_in l dC dI _  p0.toInt64 (0 : Int64) (1 : Int64) z3 ez3) kw1385 kw1383 kw1384 kw120 hd_X9_in ⟨rfl, rfl⟩ rfl rfl ⟨rfl, rfl⟩ hX hK hw [] (by decide) rfl rfl hl.1 rfl rfl dX9_look_14) hw hA [] (by decide) rfl rfl (fun H locs hw => ?_)
  refine lv_if_eq (tgt := 24) hx hb dX9_look_17 (by decide) (fun c => ?_) (fun c => ?_)
  · have h := z_t h c
    refine lv_iconst (v := (-1)) hx hb dX9_look_24 (by decide) ?_
    have hy := Option.some.inj h
    rw [← hQz, ← hy]
    exact xr_i (v := (-1 : Int32)) hx hb hr rfl hlk hK hw dX9_look_25
  · have h := z_f h c
    refine lv_iload_n hx hb dX9_look_20 rfl (lv_at hl 0 rfl) ?_
    refine lv_if_ne (tgt := 26) hx hb dX9_look_21 (by decide) (fun c => ?_) (fun c => ?_)
    · have h := z_f h c
      refine lv_ldcw (v := 100000000) hx hb hown (hts _ kw1701) dX9_look_26 ?_
      refine lv_istore_n (lv' := [(3, .int (100000000 : Int32)), (2, .int z2.1), (0, .ref h_me), (1, .int p0)]) hx hb dX9_look_29 rfl hl (by decide) rfl (fun ls hl => ?_)
      refine lv_iconst (v := (-1)) hx hb dX9_look_30 (by decide) ?_
      refine lv_istore (lv' := [(4, .int (-1 : Int32)), (3, .int (100000000 : Int32)), (2, .int z2.1), (0, .ref h_me), (1, .int p0)]) hx hb dX9_look_31 hl (by decide) rfl (fun ls hl => ?_)
      refine lv_iconst (v := 0) hx hb dX9_look_33 (by decide) ?_
      refine lv_istore (lv' := [(5, .int (0 : Int32)), (4, .int (-1 : Int32)), (3, .int (100000000 : Int32)), (2, .int z2.1), (0, .ref h_me), (1, .int p0)]) hx hb dX9_look_34 hl (by decide) rfl (fun ls hl => ?_)
      exact lp_36_0  zfu p0 z2.1 (100000000 : Int32) (-1 : Int32) (0 : Int32) z2.2 _ _ _ h hw (lv_sub hl [4, 5, 3, 2, 1, 0] rfl)
    · have h := z_t h c
      refine lv_iconst (v := (-1)) hx hb dX9_look_24 (by decide) ?_
      have hy := Option.some.inj h
      rw [← hQz, ← hy]
      exact xr_i (v := (-1 : Int32)) hx hb hr rfl hlk hK hw dX9_look_25

def bk_X9_never_70  (rec_18_0 : Int32 × Int32 × Ob → Option (Int32 × Ob)) (rec_30_1 : Int32 × Int32 × Int32 × Ob → Option (Int32 × Ob)) (v2 : Int32) (v3 : Int32) (s0 : Int32) (s1 : Int32) (o_me : Ob) : Option (Int32 × Ob) :=
  zlt (s1 &&& s0) fun x6 =>
  zlt (v3 + (1 : Int32)) fun x7 =>
  rec_30_1 (x6, v2, x7, o_me)
def bk_X9_never_61  (rec_18_0 : Int32 × Int32 × Ob → Option (Int32 × Ob)) (rec_30_1 : Int32 × Int32 × Int32 × Ob → Option (Int32 × Ob)) (v2 : Int32) (v3 : Int32) (s0 : Int32) (o_me : Ob) : Option (Int32 × Ob) :=
  bk_X9_never_70  rec_18_0 rec_30_1 v2 v3 (-1 : Int32) s0 o_me
def lb_X9_never_30  (rec_18_0 : Int32 × Int32 × Ob → Option (Int32 × Ob)) (rec_30_1 : Int32 × Int32 × Int32 × Ob → Option (Int32 × Ob)) (v1 : Int32) (v2 : Int32) (v3 : Int32) (o_me : Ob) : Option (Int32 × Ob) :=
  if (gA o_me 3 (0 : Int32).toNatClampNeg) ≤ v3 then
  (zlt (v2 + (1 : Int32)) fun x4 =>
  rec_18_0 (v1, x4, o_me))
  else
  (zgd (zin v3 7) <|
  if (gA o_me 44 v3.toNatClampNeg) = (0 : Int32) then
  ((f_X9_placeOf o_me v3 (127 : Int32)).bind fun z8 =>
  if z8 = (1 : Int32) then
  (bk_X9_never_61  rec_18_0 rec_30_1 v2 v3 v1 o_me)
  else
  (bk_X9_never_70  rec_18_0 rec_30_1 v2 v3 (((1 : Int32) <<< (v3 &&& 31)) ^^^ (-1 : Int32)) v1 o_me))
  else
  (bk_X9_never_61  rec_18_0 rec_30_1 v2 v3 v1 o_me))
def lp_X9_never_30  (rec_18_0 : Int32 × Int32 × Ob → Option (Int32 × Ob)) : Nat → (Int32 × Int32 × Int32 × Ob) → Option (Int32 × Ob) := zit (fun rec a => lb_X9_never_30  rec_18_0 rec a.1 a.2.1 a.2.2.1 a.2.2.2)
def lb_X9_never_18   (rec_18_0 : Int32 × Int32 × Ob → Option (Int32 × Ob)) (v1 : Int32) (v2 : Int32) (o_me : Ob) : Option (Int32 × Ob) :=
  if (4 : Int32) ≤ v2 then
  (some (v1, o_me))
  else
  ((f_X9_layRuns o_me v2).bind fun z3 =>
  lp_X9_never_30  rec_18_0 zfu (v1, v2, (0 : Int32), z3))
def lp_X9_never_18   : Nat → (Int32 × Int32 × Ob) → Option (Int32 × Ob) := zit (fun rec a => lb_X9_never_18   rec a.1 a.2.1 a.2.2)
def f_X9_never (o_me : Ob) : Option (Int32 × Ob) :=
  zlt (sI o_me 0 (0 : Int32)) fun o1 =>
  zlt (((1 : Int32) <<< ((gA o1 3 (0 : Int32).toNatClampNeg) &&& 31)) - (1 : Int32)) fun x2 =>
  lp_X9_never_18   zfu (x2, (0 : Int32), o1)
set_option maxHeartbeats 4000000 in
set_option maxRecDepth 100000 in
theorem m_X9_never (l : Launch) (dC : Nat → ClassId) (dI : Nat → Nat → Nat) (sz : Nat) (h_me : Nat) (q_me : Nat → Nat) (k_me : Nat → ClassId) (o_me : Ob) (y : Int32 × Ob) (h : f_X9_never o_me = some y) : CI l yX9_never cX9_never 4 (some .int) ({ frames := 7, cells := 0, slots := 0, locals := 167 } : Room) dC dI sz [.ref h_me] [wX9 h_me q_me k_me o_me] [tX9 k_me] y.1 [wX9 h_me q_me k_me y.2] := by
  refine CC_of (by decide) (Nat.le_of_ble_eq_true rfl) ?_
  intro p e s m below meth c A ls hx hb hml hr hlk hnm hown hts hX hK hP hD hA hl
  have hl : lv_has ls 4 [(0, .ref h_me)] := hl
  have hown : s.vm.findClass RX9 = some m.cls := hown
  have hw : Wd dC dI A s.heap [wX9 h_me q_me k_me o_me] s.heap [] := ⟨hP, hD, va_S.rf⟩
  generalize hQz : (MQ below (QI dC dI (fun r (_ : Unit) => r = y.1) (fun _ => Jn [wX9 h_me q_me k_me y.2]) (fun _ => Jt [tX9 k_me]) A) ([.ref h_me] : List Value).toArray s 0 0 A) = Qz
  clear hP hD hnm
  have bk_70_3 : ∀ (rec_18_0 : Int32 × Int32 × Ob → Option (Int32 × Ob)) (hrec_18_0 : ∀ (v1 : Int32) (v2 : Int32) (o_me : Ob) (H : Heap) (locs : List Loc) (ls : Array Slot), rec_18_0 (v1, v2, o_me) = some y → Wd dC dI A s.heap [wX9 h_me q_me k_me o_me] H locs → lv_has ls 4 [(0, .ref h_me), (1, .int v1), (2, .int v2)] → W p l e ({ frames := 7, cells := 0, slots := 0, locals := 167 } : Room) s m ([.ref h_me] : List Value).toArray below meth c H locs 0 0 Qz (F0 m 18 ls [])) (rec_30_1 : Int32 × Int32 × Int32 × Ob → Option (Int32 × Ob)) (hrec_30_1 : ∀ (v1 : Int32) (v2 : Int32) (v3 : Int32) (o_me : Ob) (H : Heap) (locs : List Loc) (ls : Array Slot), rec_30_1 (v1, v2, v3, o_me) = some y → Wd dC dI A s.heap [wX9 h_me q_me k_me o_me] H locs → lv_has ls 4 [(0, .ref h_me), (1, .int v1), (2, .int v2), (3, .int v3)] → W p l e ({ frames := 7, cells := 0, slots := 0, locals := 167 } : Room) s m ([.ref h_me] : List Value).toArray below meth c H locs 0 0 Qz (F0 m 30 ls [])), ∀ (v2 : Int32) (v3 : Int32) (s0 : Int32) (s1 : Int32) (o_me : Ob) (H : Heap) (locs : List Loc) (ls : Array Slot), bk_X9_never_70  rec_18_0 rec_30_1 v2 v3 s0 s1 o_me = some y → Wd dC dI A s.heap [wX9 h_me q_me k_me o_me] H locs → lv_has ls 4 [(0, .ref h_me), (2, .int v2), (3, .int v3)] → W p l e ({ frames := 7, cells := 0, slots := 0, locals := 167 } : Room) s m ([.ref h_me] : List Value).toArray below meth c H locs 0 0 Qz (F0 m 70 ls [.int s0, .int s1]) := by
    intro rec_18_0 hrec_18_0 rec_30_1 hrec_30_1
    intro v2 v3 s0 s1 o_me H locs ls h hw hl
    unfold bk_X9_never_70 at h
    refine lv_iand hx hb dX9_never_70 ?_
    obtain ⟨x6, ex6, h⟩ := z_lt h
    refine lv_fi (v := x6) ex6.symm ?_
    refine lv_istore_n (lv' := [(1, .int x6), (0, .ref h_me), (2, .int v2), (3, .int v3)]) hx hb dX9_never_71 rfl hl (by decide) rfl (fun ls hl => ?_)
    obtain ⟨x7, ex7, h⟩ := z_lt h
    refine lv_iinc (v := x7) (lv' := [(3, .int x7), (1, .int x6), (0, .ref h_me), (2, .int v2)]) hx hb dX9_never_72 hl (k := 3) rfl ((congrArg (v3 + ·) (show Int32.ofInt 1 = (1 : Int32) from by decide)).trans ex7.symm) (by decide) rfl (fun ls hl => ?_)
    refine lv_goto (tgt := 30) hx hb dX9_never_75 (by decide) ?_
    exact hrec_30_1 x6 v2 x7 o_me _ _ _ h hw (lv_sub hl [2, 1, 3, 0] rfl)
  have bk_61_2 : ∀ (rec_18_0 : Int32 × Int32 × Ob → Option (Int32 × Ob)) (hrec_18_0 : ∀ (v1 : Int32) (v2 : Int32) (o_me : Ob) (H : Heap) (locs : List Loc) (ls : Array Slot), rec_18_0 (v1, v2, o_me) = some y → Wd dC dI A s.heap [wX9 h_me q_me k_me o_me] H locs → lv_has ls 4 [(0, .ref h_me), (1, .int v1), (2, .int v2)] → W p l e ({ frames := 7, cells := 0, slots := 0, locals := 167 } : Room) s m ([.ref h_me] : List Value).toArray below meth c H locs 0 0 Qz (F0 m 18 ls [])) (rec_30_1 : Int32 × Int32 × Int32 × Ob → Option (Int32 × Ob)) (hrec_30_1 : ∀ (v1 : Int32) (v2 : Int32) (v3 : Int32) (o_me : Ob) (H : Heap) (locs : List Loc) (ls : Array Slot), rec_30_1 (v1, v2, v3, o_me) = some y → Wd dC dI A s.heap [wX9 h_me q_me k_me o_me] H locs → lv_has ls 4 [(0, .ref h_me), (1, .int v1), (2, .int v2), (3, .int v3)] → W p l e ({ frames := 7, cells := 0, slots := 0, locals := 167 } : Room) s m ([.ref h_me] : List Value).toArray below meth c H locs 0 0 Qz (F0 m 30 ls [])), ∀ (v2 : Int32) (v3 : Int32) (s0 : Int32) (o_me : Ob) (H : Heap) (locs : List Loc) (ls : Array Slot), bk_X9_never_61  rec_18_0 rec_30_1 v2 v3 s0 o_me = some y → Wd dC dI A s.heap [wX9 h_me q_me k_me o_me] H locs → lv_has ls 4 [(0, .ref h_me), (2, .int v2), (3, .int v3)] → W p l e ({ frames := 7, cells := 0, slots := 0, locals := 167 } : Room) s m ([.ref h_me] : List Value).toArray below meth c H locs 0 0 Qz (F0 m 61 ls [.int s0]) := by
    intro rec_18_0 hrec_18_0 rec_30_1 hrec_30_1
    intro v2 v3 s0 o_me H locs ls h hw hl
    unfold bk_X9_never_61 at h
    refine lv_iconst (v := (-1)) hx hb dX9_never_61 (by decide) ?_
    refine lv_goto (tgt := 70) hx hb dX9_never_62 (by decide) ?_
    exact bk_70_3 rec_18_0 hrec_18_0 rec_30_1 hrec_30_1 v2 v3 (-1 : Int32) s0 o_me _ _ _ h hw (lv_sub hl [0, 1, 2] rfl)
  have lp_30_1 : ∀ (rec_18_0 : Int32 × Int32 × Ob → Option (Int32 × Ob)) (hrec_18_0 : ∀ (v1 : Int32) (v2 : Int32) (o_me : Ob) (H : Heap) (locs : List Loc) (ls : Array Slot), rec_18_0 (v1, v2, o_me) = some y → Wd dC dI A s.heap [wX9 h_me q_me k_me o_me] H locs → lv_has ls 4 [(0, .ref h_me), (1, .int v1), (2, .int v2)] → W p l e ({ frames := 7, cells := 0, slots := 0, locals := 167 } : Room) s m ([.ref h_me] : List Value).toArray below meth c H locs 0 0 Qz (F0 m 18 ls [])) (N : Nat), ∀ (v1 : Int32) (v2 : Int32) (v3 : Int32) (o_me : Ob) (H : Heap) (locs : List Loc) (ls : Array Slot), lp_X9_never_30  rec_18_0 N (v1, v2, v3, o_me) = some y → Wd dC dI A s.heap [wX9 h_me q_me k_me o_me] H locs → lv_has ls 4 [(0, .ref h_me), (1, .int v1), (2, .int v2), (3, .int v3)] → W p l e ({ frames := 7, cells := 0, slots := 0, locals := 167 } : Room) s m ([.ref h_me] : List Value).toArray below meth c H locs 0 0 Qz (F0 m 30 ls []) := by
    intro rec_18_0 hrec_18_0
    intro N
    induction N with
    | zero =>
      intro v1 v2 v3 o_me H locs ls h hw hl
      exact absurd (show (none : Option (Int32 × Ob)) = some y from h) (by simp)
    | succ N ih =>
      intro v1 v2 v3 o_me H locs ls h hw hl
      have h : lb_X9_never_30  rec_18_0 (lp_X9_never_30  rec_18_0 N) v1 v2 v3 o_me = some y := h
      unfold lb_X9_never_30 at h
      refine lv_iload_n hx hb dX9_never_30 rfl (lv_at hl 3 rfl) ?_
      refine lv_aload_n hx hb dX9_never_31 rfl (lv_at hl 0 rfl) ?_
      refine fgX9_3 hx hb hts hown hK hw 0 rfl kw1179 dX9_never_32 ?_
      refine lv_iconst (v := 0) hx hb dX9_never_35 (by decide) ?_
      refine faX9_3 hx hb hK hw 0 rfl rfl (by decide) dX9_never_36 ?_
      refine lv_icmp_ge (tgt := 78) hx hb dX9_never_37 (by decide) (fun c => ?_) (fun c => ?_)
      · have h := z_t h c
        obtain ⟨x4, ex4, h⟩ := z_lt h
        refine lv_iinc (v := x4) (lv' := [(2, .int x4), (0, .ref h_me), (1, .int v1), (3, .int v3)]) hx hb dX9_never_78 hl (k := 2) rfl ((congrArg (v2 + ·) (show Int32.ofInt 1 = (1 : Int32) from by decide)).trans ex4.symm) (by decide) rfl (fun ls hl => ?_)
        refine lv_goto (tgt := 18) hx hb dX9_never_81 (by decide) ?_
        exact hrec_18_0 v1 x4 o_me _ _ _ h hw (lv_sub hl [1, 2, 0] rfl)
      · have h := z_f h c
        refine lv_iload_n hx hb dX9_never_40 rfl (lv_at hl 1 rfl) ?_
        refine lv_aload_n hx hb dX9_never_41 rfl (lv_at hl 0 rfl) ?_
        refine fgX9_44 hx hb hts hown hK hw 0 rfl kw1220 dX9_never_42 ?_
        refine lv_iload_n hx hb dX9_never_45 rfl (lv_at hl 3 rfl) ?_
        obtain ⟨g5, h⟩ := z_gd h
        refine faX9_44 hx hb hK hw 0 rfl rfl g5 dX9_never_46 ?_
        refine lv_if_ne (tgt := 61) hx hb dX9_never_47 (by decide) (fun c => ?_) (fun c => ?_)
        · have h := z_f h c
          exact bk_61_2 rec_18_0 hrec_18_0 (lp_X9_never_30  rec_18_0 N) ih v2 v3 v1 o_me _ _ _ h hw (lv_sub hl [0, 2, 3] rfl)
        · have h := z_t h c
          refine lv_aload_n hx hb dX9_never_50 rfl (lv_at hl 0 rfl) ?_
          refine lv_iload_n hx hb dX9_never_51 rfl (lv_at hl 3 rfl) ?_
          refine lv_bipush (v := 127) hx hb dX9_never_52 (by decide) ?_
          obtain ⟨z8, ez8, h⟩ := z_bd h
          refine xj_i (xrV (As := [.int v3, .int (127 : Int32)]) (rest := [.int v1]) ⟨hx, hb, hml, hown, hts⟩ (m_X9_placeOf l dC dI _ h_me q_me k_me o_me v3 (127 : Int32) z8 ez8) kw1711 kw1708 kw1710 kw91 kw120 hd_X9_placeOf ⟨rfl, rfl⟩ rfl rfl ⟨rfl, rfl⟩ hX hK hw [0] (by decide) rfl rfl rfl rfl rfl hl.1 rfl rfl dX9_never_54) hw hA [0] (by decide) rfl rfl (fun H locs hw => ?_)
          have hw : Wd dC dI A s.heap [wX9 h_me q_me k_me o_me] H locs := hw
          refine lv_iconst (v := 1) hx hb dX9_never_57 (by decide) ?_
          refine lv_icmp_ne (tgt := 65) hx hb dX9_never_58 (by decide) (fun c => ?_) (fun c => ?_)
          · have h := z_f h c
            refine lv_iconst (v := 1) hx hb dX9_never_65 (by decide) ?_
            refine lv_iload_n hx hb dX9_never_66 rfl (lv_at hl 3 rfl) ?_
            refine lv_ishl hx hb dX9_never_67 ?_
            refine lv_iconst (v := (-1)) hx hb dX9_never_68 (by decide) ?_
            refine lv_ixor hx hb dX9_never_69 ?_
            exact bk_70_3 rec_18_0 hrec_18_0 (lp_X9_never_30  rec_18_0 N) ih v2 v3 (((1 : Int32) <<< (v3 &&& 31)) ^^^ (-1 : Int32)) v1 o_me _ _ _ h hw (lv_sub hl [0, 2, 3] rfl)
          · have h := z_t h c
            exact bk_61_2 rec_18_0 hrec_18_0 (lp_X9_never_30  rec_18_0 N) ih v2 v3 v1 o_me _ _ _ h hw (lv_sub hl [0, 2, 3] rfl)
  have lp_18_0 : ∀ (N : Nat), ∀ (v1 : Int32) (v2 : Int32) (o_me : Ob) (H : Heap) (locs : List Loc) (ls : Array Slot), lp_X9_never_18   N (v1, v2, o_me) = some y → Wd dC dI A s.heap [wX9 h_me q_me k_me o_me] H locs → lv_has ls 4 [(0, .ref h_me), (1, .int v1), (2, .int v2)] → W p l e ({ frames := 7, cells := 0, slots := 0, locals := 167 } : Room) s m ([.ref h_me] : List Value).toArray below meth c H locs 0 0 Qz (F0 m 18 ls []) := by
    intro N
    induction N with
    | zero =>
      intro v1 v2 o_me H locs ls h hw hl
      exact absurd (show (none : Option (Int32 × Ob)) = some y from h) (by simp)
    | succ N ih =>
      intro v1 v2 o_me H locs ls h hw hl
      have h : lb_X9_never_18   (lp_X9_never_18   N) v1 v2 o_me = some y := h
      unfold lb_X9_never_18 at h
      refine lv_iload_n hx hb dX9_never_18 rfl (lv_at hl 2 rfl) ?_
      refine lv_iconst (v := 4) hx hb dX9_never_19 (by decide) ?_
      refine lv_icmp_ge (tgt := 84) hx hb dX9_never_20 (by decide) (fun c => ?_) (fun c => ?_)
      · have h := z_t h c
        refine lv_iload_n hx hb dX9_never_84 rfl (lv_at hl 1 rfl) ?_
        have hy := Option.some.inj h
        rw [← hQz, ← hy]
        exact xr_i (v := v1) hx hb hr rfl hlk hK hw dX9_never_85
      · have h := z_f h c
        refine lv_aload_n hx hb dX9_never_23 rfl (lv_at hl 0 rfl) ?_
        refine lv_iload_n hx hb dX9_never_24 rfl (lv_at hl 2 rfl) ?_
        obtain ⟨z3, ez3, h⟩ := z_bd h
        refine xj_v (xrV (As := [.int v2]) (rest := []) ⟨hx, hb, hml, hown, hts⟩ (m_X9_layRuns l dC dI _ h_me q_me k_me o_me v2 z3 ez3) kw1696 kw1693 kw1695 kw89 kw120 hd_X9_layRuns ⟨rfl, rfl⟩ rfl rfl ⟨rfl, rfl⟩ hX hK hw [0] (by decide) rfl rfl rfl rfl rfl hl.1 rfl rfl dX9_never_25) hw hA [0] (by decide) rfl rfl (fun H locs hw => ?_)
        have hw : Wd dC dI A s.heap [wX9 h_me q_me k_me z3] H locs := hw
        refine lv_iconst (v := 0) hx hb dX9_never_28 (by decide) ?_
        refine lv_istore_n (lv' := [(3, .int (0 : Int32)), (0, .ref h_me), (1, .int v1), (2, .int v2)]) hx hb dX9_never_29 rfl hl (by decide) rfl (fun ls hl => ?_)
        exact lp_30_1 (lp_X9_never_18   N) ih zfu v1 v2 (0 : Int32) z3 _ _ _ h hw (lv_sub hl [1, 2, 3, 0] rfl)
  unfold f_X9_never at h
  refine lv_aload_n hx hb dX9_never_0 rfl (lv_at hl 0 rfl) ?_
  refine lv_iconst (v := 0) hx hb dX9_never_1 (by decide) ?_
  refine fpX9_0 hx hb hts hown hK hw 0 rfl kw1176 dX9_never_2 (fun H locs hw => ?_)
  obtain ⟨o1, eo1, h⟩ := z_lt h
  have hw : Wd dC dI A s.heap [wX9 h_me q_me k_me o1] H locs := by rw [eo1]; exact hw
  refine lv_iconst (v := 1) hx hb dX9_never_5 (by decide) ?_
  refine lv_aload_n hx hb dX9_never_6 rfl (lv_at hl 0 rfl) ?_
  refine fgX9_3 hx hb hts hown hK hw 0 rfl kw1179 dX9_never_7 ?_
  refine lv_iconst (v := 0) hx hb dX9_never_10 (by decide) ?_
  refine faX9_3 hx hb hK hw 0 rfl rfl (by decide) dX9_never_11 ?_
  refine lv_ishl hx hb dX9_never_12 ?_
  refine lv_iconst (v := 1) hx hb dX9_never_13 (by decide) ?_
  refine lv_isub hx hb dX9_never_14 ?_
  obtain ⟨x2, ex2, h⟩ := z_lt h
  refine lv_fi (v := x2) ex2.symm ?_
  refine lv_istore_n (lv' := [(1, .int x2), (0, .ref h_me)]) hx hb dX9_never_15 rfl hl (by decide) rfl (fun ls hl => ?_)
  refine lv_iconst (v := 0) hx hb dX9_never_16 (by decide) ?_
  refine lv_istore_n (lv' := [(2, .int (0 : Int32)), (1, .int x2), (0, .ref h_me)]) hx hb dX9_never_17 rfl hl (by decide) rfl (fun ls hl => ?_)
  exact lp_18_0  zfu x2 (0 : Int32) o1 _ _ _ h hw (lv_sub hl [2, 1, 0] rfl)

def f_X9_of (o_me : Ob) (p0 : Int32) (p1 : Int32) : Option (Int32 × Ob) :=
  zlt (sI o_me 0 (0 : Int32)) fun o1 =>
  (f_X9_isPerson o1 p0).bind fun z2 =>
  if z2 = (0 : Int32) then
  (some ((-1 : Int32), o1))
  else
  ((f_X9_in p1.toInt64 (0 : Int64) (15 : Int64)).bind fun z3 =>
  if z3 = (0 : Int32) then
  (some ((-1 : Int32), o1))
  else
  (if p1 = (0 : Int32) then
  (zgd (zin ((8 : Int32) + p0) 5484) <|
  some (gA o1 3 ((8 : Int32) + p0).toNatClampNeg, o1))
  else
  (if p1 = (1 : Int32) then
  (zgd (zin ((15 : Int32) + p0) 5484) <|
  some (gA o1 3 ((15 : Int32) + p0).toNatClampNeg, o1))
  else
  (if p1 = (2 : Int32) then
  (zgd (zin ((22 : Int32) + p0) 5484) <|
  some (gA o1 3 ((22 : Int32) + p0).toNatClampNeg, o1))
  else
  (if p1 = (3 : Int32) then
  (zgd (zin ((29 : Int32) + p0) 5484) <|
  some (gA o1 3 ((29 : Int32) + p0).toNatClampNeg, o1))
  else
  (zlt (p1 - p1 / (4 : Int32) * (4 : Int32)) fun x9 =>
  if (8 : Int32) ≤ p1 then
  (if (12 : Int32) ≤ p1 then
  ((f_X9_isBarred o1 p0 x9).bind fun z10 =>
  if z10.1 = (0 : Int32) then
  (some ((0 : Int32), z10.2))
  else
  (some ((1 : Int32), z10.2)))
  else
  ((f_X9_runsOf o1 p0 x9).bind fun z11 =>
  some (z11.1, z11.2)))
  else
  (zgd (zin (((36 : Int32) + ((4 : Int32) * p0)) + x9) 5484) <|
  some (gA o1 3 (((36 : Int32) + ((4 : Int32) * p0)) + x9).toNatClampNeg, o1))))))))
set_option maxHeartbeats 4000000 in
set_option maxRecDepth 100000 in
theorem m_X9_of (l : Launch) (dC : Nat → ClassId) (dI : Nat → Nat → Nat) (sz : Nat) (h_me : Nat) (q_me : Nat → Nat) (k_me : Nat → ClassId) (o_me : Ob) (p0 : Int32) (p1 : Int32) (y : Int32 × Ob) (h : f_X9_of o_me p0 p1 = some y) : CI l yX9_of cX9_of 4 (some .int) ({ frames := 6, cells := 0, slots := 0, locals := 145 } : Room) dC dI sz [.ref h_me, .int p0, .int p1] [wX9 h_me q_me k_me o_me] [tX9 k_me] y.1 [wX9 h_me q_me k_me y.2] := by
  refine CC_of (by decide) (Nat.le_of_ble_eq_true rfl) ?_
  intro p e s m below meth c A ls hx hb hml hr hlk hnm hown hts hX hK hP hD hA hl
  have hl : lv_has ls 4 [(0, .ref h_me), (1, .int p0), (2, .int p1)] := hl
  have hown : s.vm.findClass RX9 = some m.cls := hown
  have hw : Wd dC dI A s.heap [wX9 h_me q_me k_me o_me] s.heap [] := ⟨hP, hD, va_S.rf⟩
  generalize hQz : (MQ below (QI dC dI (fun r (_ : Unit) => r = y.1) (fun _ => Jn [wX9 h_me q_me k_me y.2]) (fun _ => Jt [tX9 k_me]) A) ([.ref h_me, .int p0, .int p1] : List Value).toArray s 0 0 A) = Qz
  clear hP hD hnm
  unfold f_X9_of at h
  refine lv_aload_n hx hb dX9_of_0 rfl (lv_at hl 0 rfl) ?_
  refine lv_iconst (v := 0) hx hb dX9_of_1 (by decide) ?_
  refine fpX9_0 hx hb hts hown hK hw 0 rfl kw1176 dX9_of_2 (fun H locs hw => ?_)
  obtain ⟨o1, eo1, h⟩ := z_lt h
  have hw : Wd dC dI A s.heap [wX9 h_me q_me k_me o1] H locs := by rw [eo1]; exact hw
  refine lv_aload_n hx hb dX9_of_5 rfl (lv_at hl 0 rfl) ?_
  refine lv_iload_n hx hb dX9_of_6 rfl (lv_at hl 1 rfl) ?_
  obtain ⟨z2, ez2, h⟩ := z_bd h
  refine xj_i (xrV (As := [.int p0]) (rest := []) ⟨hx, hb, hml, hown, hts⟩ (m_X9_isPerson l dC dI _ h_me q_me k_me o1 p0 z2 ez2) kw1402 kw1399 kw1401 kw42 kw120 hd_X9_isPerson ⟨rfl, rfl⟩ rfl rfl ⟨rfl, rfl⟩ hX hK hw [0] (by decide) rfl rfl rfl rfl rfl hl.1 rfl rfl dX9_of_7) hw hA [0] (by decide) rfl rfl (fun H locs hw => ?_)
  have hw : Wd dC dI A s.heap [wX9 h_me q_me k_me o1] H locs := hw
  refine lv_if_eq (tgt := 25) hx hb dX9_of_10 (by decide) (fun c => ?_) (fun c => ?_)
  · have h := z_t h c
    refine lv_iconst (v := (-1)) hx hb dX9_of_25 (by decide) ?_
    have hy := Option.some.inj h
    rw [← hQz, ← hy]
    exact xr_i (v := (-1 : Int32)) hx hb hr rfl hlk hK hw dX9_of_26
  · have h := z_f h c
    refine lv_iload_n hx hb dX9_of_13 rfl (lv_at hl 2 rfl) ?_
    refine lv_i2l hx hb dX9_of_14 rfl ?_
    refine lv_lconst (v := 0) hx hb dX9_of_15 (by decide) ?_
    refine lv_ldc2 (v := 15) hx hb hown (hts _ kw1407) dX9_of_16 ?_
    obtain ⟨z3, ez3, h⟩ := z_bd h
    refine xj_i (xrS (As := [.long p1.toInt64, .long (0 : Int64), .long (15 : Int64)]) (rest := []) ⟨hx, hb, hml, hown, hts⟩ (m_X9_in l dC dI _  p1.toInt64 (0 : Int64) (15 : Int64) z3 ez3) kw1385 kw1383 kw1384 kw120 hd_X9_in ⟨rfl, rfl⟩ rfl rfl ⟨rfl, rfl⟩ hX hK hw [] (by decide) rfl rfl hl.1 rfl rfl dX9_of_19) hw hA [] (by decide) rfl rfl (fun H locs hw => ?_)
    refine lv_if_ne (tgt := 27) hx hb dX9_of_22 (by decide) (fun c => ?_) (fun c => ?_)
    · have h := z_f h c
      refine lv_iload_n hx hb dX9_of_27 rfl (lv_at hl 2 rfl) ?_
      rcases (show p1.toInt = 0 ∨ p1.toInt = 1 ∨ p1.toInt = 2 ∨ p1.toInt = 3 ∨ (p1.toInt < 0 ∨ 3 < p1.toInt) by omega) with c4 | c4 | c4 | c4 | c4
      · skip
        have ec4 : p1 = (0 : Int32) := Int32.toInt_inj.mp (c4.trans (by decide))
        have h := z_t h ec4
        refine lv_fi (v := 0) ec4 ?_
        refine lv_tableIn (tgt := 60) hx hb dX9_of_28 (by decide) (by decide) rfl (by decide) ?_
        refine lv_aload_n hx hb dX9_of_60 rfl (lv_at hl 0 rfl) ?_
        refine fgX9_3 hx hb hts hown hK hw 0 rfl kw1179 dX9_of_61 ?_
        refine lv_bipush (v := 8) hx hb dX9_of_64 (by decide) ?_
        refine lv_iload_n hx hb dX9_of_66 rfl (lv_at hl 1 rfl) ?_
        refine lv_iadd hx hb dX9_of_67 ?_
        obtain ⟨g5, h⟩ := z_gd h
        refine faX9_3 hx hb hK hw 0 rfl rfl g5 dX9_of_68 ?_
        have hy := Option.some.inj h
        rw [← hQz, ← hy]
        exact xr_i (v := gA o1 3 ((8 : Int32) + p0).toNatClampNeg) hx hb hr rfl hlk hK hw dX9_of_69
      · skip
        have h := z_f h (fun e9 => by rw [e9] at c4; revert c4; decide)
        have ec4 : p1 = (1 : Int32) := Int32.toInt_inj.mp (c4.trans (by decide))
        have h := z_t h ec4
        refine lv_fi (v := 1) ec4 ?_
        refine lv_tableIn (tgt := 70) hx hb dX9_of_28 (by decide) (by decide) rfl (by decide) ?_
        refine lv_aload_n hx hb dX9_of_70 rfl (lv_at hl 0 rfl) ?_
        refine fgX9_3 hx hb hts hown hK hw 0 rfl kw1179 dX9_of_71 ?_
        refine lv_bipush (v := 15) hx hb dX9_of_74 (by decide) ?_
        refine lv_iload_n hx hb dX9_of_76 rfl (lv_at hl 1 rfl) ?_
        refine lv_iadd hx hb dX9_of_77 ?_
        obtain ⟨g6, h⟩ := z_gd h
        refine faX9_3 hx hb hK hw 0 rfl rfl g6 dX9_of_78 ?_
        have hy := Option.some.inj h
        rw [← hQz, ← hy]
        exact xr_i (v := gA o1 3 ((15 : Int32) + p0).toNatClampNeg) hx hb hr rfl hlk hK hw dX9_of_79
      · skip
        have h := z_f h (fun e9 => by rw [e9] at c4; revert c4; decide)
        have h := z_f h (fun e9 => by rw [e9] at c4; revert c4; decide)
        have ec4 : p1 = (2 : Int32) := Int32.toInt_inj.mp (c4.trans (by decide))
        have h := z_t h ec4
        refine lv_fi (v := 2) ec4 ?_
        refine lv_tableIn (tgt := 80) hx hb dX9_of_28 (by decide) (by decide) rfl (by decide) ?_
        refine lv_aload_n hx hb dX9_of_80 rfl (lv_at hl 0 rfl) ?_
        refine fgX9_3 hx hb hts hown hK hw 0 rfl kw1179 dX9_of_81 ?_
        refine lv_bipush (v := 22) hx hb dX9_of_84 (by decide) ?_
        refine lv_iload_n hx hb dX9_of_86 rfl (lv_at hl 1 rfl) ?_
        refine lv_iadd hx hb dX9_of_87 ?_
        obtain ⟨g7, h⟩ := z_gd h
        refine faX9_3 hx hb hK hw 0 rfl rfl g7 dX9_of_88 ?_
        have hy := Option.some.inj h
        rw [← hQz, ← hy]
        exact xr_i (v := gA o1 3 ((22 : Int32) + p0).toNatClampNeg) hx hb hr rfl hlk hK hw dX9_of_89
      · skip
        have h := z_f h (fun e9 => by rw [e9] at c4; revert c4; decide)
        have h := z_f h (fun e9 => by rw [e9] at c4; revert c4; decide)
        have h := z_f h (fun e9 => by rw [e9] at c4; revert c4; decide)
        have ec4 : p1 = (3 : Int32) := Int32.toInt_inj.mp (c4.trans (by decide))
        have h := z_t h ec4
        refine lv_fi (v := 3) ec4 ?_
        refine lv_tableIn (tgt := 90) hx hb dX9_of_28 (by decide) (by decide) rfl (by decide) ?_
        refine lv_aload_n hx hb dX9_of_90 rfl (lv_at hl 0 rfl) ?_
        refine fgX9_3 hx hb hts hown hK hw 0 rfl kw1179 dX9_of_91 ?_
        refine lv_bipush (v := 29) hx hb dX9_of_94 (by decide) ?_
        refine lv_iload_n hx hb dX9_of_96 rfl (lv_at hl 1 rfl) ?_
        refine lv_iadd hx hb dX9_of_97 ?_
        obtain ⟨g8, h⟩ := z_gd h
        refine faX9_3 hx hb hK hw 0 rfl rfl g8 dX9_of_98 ?_
        have hy := Option.some.inj h
        rw [← hQz, ← hy]
        exact xr_i (v := gA o1 3 ((29 : Int32) + p0).toNatClampNeg) hx hb hr rfl hlk hK hw dX9_of_99
      · skip
        have h := z_f h (fun e9 => by rw [e9] at c4; revert c4; decide)
        have h := z_f h (fun e9 => by rw [e9] at c4; revert c4; decide)
        have h := z_f h (fun e9 => by rw [e9] at c4; revert c4; decide)
        have h := z_f h (fun e9 => by rw [e9] at c4; revert c4; decide)
        refine lv_tableOut (tgt := 100) hx hb dX9_of_28 c4 (by decide) ?_
        refine lv_iload_n hx hb dX9_of_100 rfl (lv_at hl 2 rfl) ?_
        refine lv_iconst (v := 4) hx hb dX9_of_101 (by decide) ?_
        refine lv_irem hx hb dX9_of_102 (by decide) ?_
        obtain ⟨x9, ex9, h⟩ := z_lt h
        refine lv_fi (v := x9) ex9.symm ?_
        refine lv_istore_n (lv' := [(3, .int x9), (0, .ref h_me), (1, .int p0), (2, .int p1)]) hx hb dX9_of_103 rfl hl (by decide) rfl (fun ls hl => ?_)
        refine lv_iload_n hx hb dX9_of_104 rfl (lv_at hl 3 rfl) ?_
        refine lv_bipush (v := 8) hx hb dX9_of_105 (by decide) ?_
        refine lv_icmp_ge (tgt := 126) hx hb dX9_of_107 (by decide) (fun c => ?_) (fun c => ?_)
        · have h := z_t h c
          refine lv_iload_n hx hb dX9_of_126 rfl (lv_at hl 3 rfl) ?_
          refine lv_bipush (v := 12) hx hb dX9_of_127 (by decide) ?_
          refine lv_icmp_ge (tgt := 141) hx hb dX9_of_129 (by decide) (fun c => ?_) (fun c => ?_)
          · have h := z_t h c
            refine lv_aload_n hx hb dX9_of_141 rfl (lv_at hl 1 rfl) ?_
            refine lv_iload_n hx hb dX9_of_142 rfl (lv_at hl 2 rfl) ?_
            refine lv_iload_n hx hb dX9_of_143 rfl (lv_at hl 0 rfl) ?_
            obtain ⟨z10, ez10, h⟩ := z_bd h
            refine xj_i (xrV (As := [.int p0, .int x9]) (rest := []) ⟨hx, hb, hml, hown, hts⟩ (m_X9_isBarred l dC dI _ h_me q_me k_me o1 p0 x9 z10 ez10) kw1437 kw1434 kw1436 kw48 kw120 hd_X9_isBarred ⟨rfl, rfl⟩ rfl rfl ⟨rfl, rfl⟩ hX hK hw [0] (by decide) rfl rfl rfl rfl rfl hl.1 rfl rfl dX9_of_144) hw hA [0] (by decide) rfl rfl (fun H locs hw => ?_)
            have hw : Wd dC dI A s.heap [wX9 h_me q_me k_me z10.2] H locs := hw
            refine lv_if_eq (tgt := 154) hx hb dX9_of_147 (by decide) (fun c => ?_) (fun c => ?_)
            · have h := z_t h c
              refine lv_iconst (v := 0) hx hb dX9_of_154 (by decide) ?_
              have hy := Option.some.inj h
              rw [← hQz, ← hy]
              exact xr_i (v := (0 : Int32)) hx hb hr rfl hlk hK hw dX9_of_155
            · have h := z_f h c
              refine lv_iconst (v := 1) hx hb dX9_of_150 (by decide) ?_
              refine lv_goto (tgt := 155) hx hb dX9_of_151 (by decide) ?_
              have hy := Option.some.inj h
              rw [← hQz, ← hy]
              exact xr_i (v := (1 : Int32)) hx hb hr rfl hlk hK hw dX9_of_155
          · have h := z_f h c
            refine lv_aload_n hx hb dX9_of_132 rfl (lv_at hl 1 rfl) ?_
            refine lv_iload_n hx hb dX9_of_133 rfl (lv_at hl 2 rfl) ?_
            refine lv_iload_n hx hb dX9_of_134 rfl (lv_at hl 0 rfl) ?_
            obtain ⟨z11, ez11, h⟩ := z_bd h
            refine xj_i (xrV (As := [.int p0, .int x9]) (rest := []) ⟨hx, hb, hml, hown, hts⟩ (m_X9_runsOf l dC dI _ h_me q_me k_me o1 p0 x9 z11 ez11) kw1411 kw1408 kw1410 kw43 kw120 hd_X9_runsOf ⟨rfl, rfl⟩ rfl rfl ⟨rfl, rfl⟩ hX hK hw [0] (by decide) rfl rfl rfl rfl rfl hl.1 rfl rfl dX9_of_135) hw hA [0] (by decide) rfl rfl (fun H locs hw => ?_)
            have hw : Wd dC dI A s.heap [wX9 h_me q_me k_me z11.2] H locs := hw
            refine lv_goto (tgt := 155) hx hb dX9_of_138 (by decide) ?_
            have hy := Option.some.inj h
            rw [← hQz, ← hy]
            exact xr_i (v := z11.1) hx hb hr rfl hlk hK hw dX9_of_155
        · have h := z_f h c
          refine lv_aload_n hx hb dX9_of_110 rfl (lv_at hl 1 rfl) ?_
          refine fgX9_3 hx hb hts hown hK hw 0 rfl kw1179 dX9_of_111 ?_
          refine lv_bipush (v := 36) hx hb dX9_of_114 (by decide) ?_
          refine lv_iconst (v := 4) hx hb dX9_of_116 (by decide) ?_
          refine lv_iload_n hx hb dX9_of_117 rfl (lv_at hl 2 rfl) ?_
          refine lv_imul hx hb dX9_of_118 ?_
          refine lv_iadd hx hb dX9_of_119 ?_
          refine lv_iload_n hx hb dX9_of_120 rfl (lv_at hl 0 rfl) ?_
          refine lv_iadd hx hb dX9_of_121 ?_
          obtain ⟨g12, h⟩ := z_gd h
          refine faX9_3 hx hb hK hw 0 rfl rfl g12 dX9_of_122 ?_
          refine lv_goto (tgt := 155) hx hb dX9_of_123 (by decide) ?_
          have hy := Option.some.inj h
          rw [← hQz, ← hy]
          exact xr_i (v := gA o1 3 (((36 : Int32) + ((4 : Int32) * p0)) + x9).toNatClampNeg) hx hb hr rfl hlk hK hw dX9_of_155
    · have h := z_t h c
      refine lv_iconst (v := (-1)) hx hb dX9_of_25 (by decide) ?_
      have hy := Option.some.inj h
      rw [← hQz, ← hy]
      exact xr_i (v := (-1 : Int32)) hx hb hr rfl hlk hK hw dX9_of_26

def f_X9_orderSum (o_me : Ob) (p0 : Int32) : Option (Int32 × Ob) :=
  if (gI o_me 59) = (0 : Int32) then
  (zgd (zin p0 96) <|
  zgd (zin (p0 + (1 : Int32)) 96) <|
  if (gA o_me 55 p0.toNatClampNeg) = (gA o_me 55 (p0 + (1 : Int32)).toNatClampNeg) then
  (some ((-1 : Int32), o_me))
  else
  (zlt (sI o_me 20 (1 : Int32)) fun o3 =>
  zgd (zin p0 96) <|
  zgd (zin (p0 + (1 : Int32)) 96) <|
  (f_X9_reckonAll o3 (gA o3 55 p0.toNatClampNeg) (gA o3 55 (p0 + (1 : Int32)).toNatClampNeg)).bind fun z6 =>
  zlt (sI z6 20 (0 : Int32)) fun o7 =>
  zgd (zbo (gI o7 38)) <|
  zlt (sI o7 59 (gI o7 38)) fun o9 =>
  some ((gL o9 39).toInt32, o9)))
  else
  (some ((-1 : Int32), o_me))
set_option maxHeartbeats 4000000 in
set_option maxRecDepth 100000 in
theorem m_X9_orderSum (l : Launch) (dC : Nat → ClassId) (dI : Nat → Nat → Nat) (sz : Nat) (h_me : Nat) (q_me : Nat → Nat) (k_me : Nat → ClassId) (o_me : Ob) (p0 : Int32) (y : Int32 × Ob) (h : f_X9_orderSum o_me p0 = some y) : CI l yX9_orderSum cX9_orderSum 2 (some .int) ({ frames := 3, cells := 0, slots := 0, locals := 72 } : Room) dC dI sz [.ref h_me, .int p0] [wX9 h_me q_me k_me o_me] [tX9 k_me] y.1 [wX9 h_me q_me k_me y.2] := by
  refine CC_of (by decide) (Nat.le_of_ble_eq_true rfl) ?_
  intro p e s m below meth c A ls hx hb hml hr hlk hnm hown hts hX hK hP hD hA hl
  have hl : lv_has ls 2 [(0, .ref h_me), (1, .int p0)] := hl
  have hown : s.vm.findClass RX9 = some m.cls := hown
  have hw : Wd dC dI A s.heap [wX9 h_me q_me k_me o_me] s.heap [] := ⟨hP, hD, va_S.rf⟩
  generalize hQz : (MQ below (QI dC dI (fun r (_ : Unit) => r = y.1) (fun _ => Jn [wX9 h_me q_me k_me y.2]) (fun _ => Jt [tX9 k_me]) A) ([.ref h_me, .int p0] : List Value).toArray s 0 0 A) = Qz
  clear hP hD hnm
  unfold f_X9_orderSum at h
  refine lv_aload_n hx hb dX9_orderSum_0 rfl (lv_at hl 0 rfl) ?_
  refine fgX9_59 hx hb hts hown hK hw 0 rfl kw1235 dX9_orderSum_1 ?_
  refine lv_if_ne (tgt := 24) hx hb dX9_orderSum_4 (by decide) (fun c => ?_) (fun c => ?_)
  · have h := z_f h c
    refine lv_iconst (v := (-1)) hx hb dX9_orderSum_24 (by decide) ?_
    have hy := Option.some.inj h
    rw [← hQz, ← hy]
    exact xr_i (v := (-1 : Int32)) hx hb hr rfl hlk hK hw dX9_orderSum_25
  · have h := z_t h c
    refine lv_aload_n hx hb dX9_orderSum_7 rfl (lv_at hl 0 rfl) ?_
    refine fgX9_55 hx hb hts hown hK hw 0 rfl kw1231 dX9_orderSum_8 ?_
    refine lv_iload_n hx hb dX9_orderSum_11 rfl (lv_at hl 1 rfl) ?_
    obtain ⟨g1, h⟩ := z_gd h
    refine faX9_55 hx hb hK hw 0 rfl rfl g1 dX9_orderSum_12 ?_
    refine lv_aload_n hx hb dX9_orderSum_13 rfl (lv_at hl 0 rfl) ?_
    refine fgX9_55 hx hb hts hown hK hw 0 rfl kw1231 dX9_orderSum_14 ?_
    refine lv_iload_n hx hb dX9_orderSum_17 rfl (lv_at hl 1 rfl) ?_
    refine lv_iconst (v := 1) hx hb dX9_orderSum_18 (by decide) ?_
    refine lv_iadd hx hb dX9_orderSum_19 ?_
    obtain ⟨g2, h⟩ := z_gd h
    refine faX9_55 hx hb hK hw 0 rfl rfl g2 dX9_orderSum_20 ?_
    refine lv_icmp_ne (tgt := 26) hx hb dX9_orderSum_21 (by decide) (fun c => ?_) (fun c => ?_)
    · have h := z_f h c
      refine lv_aload_n hx hb dX9_orderSum_26 rfl (lv_at hl 0 rfl) ?_
      refine lv_iconst (v := 1) hx hb dX9_orderSum_27 (by decide) ?_
      refine fpX9_20 hx hb hts hown hK hw 0 rfl kw1196 (by decide) dX9_orderSum_28 (fun H locs hw => ?_)
      obtain ⟨o3, eo3, h⟩ := z_lt h
      have hw : Wd dC dI A s.heap [wX9 h_me q_me k_me o3] H locs := by rw [eo3]; exact hw
      refine lv_aload_n hx hb dX9_orderSum_31 rfl (lv_at hl 0 rfl) ?_
      refine lv_aload_n hx hb dX9_orderSum_32 rfl (lv_at hl 0 rfl) ?_
      refine fgX9_55 hx hb hts hown hK hw 0 rfl kw1231 dX9_orderSum_33 ?_
      refine lv_iload_n hx hb dX9_orderSum_36 rfl (lv_at hl 1 rfl) ?_
      obtain ⟨g4, h⟩ := z_gd h
      refine faX9_55 hx hb hK hw 0 rfl rfl g4 dX9_orderSum_37 ?_
      refine lv_aload_n hx hb dX9_orderSum_38 rfl (lv_at hl 0 rfl) ?_
      refine fgX9_55 hx hb hts hown hK hw 0 rfl kw1231 dX9_orderSum_39 ?_
      refine lv_iload_n hx hb dX9_orderSum_42 rfl (lv_at hl 1 rfl) ?_
      refine lv_iconst (v := 1) hx hb dX9_orderSum_43 (by decide) ?_
      refine lv_iadd hx hb dX9_orderSum_44 ?_
      obtain ⟨g5, h⟩ := z_gd h
      refine faX9_55 hx hb hK hw 0 rfl rfl g5 dX9_orderSum_45 ?_
      obtain ⟨z6, ez6, h⟩ := z_bd h
      refine xj_v (xrV (As := [.int (gA o3 55 p0.toNatClampNeg), .int (gA o3 55 (p0 + (1 : Int32)).toNatClampNeg)]) (rest := []) ⟨hx, hb, hml, hown, hts⟩ (m_X9_reckonAll l dC dI _ h_me q_me k_me o3 (gA o3 55 p0.toNatClampNeg) (gA o3 55 (p0 + (1 : Int32)).toNatClampNeg) z6 ez6) kw1423 kw1420 kw1422 kw46 kw120 hd_X9_reckonAll ⟨rfl, rfl⟩ rfl rfl ⟨rfl, rfl⟩ hX hK hw [0] (by decide) rfl rfl rfl rfl rfl hl.1 rfl rfl dX9_orderSum_46) hw hA [0] (by decide) rfl rfl (fun H locs hw => ?_)
      have hw : Wd dC dI A s.heap [wX9 h_me q_me k_me z6] H locs := hw
      refine lv_aload_n hx hb dX9_orderSum_49 rfl (lv_at hl 0 rfl) ?_
      refine lv_iconst (v := 0) hx hb dX9_orderSum_50 (by decide) ?_
      refine fpX9_20 hx hb hts hown hK hw 0 rfl kw1196 (by decide) dX9_orderSum_51 (fun H locs hw => ?_)
      obtain ⟨o7, eo7, h⟩ := z_lt h
      have hw : Wd dC dI A s.heap [wX9 h_me q_me k_me o7] H locs := by rw [eo7]; exact hw
      refine lv_aload_n hx hb dX9_orderSum_54 rfl (lv_at hl 0 rfl) ?_
      refine lv_aload_n hx hb dX9_orderSum_55 rfl (lv_at hl 0 rfl) ?_
      refine fgX9_38 hx hb hts hown hK hw 0 rfl kw1214 dX9_orderSum_56 ?_
      obtain ⟨g8, h⟩ := z_gd h
      refine fpX9_59 hx hb hts hown hK hw 0 rfl kw1235 g8 dX9_orderSum_59 (fun H locs hw => ?_)
      obtain ⟨o9, eo9, h⟩ := z_lt h
      have hw : Wd dC dI A s.heap [wX9 h_me q_me k_me o9] H locs := by rw [eo9]; exact hw
      refine lv_aload_n hx hb dX9_orderSum_62 rfl (lv_at hl 0 rfl) ?_
      refine fgX9_39 hx hb hts hown hK hw 0 rfl kw1215 dX9_orderSum_63 ?_
      refine lv_l2i hx hb dX9_orderSum_66 rfl ?_
      have hy := Option.some.inj h
      rw [← hQz, ← hy]
      exact xr_i (v := (gL o9 39).toInt32) hx hb hr rfl hlk hK hw dX9_orderSum_67
    · have h := z_t h c
      refine lv_iconst (v := (-1)) hx hb dX9_orderSum_24 (by decide) ?_
      have hy := Option.some.inj h
      rw [← hQz, ← hy]
      exact xr_i (v := (-1 : Int32)) hx hb hr rfl hlk hK hw dX9_orderSum_25

def bk_X9_readSum_22   (v1 : Int32) (o_me : Ob) : Option (Ob) :=
  zgd (zin (v1 + (1 : Int32)) 96) <|
  zlt (tA o_me 55 (v1 + (1 : Int32)).toNatClampNeg (gI o_me 23)) fun o4 =>
  some o4
def f_X9_readSum (o_me : Ob) (p0 : Int32) : Option (Ob) :=
  zgd (zin p0 96) <|
  zlt (tA o_me 55 p0.toNatClampNeg (gI o_me 23)) fun o2 =>
  if (gI o2 19) = (0 : Int32) then
  ((f_X9_readExpression o2 (0 : Int32)).bind fun z5 =>
  bk_X9_readSum_22   p0 z5)
  else
  (bk_X9_readSum_22   p0 o2)
set_option maxHeartbeats 4000000 in
set_option maxRecDepth 100000 in
theorem m_X9_readSum (l : Launch) (dC : Nat → ClassId) (dI : Nat → Nat → Nat) (sz : Nat) (h_me : Nat) (q_me : Nat → Nat) (k_me : Nat → ClassId) (o_me : Ob) (p0 : Int32) (y : Ob) (h : f_X9_readSum o_me p0 = some y) : CV l yX9_readSum cX9_readSum 2 none ({ frames := 7, cells := 0, slots := 0, locals := 151 } : Room) dC dI sz [.ref h_me, .int p0] [wX9 h_me q_me k_me o_me] [tX9 k_me] [wX9 h_me q_me k_me y] := by
  refine CC_of (by decide) (Nat.le_of_ble_eq_true rfl) ?_
  intro p e s m below meth c A ls hx hb hml hr hlk hnm hown hts hX hK hP hD hA hl
  have hl : lv_has ls 2 [(0, .ref h_me), (1, .int p0)] := hl
  have hown : s.vm.findClass RX9 = some m.cls := hown
  have hw : Wd dC dI A s.heap [wX9 h_me q_me k_me o_me] s.heap [] := ⟨hP, hD, va_S.rf⟩
  generalize hQz : (MQ below (QV dC dI (fun (_ : Unit) => True) (fun _ => Jn [wX9 h_me q_me k_me y]) (fun _ => Jt [tX9 k_me]) A) ([.ref h_me, .int p0] : List Value).toArray s 0 0 A) = Qz
  clear hP hD hnm
  have bk_22_0 : ∀ (v1 : Int32) (o_me : Ob) (H : Heap) (locs : List Loc) (ls : Array Slot), bk_X9_readSum_22   v1 o_me = some y → Wd dC dI A s.heap [wX9 h_me q_me k_me o_me] H locs → lv_has ls 2 [(0, .ref h_me), (1, .int v1)] → W p l e ({ frames := 7, cells := 0, slots := 0, locals := 151 } : Room) s m ([.ref h_me, .int p0] : List Value).toArray below meth c H locs 0 0 Qz (F0 m 22 ls []) := by
    intro v1 o_me H locs ls h hw hl
    unfold bk_X9_readSum_22 at h
    refine lv_aload_n hx hb dX9_readSum_22 rfl (lv_at hl 0 rfl) ?_
    refine fgX9_55 hx hb hts hown hK hw 0 rfl kw1231 dX9_readSum_23 ?_
    refine lv_iload_n hx hb dX9_readSum_26 rfl (lv_at hl 1 rfl) ?_
    refine lv_iconst (v := 1) hx hb dX9_readSum_27 (by decide) ?_
    refine lv_iadd hx hb dX9_readSum_28 ?_
    refine lv_aload_n hx hb dX9_readSum_29 rfl (lv_at hl 0 rfl) ?_
    refine fgX9_23 hx hb hts hown hK hw 0 rfl kw1199 dX9_readSum_30 ?_
    obtain ⟨g3, h⟩ := z_gd h
    refine fbX9_55 hx hb hK hw 0 rfl rfl g3 dX9_readSum_33 (fun H locs hw => ?_)
    obtain ⟨o4, eo4, h⟩ := z_lt h
    have hw : Wd dC dI A s.heap [wX9 h_me q_me k_me o4] H locs := by rw [eo4]; exact hw
    have hy := Option.some.inj h
    rw [← hQz, ← hy]
    exact xr_v hx hb hr hlk hK hw dX9_readSum_34
  unfold f_X9_readSum at h
  refine lv_aload_n hx hb dX9_readSum_0 rfl (lv_at hl 0 rfl) ?_
  refine fgX9_55 hx hb hts hown hK hw 0 rfl kw1231 dX9_readSum_1 ?_
  refine lv_iload_n hx hb dX9_readSum_4 rfl (lv_at hl 1 rfl) ?_
  refine lv_aload_n hx hb dX9_readSum_5 rfl (lv_at hl 0 rfl) ?_
  refine fgX9_23 hx hb hts hown hK hw 0 rfl kw1199 dX9_readSum_6 ?_
  obtain ⟨g1, h⟩ := z_gd h
  refine fbX9_55 hx hb hK hw 0 rfl rfl g1 dX9_readSum_9 (fun H locs hw => ?_)
  obtain ⟨o2, eo2, h⟩ := z_lt h
  have hw : Wd dC dI A s.heap [wX9 h_me q_me k_me o2] H locs := by rw [eo2]; exact hw
  refine lv_aload_n hx hb dX9_readSum_10 rfl (lv_at hl 0 rfl) ?_
  refine fgX9_19 hx hb hts hown hK hw 0 rfl kw1195 dX9_readSum_11 ?_
  refine lv_if_ne (tgt := 22) hx hb dX9_readSum_14 (by decide) (fun c => ?_) (fun c => ?_)
  · have h := z_f h c
    exact bk_22_0  p0 o2 _ _ _ h hw (lv_sub hl [0, 1] rfl)
  · have h := z_t h c
    refine lv_aload_n hx hb dX9_readSum_17 rfl (lv_at hl 0 rfl) ?_
    refine lv_iconst (v := 0) hx hb dX9_readSum_18 (by decide) ?_
    obtain ⟨z5, ez5, h⟩ := z_bd h
    refine xj_v (xrV (As := [.int (0 : Int32)]) (rest := []) ⟨hx, hb, hml, hown, hts⟩ (m_X9_readExpression l dC dI _ h_me q_me k_me o2 (0 : Int32) z5 ez5) kw1538 kw1535 kw1537 kw59 kw120 hd_X9_readExpression ⟨rfl, rfl⟩ rfl rfl ⟨rfl, rfl⟩ hX hK hw [0] (by decide) rfl rfl rfl rfl rfl hl.1 rfl rfl dX9_readSum_19) hw hA [0] (by decide) rfl rfl (fun H locs hw => ?_)
    have hw : Wd dC dI A s.heap [wX9 h_me q_me k_me z5] H locs := hw
    exact bk_22_0  p0 z5 _ _ _ h hw (lv_sub hl [0, 1] rfl)

def bk_X9_readOrder_211   (v2 : Int32) (o_me : Ob) : Option (Ob) :=
  zgd (zin (v2 + (6 : Int32)) 96) <|
  zlt (tA o_me 55 (v2 + (6 : Int32)).toNatClampNeg (gI o_me 23)) fun o11 =>
  some o11
def bk_X9_readOrder_173   (v2 : Int32) (o_me : Ob) : Option (Ob) :=
  zgd (zin (v2 + (5 : Int32)) 96) <|
  zlt (tA o_me 55 (v2 + (5 : Int32)).toNatClampNeg (gI o_me 23)) fun o9 =>
  if (gI o9 19) = (0 : Int32) then
  ((f_X9_isWord o9 (294 : Int64)).bind fun z12 =>
  if z12 = (0 : Int32) then
  (bk_X9_readOrder_211   v2 o9)
  else
  ((f_X9_next o9).bind fun z13 =>
  (f_X9_readExpression z13 (1 : Int32)).bind fun z14 =>
  bk_X9_readOrder_211   v2 z14))
  else
  (bk_X9_readOrder_211   v2 o9)
def bk_X9_readOrder_125   (v2 : Int32) (o_me : Ob) : Option (Ob) :=
  zgd (zin (v2 + (7 : Int32)) 96) <|
  zlt (tA o_me 55 (v2 + (7 : Int32)).toNatClampNeg (1 : Int32)) fun o7 =>
  if (gI o7 19) = (0 : Int32) then
  ((f_X9_isWord o7 (21279923 : Int64)).bind fun z15 =>
  if z15 = (0 : Int32) then
  (bk_X9_readOrder_173   v2 o7)
  else
  ((f_X9_next o7).bind fun z16 =>
  (f_X9_number z16 (1 : Int64) (20 : Int64)).bind fun z17 =>
  zgd (zin (v2 + (7 : Int32)) 96) <|
  zlt (tA z17.2 55 (v2 + (7 : Int32)).toNatClampNeg z17.1) fun o19 =>
  bk_X9_readOrder_173   v2 o19))
  else
  (bk_X9_readOrder_173   v2 o7)
def lb_X9_readOrder_85   (rec_85_3 : Int32 × Int32 × Int32 × Ob → Option (Ob)) (v1 : Int32) (v2 : Int32) (v3 : Int32) (o_me : Ob) : Option (Ob) :=
  if (8 : Int32) ≤ v3 then
  (zgd (zin v2 96) <|
  zlt (tA o_me 55 v2.toNatClampNeg v1) fun o5 =>
  if v1 = (3 : Int32) then
  (bk_X9_readOrder_125   v2 o5)
  else
  ((f_X9_readSum o5 (v2 + (1 : Int32))).bind fun z20 =>
  bk_X9_readOrder_125   v2 z20))
  else
  (zgd (zin (v2 + v3) 96) <|
  zlt (tA o_me 55 (v2 + v3).toNatClampNeg (0 : Int32)) fun o22 =>
  zlt (v3 + (1 : Int32)) fun x23 =>
  rec_85_3 (v1, v2, x23, o22))
def lp_X9_readOrder_85   : Nat → (Int32 × Int32 × Int32 × Ob) → Option (Ob) := zit (fun rec a => lb_X9_readOrder_85   rec a.1 a.2.1 a.2.2.1 a.2.2.2)
def bk_X9_readOrder_54   (v1 : Int32) (s0 : Int32) (o_me : Ob) : Option (Ob) :=
  (f_X9_must o_me s0).bind fun z1 =>
  if (gI z1 19) = (0 : Int32) then
  (zlt ((8 : Int32) * (gI z1 21)) fun x2 =>
  zlt (sI z1 21 ((gI z1 21) + (1 : Int32))) fun o3 =>
  lp_X9_readOrder_85   zfu (v1, x2, (0 : Int32), o3))
  else
  (some z1)
def bk_X9_readOrder_53   (v1 : Int32) (o_me : Ob) : Option (Ob) :=
  bk_X9_readOrder_54   v1 (0 : Int32) o_me
def bk_X9_readOrder_27  (rec_4_0 : Int32 × Int32 × Ob → Option (Ob)) (v2 : Int32) (s0 : Int32) (o_me : Ob) : Option (Ob) :=
  zlt (v2 + (1 : Int32)) fun x26 =>
  rec_4_0 (s0, x26, o_me)
def lb_X9_readOrder_4   (rec_4_0 : Int32 × Int32 × Ob → Option (Ob)) (v1 : Int32) (v2 : Int32) (o_me : Ob) : Option (Ob) :=
  if (4 : Int32) ≤ v2 then
  (if v1 = (-1 : Int32) then
  (bk_X9_readOrder_53   v1 o_me)
  else
  (if (12 : Int32) ≤ (gI o_me 21) then
  (bk_X9_readOrder_53   v1 o_me)
  else
  (bk_X9_readOrder_54   v1 (1 : Int32) o_me)))
  else
  (zgd (zin v2 4) <|
  (f_X9_isWord o_me (gM o_me 54 v2.toNatClampNeg)).bind fun z25 =>
  if z25 = (0 : Int32) then
  (bk_X9_readOrder_27  rec_4_0 v2 v1 o_me)
  else
  (bk_X9_readOrder_27  rec_4_0 v2 v2 o_me))
def lp_X9_readOrder_4   : Nat → (Int32 × Int32 × Ob) → Option (Ob) := zit (fun rec a => lb_X9_readOrder_4   rec a.1 a.2.1 a.2.2)
def f_X9_readOrder (o_me : Ob) : Option (Ob) :=
  lp_X9_readOrder_4   zfu ((-1 : Int32), (0 : Int32), o_me)
set_option maxHeartbeats 4000000 in
set_option maxRecDepth 100000 in
theorem m_X9_readOrder (l : Launch) (dC : Nat → ClassId) (dI : Nat → Nat → Nat) (sz : Nat) (h_me : Nat) (q_me : Nat → Nat) (k_me : Nat → ClassId) (o_me : Ob) (y : Ob) (h : f_X9_readOrder o_me = some y) : CV l yX9_readOrder cX9_readOrder 4 none ({ frames := 8, cells := 0, slots := 0, locals := 172 } : Room) dC dI sz [.ref h_me] [wX9 h_me q_me k_me o_me] [tX9 k_me] [wX9 h_me q_me k_me y] := by
  refine CC_of (by decide) (Nat.le_of_ble_eq_true rfl) ?_
  intro p e s m below meth c A ls hx hb hml hr hlk hnm hown hts hX hK hP hD hA hl
  have hl : lv_has ls 4 [(0, .ref h_me)] := hl
  have hown : s.vm.findClass RX9 = some m.cls := hown
  have hw : Wd dC dI A s.heap [wX9 h_me q_me k_me o_me] s.heap [] := ⟨hP, hD, va_S.rf⟩
  generalize hQz : (MQ below (QV dC dI (fun (_ : Unit) => True) (fun _ => Jn [wX9 h_me q_me k_me y]) (fun _ => Jt [tX9 k_me]) A) ([.ref h_me] : List Value).toArray s 0 0 A) = Qz
  clear hP hD hnm
  have bk_211_6 : ∀ (v2 : Int32) (o_me : Ob) (H : Heap) (locs : List Loc) (ls : Array Slot), bk_X9_readOrder_211   v2 o_me = some y → Wd dC dI A s.heap [wX9 h_me q_me k_me o_me] H locs → lv_has ls 4 [(0, .ref h_me), (2, .int v2)] → W p l e ({ frames := 8, cells := 0, slots := 0, locals := 172 } : Room) s m ([.ref h_me] : List Value).toArray below meth c H locs 0 0 Qz (F0 m 211 ls []) := by
    intro v2 o_me H locs ls h hw hl
    unfold bk_X9_readOrder_211 at h
    refine lv_aload_n hx hb dX9_readOrder_211 rfl (lv_at hl 0 rfl) ?_
    refine fgX9_55 hx hb hts hown hK hw 0 rfl kw1231 dX9_readOrder_212 ?_
    refine lv_iload_n hx hb dX9_readOrder_215 rfl (lv_at hl 1 rfl) ?_
    refine lv_bipush (v := 6) hx hb dX9_readOrder_216 (by decide) ?_
    refine lv_iadd hx hb dX9_readOrder_218 ?_
    refine lv_aload_n hx hb dX9_readOrder_219 rfl (lv_at hl 0 rfl) ?_
    refine fgX9_23 hx hb hts hown hK hw 0 rfl kw1199 dX9_readOrder_220 ?_
    obtain ⟨g10, h⟩ := z_gd h
    refine fbX9_55 hx hb hK hw 0 rfl rfl g10 dX9_readOrder_223 (fun H locs hw => ?_)
    obtain ⟨o11, eo11, h⟩ := z_lt h
    have hw : Wd dC dI A s.heap [wX9 h_me q_me k_me o11] H locs := by rw [eo11]; exact hw
    have hy := Option.some.inj h
    rw [← hQz, ← hy]
    exact xr_v hx hb hr hlk hK hw dX9_readOrder_224
  have bk_173_5 : ∀ (v2 : Int32) (o_me : Ob) (H : Heap) (locs : List Loc) (ls : Array Slot), bk_X9_readOrder_173   v2 o_me = some y → Wd dC dI A s.heap [wX9 h_me q_me k_me o_me] H locs → lv_has ls 4 [(0, .ref h_me), (2, .int v2)] → W p l e ({ frames := 8, cells := 0, slots := 0, locals := 172 } : Room) s m ([.ref h_me] : List Value).toArray below meth c H locs 0 0 Qz (F0 m 173 ls []) := by
    intro v2 o_me H locs ls h hw hl
    unfold bk_X9_readOrder_173 at h
    refine lv_aload_n hx hb dX9_readOrder_173 rfl (lv_at hl 0 rfl) ?_
    refine fgX9_55 hx hb hts hown hK hw 0 rfl kw1231 dX9_readOrder_174 ?_
    refine lv_iload_n hx hb dX9_readOrder_177 rfl (lv_at hl 1 rfl) ?_
    refine lv_iconst (v := 5) hx hb dX9_readOrder_178 (by decide) ?_
    refine lv_iadd hx hb dX9_readOrder_179 ?_
    refine lv_aload_n hx hb dX9_readOrder_180 rfl (lv_at hl 0 rfl) ?_
    refine fgX9_23 hx hb hts hown hK hw 0 rfl kw1199 dX9_readOrder_181 ?_
    obtain ⟨g8, h⟩ := z_gd h
    refine fbX9_55 hx hb hK hw 0 rfl rfl g8 dX9_readOrder_184 (fun H locs hw => ?_)
    obtain ⟨o9, eo9, h⟩ := z_lt h
    have hw : Wd dC dI A s.heap [wX9 h_me q_me k_me o9] H locs := by rw [eo9]; exact hw
    refine lv_aload_n hx hb dX9_readOrder_185 rfl (lv_at hl 0 rfl) ?_
    refine fgX9_19 hx hb hts hown hK hw 0 rfl kw1195 dX9_readOrder_186 ?_
    refine lv_if_ne (tgt := 211) hx hb dX9_readOrder_189 (by decide) (fun c => ?_) (fun c => ?_)
    · have h := z_f h c
      exact bk_211_6  v2 o9 _ _ _ h hw (lv_sub hl [0, 1] rfl)
    · have h := z_t h c
      refine lv_aload_n hx hb dX9_readOrder_192 rfl (lv_at hl 0 rfl) ?_
      refine lv_ldc2 (v := 294) hx hb hown (hts _ kw1611) dX9_readOrder_193 ?_
      obtain ⟨z12, ez12, h⟩ := z_bd h
      refine xj_i (xrV (As := [.long (294 : Int64)]) (rest := []) ⟨hx, hb, hml, hown, hts⟩ (m_X9_isWord l dC dI _ h_me q_me k_me o9 (294 : Int64) z12 ez12) kw1530 kw1527 kw1529 kw57 kw120 hd_X9_isWord ⟨rfl, rfl⟩ rfl rfl ⟨rfl, rfl⟩ hX hK hw [0] (by decide) rfl rfl rfl rfl rfl hl.1 rfl rfl dX9_readOrder_196) hw hA [0] (by decide) rfl rfl (fun H locs hw => ?_)
      have hw : Wd dC dI A s.heap [wX9 h_me q_me k_me o9] H locs := hw
      refine lv_if_eq (tgt := 211) hx hb dX9_readOrder_199 (by decide) (fun c => ?_) (fun c => ?_)
      · have h := z_t h c
        exact bk_211_6  v2 o9 _ _ _ h hw (lv_sub hl [0, 1] rfl)
      · have h := z_f h c
        refine lv_aload_n hx hb dX9_readOrder_202 rfl (lv_at hl 0 rfl) ?_
        obtain ⟨z13, ez13, h⟩ := z_bd h
        refine xj_v (xrV (As := []) (rest := []) ⟨hx, hb, hml, hown, hts⟩ (m_X9_next l dC dI _ h_me q_me k_me o9 z13 ez13) kw1512 kw1509 kw1511 kw55 kw120 hd_X9_next ⟨rfl, rfl⟩ rfl rfl ⟨rfl, rfl⟩ hX hK hw [0] (by decide) rfl rfl rfl rfl rfl hl.1 rfl rfl dX9_readOrder_203) hw hA [0] (by decide) rfl rfl (fun H locs hw => ?_)
        have hw : Wd dC dI A s.heap [wX9 h_me q_me k_me z13] H locs := hw
        refine lv_aload_n hx hb dX9_readOrder_206 rfl (lv_at hl 0 rfl) ?_
        refine lv_iconst (v := 1) hx hb dX9_readOrder_207 (by decide) ?_
        obtain ⟨z14, ez14, h⟩ := z_bd h
        refine xj_v (xrV (As := [.int (1 : Int32)]) (rest := []) ⟨hx, hb, hml, hown, hts⟩ (m_X9_readExpression l dC dI _ h_me q_me k_me z13 (1 : Int32) z14 ez14) kw1538 kw1535 kw1537 kw59 kw120 hd_X9_readExpression ⟨rfl, rfl⟩ rfl rfl ⟨rfl, rfl⟩ hX hK hw [0] (by decide) rfl rfl rfl rfl rfl hl.1 rfl rfl dX9_readOrder_208) hw hA [0] (by decide) rfl rfl (fun H locs hw => ?_)
        have hw : Wd dC dI A s.heap [wX9 h_me q_me k_me z14] H locs := hw
        exact bk_211_6  v2 z14 _ _ _ h hw (lv_sub hl [0, 1] rfl)
  have bk_125_4 : ∀ (v2 : Int32) (o_me : Ob) (H : Heap) (locs : List Loc) (ls : Array Slot), bk_X9_readOrder_125   v2 o_me = some y → Wd dC dI A s.heap [wX9 h_me q_me k_me o_me] H locs → lv_has ls 4 [(0, .ref h_me), (2, .int v2)] → W p l e ({ frames := 8, cells := 0, slots := 0, locals := 172 } : Room) s m ([.ref h_me] : List Value).toArray below meth c H locs 0 0 Qz (F0 m 125 ls []) := by
    intro v2 o_me H locs ls h hw hl
    unfold bk_X9_readOrder_125 at h
    refine lv_aload_n hx hb dX9_readOrder_125 rfl (lv_at hl 0 rfl) ?_
    refine fgX9_55 hx hb hts hown hK hw 0 rfl kw1231 dX9_readOrder_126 ?_
    refine lv_iload_n hx hb dX9_readOrder_129 rfl (lv_at hl 1 rfl) ?_
    refine lv_bipush (v := 7) hx hb dX9_readOrder_130 (by decide) ?_
    refine lv_iadd hx hb dX9_readOrder_132 ?_
    refine lv_iconst (v := 1) hx hb dX9_readOrder_133 (by decide) ?_
    obtain ⟨g6, h⟩ := z_gd h
    refine fbX9_55 hx hb hK hw 0 rfl rfl g6 dX9_readOrder_134 (fun H locs hw => ?_)
    obtain ⟨o7, eo7, h⟩ := z_lt h
    have hw : Wd dC dI A s.heap [wX9 h_me q_me k_me o7] H locs := by rw [eo7]; exact hw
    refine lv_aload_n hx hb dX9_readOrder_135 rfl (lv_at hl 0 rfl) ?_
    refine fgX9_19 hx hb hts hown hK hw 0 rfl kw1195 dX9_readOrder_136 ?_
    refine lv_if_ne (tgt := 173) hx hb dX9_readOrder_139 (by decide) (fun c => ?_) (fun c => ?_)
    · have h := z_f h c
      exact bk_173_5  v2 o7 _ _ _ h hw (lv_sub hl [0, 1] rfl)
    · have h := z_t h c
      refine lv_aload_n hx hb dX9_readOrder_142 rfl (lv_at hl 0 rfl) ?_
      refine lv_ldc2 (v := 21279923) hx hb hown (hts _ kw1808) dX9_readOrder_143 ?_
      obtain ⟨z15, ez15, h⟩ := z_bd h
      refine xj_i (xrV (As := [.long (21279923 : Int64)]) (rest := []) ⟨hx, hb, hml, hown, hts⟩ (m_X9_isWord l dC dI _ h_me q_me k_me o7 (21279923 : Int64) z15 ez15) kw1530 kw1527 kw1529 kw57 kw120 hd_X9_isWord ⟨rfl, rfl⟩ rfl rfl ⟨rfl, rfl⟩ hX hK hw [0] (by decide) rfl rfl rfl rfl rfl hl.1 rfl rfl dX9_readOrder_146) hw hA [0] (by decide) rfl rfl (fun H locs hw => ?_)
      have hw : Wd dC dI A s.heap [wX9 h_me q_me k_me o7] H locs := hw
      refine lv_if_eq (tgt := 173) hx hb dX9_readOrder_149 (by decide) (fun c => ?_) (fun c => ?_)
      · have h := z_t h c
        exact bk_173_5  v2 o7 _ _ _ h hw (lv_sub hl [0, 1] rfl)
      · have h := z_f h c
        refine lv_aload_n hx hb dX9_readOrder_152 rfl (lv_at hl 0 rfl) ?_
        obtain ⟨z16, ez16, h⟩ := z_bd h
        refine xj_v (xrV (As := []) (rest := []) ⟨hx, hb, hml, hown, hts⟩ (m_X9_next l dC dI _ h_me q_me k_me o7 z16 ez16) kw1512 kw1509 kw1511 kw55 kw120 hd_X9_next ⟨rfl, rfl⟩ rfl rfl ⟨rfl, rfl⟩ hX hK hw [0] (by decide) rfl rfl rfl rfl rfl hl.1 rfl rfl dX9_readOrder_153) hw hA [0] (by decide) rfl rfl (fun H locs hw => ?_)
        have hw : Wd dC dI A s.heap [wX9 h_me q_me k_me z16] H locs := hw
        refine lv_aload_n hx hb dX9_readOrder_156 rfl (lv_at hl 0 rfl) ?_
        refine fgX9_55 hx hb hts hown hK hw 0 rfl kw1231 dX9_readOrder_157 ?_
        refine lv_iload_n hx hb dX9_readOrder_160 rfl (lv_at hl 1 rfl) ?_
        refine lv_bipush (v := 7) hx hb dX9_readOrder_161 (by decide) ?_
        refine lv_iadd hx hb dX9_readOrder_163 ?_
        refine lv_aload_n hx hb dX9_readOrder_164 rfl (lv_at hl 0 rfl) ?_
        refine lv_lconst (v := 1) hx hb dX9_readOrder_165 (by decide) ?_
        refine lv_ldc2 (v := 20) hx hb hown (hts _ kw1601) dX9_readOrder_166 ?_
        obtain ⟨z17, ez17, h⟩ := z_bd h
        refine xj_i (xrV (As := [.long (1 : Int64), .long (20 : Int64)]) (rest := [.int (v2 + (7 : Int32)), .ref (q_me 55)]) ⟨hx, hb, hml, hown, hts⟩ (m_X9_number l dC dI _ h_me q_me k_me z16 (1 : Int64) (20 : Int64) z17 ez17) kw1581 kw1578 kw1580 kw69 kw120 hd_X9_number ⟨rfl, rfl⟩ rfl rfl ⟨rfl, rfl⟩ hX hK hw [0] (by decide) rfl rfl rfl rfl rfl hl.1 rfl rfl dX9_readOrder_169) hw hA [0] (by decide) rfl rfl (fun H locs hw => ?_)
        have hw : Wd dC dI A s.heap [wX9 h_me q_me k_me z17.2] H locs := hw
        obtain ⟨g18, h⟩ := z_gd h
        refine fbX9_55 hx hb hK hw 0 rfl rfl g18 dX9_readOrder_172 (fun H locs hw => ?_)
        obtain ⟨o19, eo19, h⟩ := z_lt h
        have hw : Wd dC dI A s.heap [wX9 h_me q_me k_me o19] H locs := by rw [eo19]; exact hw
        exact bk_173_5  v2 o19 _ _ _ h hw (lv_sub hl [0, 1] rfl)
  have lp_85_3 : ∀ (N : Nat), ∀ (v1 : Int32) (v2 : Int32) (v3 : Int32) (o_me : Ob) (H : Heap) (locs : List Loc) (ls : Array Slot), lp_X9_readOrder_85   N (v1, v2, v3, o_me) = some y → Wd dC dI A s.heap [wX9 h_me q_me k_me o_me] H locs → lv_has ls 4 [(0, .ref h_me), (1, .int v1), (2, .int v2), (3, .int v3)] → W p l e ({ frames := 8, cells := 0, slots := 0, locals := 172 } : Room) s m ([.ref h_me] : List Value).toArray below meth c H locs 0 0 Qz (F0 m 85 ls []) := by
    intro N
    induction N with
    | zero =>
      intro v1 v2 v3 o_me H locs ls h hw hl
      exact absurd (show (none : Option (Ob)) = some y from h) (by simp)
    | succ N ih =>
      intro v1 v2 v3 o_me H locs ls h hw hl
      have h : lb_X9_readOrder_85   (lp_X9_readOrder_85   N) v1 v2 v3 o_me = some y := h
      unfold lb_X9_readOrder_85 at h
      refine lv_iload_n hx hb dX9_readOrder_85 rfl (lv_at hl 3 rfl) ?_
      refine lv_bipush (v := 8) hx hb dX9_readOrder_86 (by decide) ?_
      refine lv_icmp_ge (tgt := 106) hx hb dX9_readOrder_88 (by decide) (fun c => ?_) (fun c => ?_)
      · have h := z_t h c
        refine lv_aload_n hx hb dX9_readOrder_106 rfl (lv_at hl 0 rfl) ?_
        refine fgX9_55 hx hb hts hown hK hw 0 rfl kw1231 dX9_readOrder_107 ?_
        refine lv_iload_n hx hb dX9_readOrder_110 rfl (lv_at hl 2 rfl) ?_
        refine lv_iload_n hx hb dX9_readOrder_111 rfl (lv_at hl 1 rfl) ?_
        obtain ⟨g4, h⟩ := z_gd h
        refine fbX9_55 hx hb hK hw 0 rfl rfl g4 dX9_readOrder_112 (fun H locs hw => ?_)
        obtain ⟨o5, eo5, h⟩ := z_lt h
        have hw : Wd dC dI A s.heap [wX9 h_me q_me k_me o5] H locs := by rw [eo5]; exact hw
        refine lv_iload_n hx hb dX9_readOrder_113 rfl (lv_at hl 1 rfl) ?_
        refine lv_iconst (v := 3) hx hb dX9_readOrder_114 (by decide) ?_
        refine lv_icmp_eq (tgt := 125) hx hb dX9_readOrder_115 (by decide) (fun c => ?_) (fun c => ?_)
        · have h := z_t h c
          exact bk_125_4  v2 o5 _ _ _ h hw (lv_sub hl [0, 2] rfl)
        · have h := z_f h c
          refine lv_aload_n hx hb dX9_readOrder_118 rfl (lv_at hl 0 rfl) ?_
          refine lv_iload_n hx hb dX9_readOrder_119 rfl (lv_at hl 2 rfl) ?_
          refine lv_iconst (v := 1) hx hb dX9_readOrder_120 (by decide) ?_
          refine lv_iadd hx hb dX9_readOrder_121 ?_
          obtain ⟨z20, ez20, h⟩ := z_bd h
          refine xj_v (xrV (As := [.int (v2 + (1 : Int32))]) (rest := []) ⟨hx, hb, hml, hown, hts⟩ (m_X9_readSum l dC dI _ h_me q_me k_me o5 (v2 + (1 : Int32)) z20 ez20) kw1807 kw1804 kw1806 kw101 kw120 hd_X9_readSum ⟨rfl, rfl⟩ rfl rfl ⟨rfl, rfl⟩ hX hK hw [0] (by decide) rfl rfl rfl rfl rfl hl.1 rfl rfl dX9_readOrder_122) hw hA [0] (by decide) rfl rfl (fun H locs hw => ?_)
          have hw : Wd dC dI A s.heap [wX9 h_me q_me k_me z20] H locs := hw
          exact bk_125_4  v2 z20 _ _ _ h hw (lv_sub hl [0, 2] rfl)
      · have h := z_f h c
        refine lv_aload_n hx hb dX9_readOrder_91 rfl (lv_at hl 0 rfl) ?_
        refine fgX9_55 hx hb hts hown hK hw 0 rfl kw1231 dX9_readOrder_92 ?_
        refine lv_iload_n hx hb dX9_readOrder_95 rfl (lv_at hl 2 rfl) ?_
        refine lv_iload_n hx hb dX9_readOrder_96 rfl (lv_at hl 3 rfl) ?_
        refine lv_iadd hx hb dX9_readOrder_97 ?_
        refine lv_iconst (v := 0) hx hb dX9_readOrder_98 (by decide) ?_
        obtain ⟨g21, h⟩ := z_gd h
        refine fbX9_55 hx hb hK hw 0 rfl rfl g21 dX9_readOrder_99 (fun H locs hw => ?_)
        obtain ⟨o22, eo22, h⟩ := z_lt h
        have hw : Wd dC dI A s.heap [wX9 h_me q_me k_me o22] H locs := by rw [eo22]; exact hw
        obtain ⟨x23, ex23, h⟩ := z_lt h
        refine lv_iinc (v := x23) (lv' := [(3, .int x23), (0, .ref h_me), (1, .int v1), (2, .int v2)]) hx hb dX9_readOrder_100 hl (k := 3) rfl ((congrArg (v3 + ·) (show Int32.ofInt 1 = (1 : Int32) from by decide)).trans ex23.symm) (by decide) rfl (fun ls hl => ?_)
        refine lv_goto (tgt := 85) hx hb dX9_readOrder_103 (by decide) ?_
        exact ih v1 v2 x23 o22 _ _ _ h hw (lv_sub hl [1, 2, 3, 0] rfl)
  have bk_54_2 : ∀ (v1 : Int32) (s0 : Int32) (o_me : Ob) (H : Heap) (locs : List Loc) (ls : Array Slot), bk_X9_readOrder_54   v1 s0 o_me = some y → Wd dC dI A s.heap [wX9 h_me q_me k_me o_me] H locs → lv_has ls 4 [(0, .ref h_me), (1, .int v1)] → W p l e ({ frames := 8, cells := 0, slots := 0, locals := 172 } : Room) s m ([.ref h_me] : List Value).toArray below meth c H locs 0 0 Qz (F0 m 54 ls [.int s0, .ref h_me]) := by
    intro v1 s0 o_me H locs ls h hw hl
    unfold bk_X9_readOrder_54 at h
    obtain ⟨z1, ez1, h⟩ := z_bd h
    refine xj_v (xrV (As := [.int s0]) (rest := []) ⟨hx, hb, hml, hown, hts⟩ (m_X9_must l dC dI _ h_me q_me k_me o_me s0 z1 ez1) kw1534 kw1531 kw1533 kw58 kw120 hd_X9_must ⟨rfl, rfl⟩ rfl rfl ⟨rfl, rfl⟩ hX hK hw [0] (by decide) rfl rfl rfl rfl rfl hl.1 rfl rfl dX9_readOrder_54) hw hA [0] (by decide) rfl rfl (fun H locs hw => ?_)
    have hw : Wd dC dI A s.heap [wX9 h_me q_me k_me z1] H locs := hw
    refine lv_aload_n hx hb dX9_readOrder_57 rfl (lv_at hl 0 rfl) ?_
    refine fgX9_19 hx hb hts hown hK hw 0 rfl kw1195 dX9_readOrder_58 ?_
    refine lv_if_eq (tgt := 65) hx hb dX9_readOrder_61 (by decide) (fun c => ?_) (fun c => ?_)
    · have h := z_t h c
      refine lv_bipush (v := 8) hx hb dX9_readOrder_65 (by decide) ?_
      refine lv_aload_n hx hb dX9_readOrder_67 rfl (lv_at hl 0 rfl) ?_
      refine fgX9_21 hx hb hts hown hK hw 0 rfl kw1197 dX9_readOrder_68 ?_
      refine lv_imul hx hb dX9_readOrder_71 ?_
      obtain ⟨x2, ex2, h⟩ := z_lt h
      refine lv_fi (v := x2) ex2.symm ?_
      refine lv_istore_n (lv' := [(2, .int x2), (0, .ref h_me), (1, .int v1)]) hx hb dX9_readOrder_72 rfl hl (by decide) rfl (fun ls hl => ?_)
      refine lv_aload_n hx hb dX9_readOrder_73 rfl (lv_at hl 1 rfl) ?_
      refine lv_dup hx hb dX9_readOrder_74 rfl ?_
      refine fgX9_21 hx hb hts hown hK hw 0 rfl kw1197 dX9_readOrder_75 ?_
      refine lv_iconst (v := 1) hx hb dX9_readOrder_78 (by decide) ?_
      refine lv_iadd hx hb dX9_readOrder_79 ?_
      refine fpX9_21 hx hb hts hown hK hw 0 rfl kw1197 dX9_readOrder_80 (fun H locs hw => ?_)
      obtain ⟨o3, eo3, h⟩ := z_lt h
      have hw : Wd dC dI A s.heap [wX9 h_me q_me k_me o3] H locs := by rw [eo3]; exact hw
      refine lv_iconst (v := 0) hx hb dX9_readOrder_83 (by decide) ?_
      refine lv_istore_n (lv' := [(3, .int (0 : Int32)), (2, .int x2), (0, .ref h_me), (1, .int v1)]) hx hb dX9_readOrder_84 rfl hl (by decide) rfl (fun ls hl => ?_)
      exact lp_85_3  zfu v1 x2 (0 : Int32) o3 _ _ _ h hw (lv_sub hl [2, 3, 1, 0] rfl)
    · have h := z_f h c
      have hy := Option.some.inj h
      rw [← hQz, ← hy]
      exact xr_v hx hb hr hlk hK hw dX9_readOrder_64
  have bk_53_1 : ∀ (v1 : Int32) (o_me : Ob) (H : Heap) (locs : List Loc) (ls : Array Slot), bk_X9_readOrder_53   v1 o_me = some y → Wd dC dI A s.heap [wX9 h_me q_me k_me o_me] H locs → lv_has ls 4 [(0, .ref h_me), (1, .int v1)] → W p l e ({ frames := 8, cells := 0, slots := 0, locals := 172 } : Room) s m ([.ref h_me] : List Value).toArray below meth c H locs 0 0 Qz (F0 m 53 ls [.ref h_me]) := by
    intro v1 o_me H locs ls h hw hl
    unfold bk_X9_readOrder_53 at h
    refine lv_iconst (v := 0) hx hb dX9_readOrder_53 (by decide) ?_
    exact bk_54_2  v1 (0 : Int32) o_me _ _ _ h hw (lv_sub hl [0, 1] rfl)
  have bk_27_7 : ∀ (rec_4_0 : Int32 × Int32 × Ob → Option (Ob)) (hrec_4_0 : ∀ (v1 : Int32) (v2 : Int32) (o_me : Ob) (H : Heap) (locs : List Loc) (ls : Array Slot), rec_4_0 (v1, v2, o_me) = some y → Wd dC dI A s.heap [wX9 h_me q_me k_me o_me] H locs → lv_has ls 4 [(0, .ref h_me), (1, .int v1), (2, .int v2)] → W p l e ({ frames := 8, cells := 0, slots := 0, locals := 172 } : Room) s m ([.ref h_me] : List Value).toArray below meth c H locs 0 0 Qz (F0 m 4 ls [])), ∀ (v2 : Int32) (s0 : Int32) (o_me : Ob) (H : Heap) (locs : List Loc) (ls : Array Slot), bk_X9_readOrder_27  rec_4_0 v2 s0 o_me = some y → Wd dC dI A s.heap [wX9 h_me q_me k_me o_me] H locs → lv_has ls 4 [(0, .ref h_me), (2, .int v2)] → W p l e ({ frames := 8, cells := 0, slots := 0, locals := 172 } : Room) s m ([.ref h_me] : List Value).toArray below meth c H locs 0 0 Qz (F0 m 27 ls [.int s0]) := by
    intro rec_4_0 hrec_4_0
    intro v2 s0 o_me H locs ls h hw hl
    unfold bk_X9_readOrder_27 at h
    refine lv_istore_n (lv' := [(1, .int s0), (0, .ref h_me), (2, .int v2)]) hx hb dX9_readOrder_27 rfl hl (by decide) rfl (fun ls hl => ?_)
    obtain ⟨x26, ex26, h⟩ := z_lt h
    refine lv_iinc (v := x26) (lv' := [(2, .int x26), (1, .int s0), (0, .ref h_me)]) hx hb dX9_readOrder_28 hl (k := 2) rfl ((congrArg (v2 + ·) (show Int32.ofInt 1 = (1 : Int32) from by decide)).trans ex26.symm) (by decide) rfl (fun ls hl => ?_)
    refine lv_goto (tgt := 4) hx hb dX9_readOrder_31 (by decide) ?_
    exact hrec_4_0 s0 x26 o_me _ _ _ h hw (lv_sub hl [2, 1, 0] rfl)
  have lp_4_0 : ∀ (N : Nat), ∀ (v1 : Int32) (v2 : Int32) (o_me : Ob) (H : Heap) (locs : List Loc) (ls : Array Slot), lp_X9_readOrder_4   N (v1, v2, o_me) = some y → Wd dC dI A s.heap [wX9 h_me q_me k_me o_me] H locs → lv_has ls 4 [(0, .ref h_me), (1, .int v1), (2, .int v2)] → W p l e ({ frames := 8, cells := 0, slots := 0, locals := 172 } : Room) s m ([.ref h_me] : List Value).toArray below meth c H locs 0 0 Qz (F0 m 4 ls []) := by
    intro N
    induction N with
    | zero =>
      intro v1 v2 o_me H locs ls h hw hl
      exact absurd (show (none : Option (Ob)) = some y from h) (by simp)
    | succ N ih =>
      intro v1 v2 o_me H locs ls h hw hl
      have h : lb_X9_readOrder_4   (lp_X9_readOrder_4   N) v1 v2 o_me = some y := h
      unfold lb_X9_readOrder_4 at h
      refine lv_iload_n hx hb dX9_readOrder_4 rfl (lv_at hl 2 rfl) ?_
      refine lv_iconst (v := 4) hx hb dX9_readOrder_5 (by decide) ?_
      refine lv_icmp_ge (tgt := 34) hx hb dX9_readOrder_6 (by decide) (fun c => ?_) (fun c => ?_)
      · have h := z_t h c
        refine lv_aload_n hx hb dX9_readOrder_34 rfl (lv_at hl 0 rfl) ?_
        refine lv_iload_n hx hb dX9_readOrder_35 rfl (lv_at hl 1 rfl) ?_
        refine lv_iconst (v := (-1)) hx hb dX9_readOrder_36 (by decide) ?_
        refine lv_icmp_eq (tgt := 53) hx hb dX9_readOrder_37 (by decide) (fun c => ?_) (fun c => ?_)
        · have h := z_t h c
          exact bk_53_1  v1 o_me _ _ _ h hw (lv_sub hl [0, 1] rfl)
        · have h := z_f h c
          refine lv_aload_n hx hb dX9_readOrder_40 rfl (lv_at hl 0 rfl) ?_
          refine fgX9_21 hx hb hts hown hK hw 0 rfl kw1197 dX9_readOrder_41 ?_
          refine lv_bipush (v := 12) hx hb dX9_readOrder_44 (by decide) ?_
          refine lv_icmp_ge (tgt := 53) hx hb dX9_readOrder_46 (by decide) (fun c => ?_) (fun c => ?_)
          · have h := z_t h c
            exact bk_53_1  v1 o_me _ _ _ h hw (lv_sub hl [0, 1] rfl)
          · have h := z_f h c
            refine lv_iconst (v := 1) hx hb dX9_readOrder_49 (by decide) ?_
            refine lv_goto (tgt := 54) hx hb dX9_readOrder_50 (by decide) ?_
            exact bk_54_2  v1 (1 : Int32) o_me _ _ _ h hw (lv_sub hl [0, 1] rfl)
      · have h := z_f h c
        refine lv_aload_n hx hb dX9_readOrder_9 rfl (lv_at hl 0 rfl) ?_
        refine lv_aload_n hx hb dX9_readOrder_10 rfl (lv_at hl 0 rfl) ?_
        refine fgX9_54 hx hb hts hown hK hw 0 rfl kw1230 dX9_readOrder_11 ?_
        refine lv_iload_n hx hb dX9_readOrder_14 rfl (lv_at hl 2 rfl) ?_
        obtain ⟨g24, h⟩ := z_gd h
        refine faX9_54 hx hb hK hw 0 rfl rfl g24 dX9_readOrder_15 ?_
        obtain ⟨z25, ez25, h⟩ := z_bd h
        refine xj_i (xrV (As := [.long (gM o_me 54 v2.toNatClampNeg)]) (rest := []) ⟨hx, hb, hml, hown, hts⟩ (m_X9_isWord l dC dI _ h_me q_me k_me o_me (gM o_me 54 v2.toNatClampNeg) z25 ez25) kw1530 kw1527 kw1529 kw57 kw120 hd_X9_isWord ⟨rfl, rfl⟩ rfl rfl ⟨rfl, rfl⟩ hX hK hw [0] (by decide) rfl rfl rfl rfl rfl hl.1 rfl rfl dX9_readOrder_16) hw hA [0] (by decide) rfl rfl (fun H locs hw => ?_)
        have hw : Wd dC dI A s.heap [wX9 h_me q_me k_me o_me] H locs := hw
        refine lv_if_eq (tgt := 26) hx hb dX9_readOrder_19 (by decide) (fun c => ?_) (fun c => ?_)
        · have h := z_t h c
          refine lv_iload_n hx hb dX9_readOrder_26 rfl (lv_at hl 1 rfl) ?_
          exact bk_27_7 (lp_X9_readOrder_4   N) ih v2 v1 o_me _ _ _ h hw (lv_sub hl [0, 2] rfl)
        · have h := z_f h c
          refine lv_iload_n hx hb dX9_readOrder_22 rfl (lv_at hl 2 rfl) ?_
          refine lv_goto (tgt := 27) hx hb dX9_readOrder_23 (by decide) ?_
          exact bk_27_7 (lp_X9_readOrder_4   N) ih v2 v2 o_me _ _ _ h hw (lv_sub hl [0, 2] rfl)
  unfold f_X9_readOrder at h
  refine lv_iconst (v := (-1)) hx hb dX9_readOrder_0 (by decide) ?_
  refine lv_istore_n (lv' := [(1, .int (-1 : Int32)), (0, .ref h_me)]) hx hb dX9_readOrder_1 rfl hl (by decide) rfl (fun ls hl => ?_)
  refine lv_iconst (v := 0) hx hb dX9_readOrder_2 (by decide) ?_
  refine lv_istore_n (lv' := [(2, .int (0 : Int32)), (1, .int (-1 : Int32)), (0, .ref h_me)]) hx hb dX9_readOrder_3 rfl hl (by decide) rfl (fun ls hl => ?_)
  exact lp_4_0  zfu (-1 : Int32) (0 : Int32) o_me _ _ _ h hw (lv_sub hl [2, 1, 0] rfl)

def bk_X9_run_161   (s0 : Int32) (o_me : Ob) : Option (Int32 × Ob) :=
  zlt (sI o_me 57 s0) fun o14 =>
  zlt (sI o14 56 ((gI o14 56) + (1 : Int32))) fun o15 =>
  some ((0 : Int32), o15)
def bk_X9_run_106   (v1 : Int32) (o_me : Ob) : Option (Int32 × Ob) :=
  (f_X9_orderSum o_me (v1 + (1 : Int32))).bind fun z10 =>
  if (gI z10.2 59) = (0 : Int32) then
  (zgd (zin v1 96) <|
  (f_X9_act z10.2 (gA z10.2 55 v1.toNatClampNeg) z10.1).bind fun z12 =>
  if (0 : Int32) ≤ z12.1 then
  (zgd (zin v1 96) <|
  if (gA z12.2 55 v1.toNatClampNeg) = (0 : Int32) then
  (bk_X9_run_161   z12.1 z12.2)
  else
  (bk_X9_run_161   (gI z12.2 57) z12.2))
  else
  (some ((-3 : Int32), z12.2)))
  else
  (some ((-3 : Int32), z10.2))
def f_X9_run (o_me : Ob) (p0 : Int32) : Option (Int32 × Ob) :=
  zlt (tM o_me 36 (1 : Int32).toNatClampNeg ((gA o_me 3 (4 : Int32).toNatClampNeg).toInt64)) fun o1 =>
  zlt (tM o1 36 (2 : Int32).toNatClampNeg ((gI o1 56).toInt64)) fun o2 =>
  zlt (tM o2 36 (3 : Int32).toNatClampNeg ((gI o2 57).toInt64)) fun o3 =>
  zlt (tM o3 36 (4 : Int32).toNatClampNeg ((gA o3 3 (7 : Int32).toNatClampNeg).toInt64)) fun o4 =>
  (f_X9_enteredOnes o4).bind fun z5 =>
  zlt (tM o4 36 (5 : Int32).toNatClampNeg z5.toInt64) fun o6 =>
  zlt (sI o6 59 (0 : Int32)) fun o7 =>
  zgd (zin (p0 + (5 : Int32)) 96) <|
  zgd (zin (p0 + (6 : Int32)) 96) <|
  if (gA o7 55 (p0 + (6 : Int32)).toNatClampNeg) ≤ (gA o7 55 (p0 + (5 : Int32)).toNatClampNeg) then
  (bk_X9_run_106   p0 o7)
  else
  ((f_X9_orderSum o7 (p0 + (5 : Int32))).bind fun z16 =>
  if (gI z16.2 59) = (0 : Int32) then
  (if z16.1 = (0 : Int32) then
  (some ((0 : Int32), z16.2))
  else
  (bk_X9_run_106   p0 z16.2))
  else
  (some ((0 : Int32), z16.2)))
set_option maxHeartbeats 4000000 in
set_option maxRecDepth 100000 in
theorem m_X9_run (l : Launch) (dC : Nat → ClassId) (dI : Nat → Nat → Nat) (sz : Nat) (h_me : Nat) (q_me : Nat → Nat) (k_me : Nat → ClassId) (o_me : Ob) (p0 : Int32) (y : Int32 × Ob) (h : f_X9_run o_me p0 = some y) : CI l yX9_run cX9_run 4 (some .int) ({ frames := 9, cells := 0, slots := 0, locals := 216 } : Room) dC dI sz [.ref h_me, .int p0] [wX9 h_me q_me k_me o_me] [tX9 k_me] y.1 [wX9 h_me q_me k_me y.2] := by
  refine CC_of (by decide) (Nat.le_of_ble_eq_true rfl) ?_
  intro p e s m below meth c A ls hx hb hml hr hlk hnm hown hts hX hK hP hD hA hl
  have hl : lv_has ls 4 [(0, .ref h_me), (1, .int p0)] := hl
  have hown : s.vm.findClass RX9 = some m.cls := hown
  have hw : Wd dC dI A s.heap [wX9 h_me q_me k_me o_me] s.heap [] := ⟨hP, hD, va_S.rf⟩
  generalize hQz : (MQ below (QI dC dI (fun r (_ : Unit) => r = y.1) (fun _ => Jn [wX9 h_me q_me k_me y.2]) (fun _ => Jt [tX9 k_me]) A) ([.ref h_me, .int p0] : List Value).toArray s 0 0 A) = Qz
  clear hP hD hnm
  have bk_161_1 : ∀ (s0 : Int32) (o_me : Ob) (H : Heap) (locs : List Loc) (ls : Array Slot), bk_X9_run_161   s0 o_me = some y → Wd dC dI A s.heap [wX9 h_me q_me k_me o_me] H locs → lv_has ls 4 [(0, .ref h_me)] → W p l e ({ frames := 9, cells := 0, slots := 0, locals := 216 } : Room) s m ([.ref h_me, .int p0] : List Value).toArray below meth c H locs 0 0 Qz (F0 m 161 ls [.int s0, .ref h_me]) := by
    intro s0 o_me H locs ls h hw hl
    unfold bk_X9_run_161 at h
    refine fpX9_57 hx hb hts hown hK hw 0 rfl kw1233 dX9_run_161 (fun H locs hw => ?_)
    obtain ⟨o14, eo14, h⟩ := z_lt h
    have hw : Wd dC dI A s.heap [wX9 h_me q_me k_me o14] H locs := by rw [eo14]; exact hw
    refine lv_aload_n hx hb dX9_run_164 rfl (lv_at hl 0 rfl) ?_
    refine lv_dup hx hb dX9_run_165 rfl ?_
    refine fgX9_56 hx hb hts hown hK hw 0 rfl kw1232 dX9_run_166 ?_
    refine lv_iconst (v := 1) hx hb dX9_run_169 (by decide) ?_
    refine lv_iadd hx hb dX9_run_170 ?_
    refine fpX9_56 hx hb hts hown hK hw 0 rfl kw1232 dX9_run_171 (fun H locs hw => ?_)
    obtain ⟨o15, eo15, h⟩ := z_lt h
    have hw : Wd dC dI A s.heap [wX9 h_me q_me k_me o15] H locs := by rw [eo15]; exact hw
    refine lv_iconst (v := 0) hx hb dX9_run_174 (by decide) ?_
    have hy := Option.some.inj h
    rw [← hQz, ← hy]
    exact xr_i (v := (0 : Int32)) hx hb hr rfl hlk hK hw dX9_run_175
  have bk_106_0 : ∀ (v1 : Int32) (o_me : Ob) (H : Heap) (locs : List Loc) (ls : Array Slot), bk_X9_run_106   v1 o_me = some y → Wd dC dI A s.heap [wX9 h_me q_me k_me o_me] H locs → lv_has ls 4 [(0, .ref h_me), (1, .int v1)] → W p l e ({ frames := 9, cells := 0, slots := 0, locals := 216 } : Room) s m ([.ref h_me, .int p0] : List Value).toArray below meth c H locs 0 0 Qz (F0 m 106 ls []) := by
    intro v1 o_me H locs ls h hw hl
    unfold bk_X9_run_106 at h
    refine lv_aload_n hx hb dX9_run_106 rfl (lv_at hl 0 rfl) ?_
    refine lv_iload_n hx hb dX9_run_107 rfl (lv_at hl 1 rfl) ?_
    refine lv_iconst (v := 1) hx hb dX9_run_108 (by decide) ?_
    refine lv_iadd hx hb dX9_run_109 ?_
    obtain ⟨z10, ez10, h⟩ := z_bd h
    refine xj_i (xrV (As := [.int (v1 + (1 : Int32))]) (rest := []) ⟨hx, hb, hml, hown, hts⟩ (m_X9_orderSum l dC dI _ h_me q_me k_me o_me (v1 + (1 : Int32)) z10 ez10) kw1824 kw1821 kw1823 kw105 kw120 hd_X9_orderSum ⟨rfl, rfl⟩ rfl rfl ⟨rfl, rfl⟩ hX hK hw [0] (by decide) rfl rfl rfl rfl rfl hl.1 rfl rfl dX9_run_110) hw hA [0] (by decide) rfl rfl (fun H locs hw => ?_)
    have hw : Wd dC dI A s.heap [wX9 h_me q_me k_me z10.2] H locs := hw
    refine lv_istore_n (lv' := [(2, .int z10.1), (0, .ref h_me), (1, .int v1)]) hx hb dX9_run_113 rfl hl (by decide) rfl (fun ls hl => ?_)
    refine lv_aload_n hx hb dX9_run_114 rfl (lv_at hl 1 rfl) ?_
    refine fgX9_59 hx hb hts hown hK hw 0 rfl kw1235 dX9_run_115 ?_
    refine lv_if_eq (tgt := 124) hx hb dX9_run_118 (by decide) (fun c => ?_) (fun c => ?_)
    · have h := z_t h c
      refine lv_aload_n hx hb dX9_run_124 rfl (lv_at hl 1 rfl) ?_
      refine lv_aload_n hx hb dX9_run_125 rfl (lv_at hl 1 rfl) ?_
      refine fgX9_55 hx hb hts hown hK hw 0 rfl kw1231 dX9_run_126 ?_
      refine lv_iload_n hx hb dX9_run_129 rfl (lv_at hl 2 rfl) ?_
      obtain ⟨g11, h⟩ := z_gd h
      refine faX9_55 hx hb hK hw 0 rfl rfl g11 dX9_run_130 ?_
      refine lv_iload_n hx hb dX9_run_131 rfl (lv_at hl 0 rfl) ?_
      obtain ⟨z12, ez12, h⟩ := z_bd h
      refine xj_i (xrV (As := [.int (gA z10.2 55 v1.toNatClampNeg), .int z10.1]) (rest := []) ⟨hx, hb, hml, hown, hts⟩ (m_X9_act l dC dI _ h_me q_me k_me z10.2 (gA z10.2 55 v1.toNatClampNeg) z10.1 z12 ez12) kw1828 kw1825 kw1827 kw106 kw120 hd_X9_act ⟨rfl, rfl⟩ rfl rfl ⟨rfl, rfl⟩ hX hK hw [0] (by decide) rfl rfl rfl rfl rfl hl.1 rfl rfl dX9_run_132) hw hA [0] (by decide) rfl rfl (fun H locs hw => ?_)
      have hw : Wd dC dI A s.heap [wX9 h_me q_me k_me z12.2] H locs := hw
      refine lv_istore_n (lv' := [(3, .int z12.1), (2, .int z10.1), (0, .ref h_me), (1, .int v1)]) hx hb dX9_run_135 rfl hl (by decide) rfl (fun ls hl => ?_)
      refine lv_iload_n hx hb dX9_run_136 rfl (lv_at hl 0 rfl) ?_
      refine lv_if_ge (tgt := 143) hx hb dX9_run_137 (by decide) (fun c => ?_) (fun c => ?_)
      · have h := z_t h c
        refine lv_aload_n hx hb dX9_run_143 rfl (lv_at hl 2 rfl) ?_
        refine lv_aload_n hx hb dX9_run_144 rfl (lv_at hl 2 rfl) ?_
        refine fgX9_55 hx hb hts hown hK hw 0 rfl kw1231 dX9_run_145 ?_
        refine lv_iload_n hx hb dX9_run_148 rfl (lv_at hl 3 rfl) ?_
        obtain ⟨g13, h⟩ := z_gd h
        refine faX9_55 hx hb hK hw 0 rfl rfl g13 dX9_run_149 ?_
        refine lv_if_ne (tgt := 157) hx hb dX9_run_150 (by decide) (fun c => ?_) (fun c => ?_)
        · have h := z_f h c
          refine lv_aload_n hx hb dX9_run_157 rfl (lv_at hl 2 rfl) ?_
          refine fgX9_57 hx hb hts hown hK hw 0 rfl kw1233 dX9_run_158 ?_
          exact bk_161_1  (gI z12.2 57) z12.2 _ _ _ h hw (lv_sub hl [2] rfl)
        · have h := z_t h c
          refine lv_iload_n hx hb dX9_run_153 rfl (lv_at hl 0 rfl) ?_
          refine lv_goto (tgt := 161) hx hb dX9_run_154 (by decide) ?_
          exact bk_161_1  z12.1 z12.2 _ _ _ h hw (lv_sub hl [2] rfl)
      · have h := z_f h c
        refine lv_bipush (v := (-3)) hx hb dX9_run_140 (by decide) ?_
        have hy := Option.some.inj h
        rw [← hQz, ← hy]
        exact xr_i (v := (-3 : Int32)) hx hb hr rfl hlk hK hw dX9_run_142
    · have h := z_f h c
      refine lv_bipush (v := (-3)) hx hb dX9_run_121 (by decide) ?_
      have hy := Option.some.inj h
      rw [← hQz, ← hy]
      exact xr_i (v := (-3 : Int32)) hx hb hr rfl hlk hK hw dX9_run_123
  unfold f_X9_run at h
  refine lv_aload_n hx hb dX9_run_0 rfl (lv_at hl 0 rfl) ?_
  refine fgX9_36 hx hb hts hown hK hw 0 rfl kw1212 dX9_run_1 ?_
  refine lv_iconst (v := 1) hx hb dX9_run_4 (by decide) ?_
  refine lv_aload_n hx hb dX9_run_5 rfl (lv_at hl 0 rfl) ?_
  refine fgX9_3 hx hb hts hown hK hw 0 rfl kw1179 dX9_run_6 ?_
  refine lv_iconst (v := 4) hx hb dX9_run_9 (by decide) ?_
  refine faX9_3 hx hb hK hw 0 rfl rfl (by decide) dX9_run_10 ?_
  refine lv_i2l hx hb dX9_run_11 rfl ?_
  refine fbX9_36 hx hb hK hw 0 rfl rfl (by decide) dX9_run_12 (fun H locs hw => ?_)
  obtain ⟨o1, eo1, h⟩ := z_lt h
  have hw : Wd dC dI A s.heap [wX9 h_me q_me k_me o1] H locs := by rw [eo1]; exact hw
  refine lv_aload_n hx hb dX9_run_13 rfl (lv_at hl 0 rfl) ?_
  refine fgX9_36 hx hb hts hown hK hw 0 rfl kw1212 dX9_run_14 ?_
  refine lv_iconst (v := 2) hx hb dX9_run_17 (by decide) ?_
  refine lv_aload_n hx hb dX9_run_18 rfl (lv_at hl 0 rfl) ?_
  refine fgX9_56 hx hb hts hown hK hw 0 rfl kw1232 dX9_run_19 ?_
  refine lv_i2l hx hb dX9_run_22 rfl ?_
  refine fbX9_36 hx hb hK hw 0 rfl rfl (by decide) dX9_run_23 (fun H locs hw => ?_)
  obtain ⟨o2, eo2, h⟩ := z_lt h
  have hw : Wd dC dI A s.heap [wX9 h_me q_me k_me o2] H locs := by rw [eo2]; exact hw
  refine lv_aload_n hx hb dX9_run_24 rfl (lv_at hl 0 rfl) ?_
  refine fgX9_36 hx hb hts hown hK hw 0 rfl kw1212 dX9_run_25 ?_
  refine lv_iconst (v := 3) hx hb dX9_run_28 (by decide) ?_
  refine lv_aload_n hx hb dX9_run_29 rfl (lv_at hl 0 rfl) ?_
  refine fgX9_57 hx hb hts hown hK hw 0 rfl kw1233 dX9_run_30 ?_
  refine lv_i2l hx hb dX9_run_33 rfl ?_
  refine fbX9_36 hx hb hK hw 0 rfl rfl (by decide) dX9_run_34 (fun H locs hw => ?_)
  obtain ⟨o3, eo3, h⟩ := z_lt h
  have hw : Wd dC dI A s.heap [wX9 h_me q_me k_me o3] H locs := by rw [eo3]; exact hw
  refine lv_aload_n hx hb dX9_run_35 rfl (lv_at hl 0 rfl) ?_
  refine fgX9_36 hx hb hts hown hK hw 0 rfl kw1212 dX9_run_36 ?_
  refine lv_iconst (v := 4) hx hb dX9_run_39 (by decide) ?_
  refine lv_aload_n hx hb dX9_run_40 rfl (lv_at hl 0 rfl) ?_
  refine fgX9_3 hx hb hts hown hK hw 0 rfl kw1179 dX9_run_41 ?_
  refine lv_bipush (v := 7) hx hb dX9_run_44 (by decide) ?_
  refine faX9_3 hx hb hK hw 0 rfl rfl (by decide) dX9_run_46 ?_
  refine lv_i2l hx hb dX9_run_47 rfl ?_
  refine fbX9_36 hx hb hK hw 0 rfl rfl (by decide) dX9_run_48 (fun H locs hw => ?_)
  obtain ⟨o4, eo4, h⟩ := z_lt h
  have hw : Wd dC dI A s.heap [wX9 h_me q_me k_me o4] H locs := by rw [eo4]; exact hw
  refine lv_aload_n hx hb dX9_run_49 rfl (lv_at hl 0 rfl) ?_
  refine fgX9_36 hx hb hts hown hK hw 0 rfl kw1212 dX9_run_50 ?_
  refine lv_iconst (v := 5) hx hb dX9_run_53 (by decide) ?_
  refine lv_aload_n hx hb dX9_run_54 rfl (lv_at hl 0 rfl) ?_
  obtain ⟨z5, ez5, h⟩ := z_bd h
  refine xj_i (xrV (As := []) (rest := [.int (5 : Int32), .ref (q_me 36)]) ⟨hx, hb, hml, hown, hts⟩ (m_X9_enteredOnes l dC dI _ h_me q_me k_me o4 z5 ez5) kw1816 kw1813 kw1815 kw103 kw120 hd_X9_enteredOnes ⟨rfl, rfl⟩ rfl rfl ⟨rfl, rfl⟩ hX hK hw [0] (by decide) rfl rfl rfl rfl rfl hl.1 rfl rfl dX9_run_55) hw hA [0] (by decide) rfl rfl (fun H locs hw => ?_)
  have hw : Wd dC dI A s.heap [wX9 h_me q_me k_me o4] H locs := hw
  refine lv_i2l hx hb dX9_run_58 rfl ?_
  refine fbX9_36 hx hb hK hw 0 rfl rfl (by decide) dX9_run_59 (fun H locs hw => ?_)
  obtain ⟨o6, eo6, h⟩ := z_lt h
  have hw : Wd dC dI A s.heap [wX9 h_me q_me k_me o6] H locs := by rw [eo6]; exact hw
  refine lv_aload_n hx hb dX9_run_60 rfl (lv_at hl 0 rfl) ?_
  refine lv_iconst (v := 0) hx hb dX9_run_61 (by decide) ?_
  refine fpX9_59 hx hb hts hown hK hw 0 rfl kw1235 (by decide) dX9_run_62 (fun H locs hw => ?_)
  obtain ⟨o7, eo7, h⟩ := z_lt h
  have hw : Wd dC dI A s.heap [wX9 h_me q_me k_me o7] H locs := by rw [eo7]; exact hw
  refine lv_aload_n hx hb dX9_run_65 rfl (lv_at hl 0 rfl) ?_
  refine fgX9_55 hx hb hts hown hK hw 0 rfl kw1231 dX9_run_66 ?_
  refine lv_iload_n hx hb dX9_run_69 rfl (lv_at hl 1 rfl) ?_
  refine lv_iconst (v := 5) hx hb dX9_run_70 (by decide) ?_
  refine lv_iadd hx hb dX9_run_71 ?_
  obtain ⟨g8, h⟩ := z_gd h
  refine faX9_55 hx hb hK hw 0 rfl rfl g8 dX9_run_72 ?_
  refine lv_aload_n hx hb dX9_run_73 rfl (lv_at hl 0 rfl) ?_
  refine fgX9_55 hx hb hts hown hK hw 0 rfl kw1231 dX9_run_74 ?_
  refine lv_iload_n hx hb dX9_run_77 rfl (lv_at hl 1 rfl) ?_
  refine lv_bipush (v := 6) hx hb dX9_run_78 (by decide) ?_
  refine lv_iadd hx hb dX9_run_80 ?_
  obtain ⟨g9, h⟩ := z_gd h
  refine faX9_55 hx hb hK hw 0 rfl rfl g9 dX9_run_81 ?_
  refine lv_icmp_ge (tgt := 106) hx hb dX9_run_82 (by decide) (fun c => ?_) (fun c => ?_)
  · have h := z_t h c
    exact bk_106_0  p0 o7 _ _ _ h hw (lv_sub hl [0, 1] rfl)
  · have h := z_f h c
    refine lv_aload_n hx hb dX9_run_85 rfl (lv_at hl 0 rfl) ?_
    refine lv_iload_n hx hb dX9_run_86 rfl (lv_at hl 1 rfl) ?_
    refine lv_iconst (v := 5) hx hb dX9_run_87 (by decide) ?_
    refine lv_iadd hx hb dX9_run_88 ?_
    obtain ⟨z16, ez16, h⟩ := z_bd h
    refine xj_i (xrV (As := [.int (p0 + (5 : Int32))]) (rest := []) ⟨hx, hb, hml, hown, hts⟩ (m_X9_orderSum l dC dI _ h_me q_me k_me o7 (p0 + (5 : Int32)) z16 ez16) kw1824 kw1821 kw1823 kw105 kw120 hd_X9_orderSum ⟨rfl, rfl⟩ rfl rfl ⟨rfl, rfl⟩ hX hK hw [0] (by decide) rfl rfl rfl rfl rfl hl.1 rfl rfl dX9_run_89) hw hA [0] (by decide) rfl rfl (fun H locs hw => ?_)
    have hw : Wd dC dI A s.heap [wX9 h_me q_me k_me z16.2] H locs := hw
    refine lv_istore_n (lv' := [(2, .int z16.1), (0, .ref h_me), (1, .int p0)]) hx hb dX9_run_92 rfl hl (by decide) rfl (fun ls hl => ?_)
    refine lv_aload_n hx hb dX9_run_93 rfl (lv_at hl 1 rfl) ?_
    refine fgX9_59 hx hb hts hown hK hw 0 rfl kw1235 dX9_run_94 ?_
    refine lv_if_ne (tgt := 104) hx hb dX9_run_97 (by decide) (fun c => ?_) (fun c => ?_)
    · have h := z_f h c
      refine lv_iconst (v := 0) hx hb dX9_run_104 (by decide) ?_
      have hy := Option.some.inj h
      rw [← hQz, ← hy]
      exact xr_i (v := (0 : Int32)) hx hb hr rfl hlk hK hw dX9_run_105
    · have h := z_t h c
      refine lv_iload_n hx hb dX9_run_100 rfl (lv_at hl 0 rfl) ?_
      refine lv_if_ne (tgt := 106) hx hb dX9_run_101 (by decide) (fun c => ?_) (fun c => ?_)
      · have h := z_f h c
        exact bk_106_0  p0 z16.2 _ _ _ h hw (lv_sub hl [1, 2] rfl)
      · have h := z_t h c
        refine lv_iconst (v := 0) hx hb dX9_run_104 (by decide) ?_
        have hy := Option.some.inj h
        rw [← hQz, ← hy]
        exact xr_i (v := (0 : Int32)) hx hb hr rfl hlk hK hw dX9_run_105

def lb_X9_orders_150  (rec_140_4 : Int32 × Int32 × Ob → Option (Int32 × Ob)) (rec_150_5 : Int32 × Int32 × Int32 × Ob → Option (Int32 × Ob)) (v1 : Int32) (v2 : Int32) (v3 : Int32) (o_me : Ob) : Option (Int32 × Ob) :=
  zgd (zin (((8 : Int32) * v2) + (7 : Int32)) 96) <|
  if (gA o_me 55 (((8 : Int32) * v2) + (7 : Int32)).toNatClampNeg) ≤ v3 then
  (zlt (v2 + (1 : Int32)) fun x12 =>
  rec_140_4 (v1, x12, o_me))
  else
  ((f_X9_run o_me ((8 : Int32) * v2)).bind fun z13 =>
  if (0 : Int32) ≤ z13.1 then
  (zlt (v3 + (1 : Int32)) fun x14 =>
  rec_150_5 (v1, v2, x14, z13.2))
  else
  ((f_X9_giveBack z13.2 v1).bind fun z15 =>
  zlt (sI z15 58 v2) fun o16 =>
  (f_X9_tell o16 (-3 : Int32)).bind fun z17 =>
  some (z17.1, z17.2)))
def lp_X9_orders_150  (rec_140_4 : Int32 × Int32 × Ob → Option (Int32 × Ob)) : Nat → (Int32 × Int32 × Int32 × Ob) → Option (Int32 × Ob) := zit (fun rec a => lb_X9_orders_150  rec_140_4 rec a.1 a.2.1 a.2.2.1 a.2.2.2)
def lb_X9_orders_140   (rec_140_4 : Int32 × Int32 × Ob → Option (Int32 × Ob)) (v1 : Int32) (v2 : Int32) (o_me : Ob) : Option (Int32 × Ob) :=
  if (gI o_me 21) ≤ v2 then
  ((f_X9_tell o_me (gI o_me 56)).bind fun z10 =>
  some (z10.1, z10.2))
  else
  (lp_X9_orders_150  rec_140_4 zfu (v1, v2, (0 : Int32), o_me))
def lp_X9_orders_140   : Nat → (Int32 × Int32 × Ob) → Option (Int32 × Ob) := zit (fun rec a => lb_X9_orders_140   rec a.1 a.2.1 a.2.2)
def lb_X9_orders_104   (rec_104_3 : Int32 × Int32 × Ob → Option (Int32 × Ob)) (v1 : Int32) (v2 : Int32) (o_me : Ob) : Option (Int32 × Ob) :=
  if (16 : Int32) ≤ v2 then
  (zlt (sI o_me 56 (0 : Int32)) fun o8 =>
  zlt (sI o8 57 (-1 : Int32)) fun o9 =>
  lp_X9_orders_140   zfu (v1, (0 : Int32), o9))
  else
  (zgd (zin v2 16) <|
  zgd (zin v2 16) <|
  zlt (tA o_me 10 v2.toNatClampNeg (gA o_me 7 v2.toNatClampNeg)) fun o20 =>
  zlt (v2 + (1 : Int32)) fun x21 =>
  rec_104_3 (v1, x21, o20))
def lp_X9_orders_104   : Nat → (Int32 × Int32 × Ob) → Option (Int32 × Ob) := zit (fun rec a => lb_X9_orders_104   rec a.1 a.2.1 a.2.2)
def lb_X9_orders_77   (rec_77_2 : Int32 × Int32 × Ob → Option (Int32 × Ob)) (v1 : Int32) (v2 : Int32) (o_me : Ob) : Option (Int32 × Ob) :=
  if (400 : Int32) ≤ v2 then
  (lp_X9_orders_104   zfu (v1, (0 : Int32), o_me))
  else
  (zgd (zin v2 450) <|
  zgd (zin v2 400) <|
  zlt (tA o_me 9 v2.toNatClampNeg (gA o_me 6 v2.toNatClampNeg)) fun o24 =>
  zlt (v2 + (1 : Int32)) fun x25 =>
  rec_77_2 (v1, x25, o24))
def lp_X9_orders_77   : Nat → (Int32 × Int32 × Ob) → Option (Int32 × Ob) := zit (fun rec a => lb_X9_orders_77   rec a.1 a.2.1 a.2.2)
def bk_X9_orders_46   (o_me : Ob) : Option (Int32 × Ob) :=
  (f_X9_endText o_me).bind fun z5 =>
  if (gI z5 19) = (0 : Int32) then
  ((f_X9_keepAll z5 (17 : Int32)).bind fun z6 =>
  zlt (gI z6 8) fun x7 =>
  lp_X9_orders_77   zfu (x7, (0 : Int32), z6))
  else
  ((f_X9_tell z5 (-6 : Int32)).bind fun z26 =>
  some (z26.1, z26.2))
def lb_X9_orders_19   (rec_19_0 : Ob → Option (Int32 × Ob)) (o_me : Ob) : Option (Int32 × Ob) :=
  if (gI o_me 19) = (0 : Int32) then
  ((f_X9_isSign o_me (59 : Int32)).bind fun z27 =>
  if z27 = (0 : Int32) then
  (bk_X9_orders_46   o_me)
  else
  ((f_X9_next o_me).bind fun z28 =>
  (f_X9_readOrder z28).bind fun z29 =>
  rec_19_0 z29))
  else
  (bk_X9_orders_46   o_me)
def lp_X9_orders_19   : Nat → Ob → Option (Int32 × Ob) := zit (fun rec a => lb_X9_orders_19   rec a)
def f_X9_orders (o_me : Ob) : Option (Int32 × Ob) :=
  zlt (sI o_me 0 (0 : Int32)) fun o1 =>
  zlt (sI o1 58 (-1 : Int32)) fun o2 =>
  (f_X9_beginText o2 (1 : Int32)).bind fun z3 =>
  (f_X9_readOrder z3).bind fun z4 =>
  lp_X9_orders_19   zfu z4
set_option maxHeartbeats 4000000 in
set_option maxRecDepth 100000 in
theorem m_X9_orders (l : Launch) (dC : Nat → ClassId) (dI : Nat → Nat → Nat) (sz : Nat) (h_me : Nat) (q_me : Nat → Nat) (k_me : Nat → ClassId) (o_me : Ob) (y : Int32 × Ob) (h : f_X9_orders o_me = some y) : CI l yX9_orders cX9_orders 4 (some .int) ({ frames := 10, cells := 0, slots := 0, locals := 239 } : Room) dC dI sz [.ref h_me] [wX9 h_me q_me k_me o_me] [tX9 k_me] y.1 [wX9 h_me q_me k_me y.2] := by
  refine CC_of (by decide) (Nat.le_of_ble_eq_true rfl) ?_
  intro p e s m below meth c A ls hx hb hml hr hlk hnm hown hts hX hK hP hD hA hl
  have hl : lv_has ls 4 [(0, .ref h_me)] := hl
  have hown : s.vm.findClass RX9 = some m.cls := hown
  have hw : Wd dC dI A s.heap [wX9 h_me q_me k_me o_me] s.heap [] := ⟨hP, hD, va_S.rf⟩
  generalize hQz : (MQ below (QI dC dI (fun r (_ : Unit) => r = y.1) (fun _ => Jn [wX9 h_me q_me k_me y.2]) (fun _ => Jt [tX9 k_me]) A) ([.ref h_me] : List Value).toArray s 0 0 A) = Qz
  clear hP hD hnm
  have lp_150_5 : ∀ (rec_140_4 : Int32 × Int32 × Ob → Option (Int32 × Ob)) (hrec_140_4 : ∀ (v1 : Int32) (v2 : Int32) (o_me : Ob) (H : Heap) (locs : List Loc) (ls : Array Slot), rec_140_4 (v1, v2, o_me) = some y → Wd dC dI A s.heap [wX9 h_me q_me k_me o_me] H locs → lv_has ls 4 [(0, .ref h_me), (1, .int v1), (2, .int v2)] → W p l e ({ frames := 10, cells := 0, slots := 0, locals := 239 } : Room) s m ([.ref h_me] : List Value).toArray below meth c H locs 0 0 Qz (F0 m 140 ls [])) (N : Nat), ∀ (v1 : Int32) (v2 : Int32) (v3 : Int32) (o_me : Ob) (H : Heap) (locs : List Loc) (ls : Array Slot), lp_X9_orders_150  rec_140_4 N (v1, v2, v3, o_me) = some y → Wd dC dI A s.heap [wX9 h_me q_me k_me o_me] H locs → lv_has ls 4 [(0, .ref h_me), (1, .int v1), (2, .int v2), (3, .int v3)] → W p l e ({ frames := 10, cells := 0, slots := 0, locals := 239 } : Room) s m ([.ref h_me] : List Value).toArray below meth c H locs 0 0 Qz (F0 m 150 ls []) := by
    intro rec_140_4 hrec_140_4
    intro N
    induction N with
    | zero =>
      intro v1 v2 v3 o_me H locs ls h hw hl
      exact absurd (show (none : Option (Int32 × Ob)) = some y from h) (by simp)
    | succ N ih =>
      intro v1 v2 v3 o_me H locs ls h hw hl
      have h : lb_X9_orders_150  rec_140_4 (lp_X9_orders_150  rec_140_4 N) v1 v2 v3 o_me = some y := h
      unfold lb_X9_orders_150 at h
      refine lv_iload_n hx hb dX9_orders_150 rfl (lv_at hl 3 rfl) ?_
      refine lv_aload_n hx hb dX9_orders_151 rfl (lv_at hl 0 rfl) ?_
      refine fgX9_55 hx hb hts hown hK hw 0 rfl kw1231 dX9_orders_152 ?_
      refine lv_bipush (v := 8) hx hb dX9_orders_155 (by decide) ?_
      refine lv_iload_n hx hb dX9_orders_157 rfl (lv_at hl 2 rfl) ?_
      refine lv_imul hx hb dX9_orders_158 ?_
      refine lv_bipush (v := 7) hx hb dX9_orders_159 (by decide) ?_
      refine lv_iadd hx hb dX9_orders_161 ?_
      obtain ⟨g11, h⟩ := z_gd h
      refine faX9_55 hx hb hK hw 0 rfl rfl g11 dX9_orders_162 ?_
      refine lv_icmp_ge (tgt := 200) hx hb dX9_orders_163 (by decide) (fun c => ?_) (fun c => ?_)
      · have h := z_t h c
        obtain ⟨x12, ex12, h⟩ := z_lt h
        refine lv_iinc (v := x12) (lv' := [(2, .int x12), (0, .ref h_me), (1, .int v1), (3, .int v3)]) hx hb dX9_orders_200 hl (k := 2) rfl ((congrArg (v2 + ·) (show Int32.ofInt 1 = (1 : Int32) from by decide)).trans ex12.symm) (by decide) rfl (fun ls hl => ?_)
        refine lv_goto (tgt := 140) hx hb dX9_orders_203 (by decide) ?_
        exact hrec_140_4 v1 x12 o_me _ _ _ h hw (lv_sub hl [1, 2, 0] rfl)
      · have h := z_f h c
        refine lv_aload_n hx hb dX9_orders_166 rfl (lv_at hl 0 rfl) ?_
        refine lv_bipush (v := 8) hx hb dX9_orders_167 (by decide) ?_
        refine lv_iload_n hx hb dX9_orders_169 rfl (lv_at hl 2 rfl) ?_
        refine lv_imul hx hb dX9_orders_170 ?_
        obtain ⟨z13, ez13, h⟩ := z_bd h
        refine xj_i (xrV (As := [.int ((8 : Int32) * v2)]) (rest := []) ⟨hx, hb, hml, hown, hts⟩ (m_X9_run l dC dI _ h_me q_me k_me o_me ((8 : Int32) * v2) z13 ez13) kw1812 kw1809 kw1811 kw102 kw120 hd_X9_run ⟨rfl, rfl⟩ rfl rfl ⟨rfl, rfl⟩ hX hK hw [0] (by decide) rfl rfl rfl rfl rfl hl.1 rfl rfl dX9_orders_171) hw hA [0] (by decide) rfl rfl (fun H locs hw => ?_)
        have hw : Wd dC dI A s.heap [wX9 h_me q_me k_me z13.2] H locs := hw
        refine lv_if_ge (tgt := 194) hx hb dX9_orders_174 (by decide) (fun c => ?_) (fun c => ?_)
        · have h := z_t h c
          obtain ⟨x14, ex14, h⟩ := z_lt h
          refine lv_iinc (v := x14) (lv' := [(3, .int x14), (0, .ref h_me), (1, .int v1), (2, .int v2)]) hx hb dX9_orders_194 hl (k := 3) rfl ((congrArg (v3 + ·) (show Int32.ofInt 1 = (1 : Int32) from by decide)).trans ex14.symm) (by decide) rfl (fun ls hl => ?_)
          refine lv_goto (tgt := 150) hx hb dX9_orders_197 (by decide) ?_
          exact ih v1 v2 x14 z13.2 _ _ _ h hw (lv_sub hl [1, 2, 3, 0] rfl)
        · have h := z_f h c
          refine lv_aload_n hx hb dX9_orders_177 rfl (lv_at hl 0 rfl) ?_
          refine lv_iload_n hx hb dX9_orders_178 rfl (lv_at hl 1 rfl) ?_
          obtain ⟨z15, ez15, h⟩ := z_bd h
          refine xj_v (xrV (As := [.int v1]) (rest := []) ⟨hx, hb, hml, hown, hts⟩ (m_X9_giveBack l dC dI _ h_me q_me k_me z13.2 v1 z15 ez15) kw1832 kw1829 kw1831 kw107 kw120 hd_X9_giveBack ⟨rfl, rfl⟩ rfl rfl ⟨rfl, rfl⟩ hX hK hw [0] (by decide) rfl rfl rfl rfl rfl hl.1 rfl rfl dX9_orders_179) hw hA [0] (by decide) rfl rfl (fun H locs hw => ?_)
          have hw : Wd dC dI A s.heap [wX9 h_me q_me k_me z15] H locs := hw
          refine lv_aload_n hx hb dX9_orders_182 rfl (lv_at hl 0 rfl) ?_
          refine lv_iload_n hx hb dX9_orders_183 rfl (lv_at hl 2 rfl) ?_
          refine fpX9_58 hx hb hts hown hK hw 0 rfl kw1234 dX9_orders_184 (fun H locs hw => ?_)
          obtain ⟨o16, eo16, h⟩ := z_lt h
          have hw : Wd dC dI A s.heap [wX9 h_me q_me k_me o16] H locs := by rw [eo16]; exact hw
          refine lv_aload_n hx hb dX9_orders_187 rfl (lv_at hl 0 rfl) ?_
          refine lv_bipush (v := (-3)) hx hb dX9_orders_188 (by decide) ?_
          obtain ⟨z17, ez17, h⟩ := z_bd h
          refine xj_i (xrV (As := [.int (-3 : Int32)]) (rest := []) ⟨hx, hb, hml, hown, hts⟩ (m_X9_tell l dC dI _ h_me q_me k_me o16 (-3 : Int32) z17 ez17) kw1374 kw1371 kw1373 kw39 kw120 hd_X9_tell ⟨rfl, rfl⟩ rfl rfl ⟨rfl, rfl⟩ hX hK hw [0] (by decide) rfl rfl rfl rfl rfl hl.1 rfl rfl dX9_orders_190) hw hA [0] (by decide) rfl rfl (fun H locs hw => ?_)
          have hw : Wd dC dI A s.heap [wX9 h_me q_me k_me z17.2] H locs := hw
          have hy := Option.some.inj h
          rw [← hQz, ← hy]
          exact xr_i (v := z17.1) hx hb hr rfl hlk hK hw dX9_orders_193
  have lp_140_4 : ∀ (N : Nat), ∀ (v1 : Int32) (v2 : Int32) (o_me : Ob) (H : Heap) (locs : List Loc) (ls : Array Slot), lp_X9_orders_140   N (v1, v2, o_me) = some y → Wd dC dI A s.heap [wX9 h_me q_me k_me o_me] H locs → lv_has ls 4 [(0, .ref h_me), (1, .int v1), (2, .int v2)] → W p l e ({ frames := 10, cells := 0, slots := 0, locals := 239 } : Room) s m ([.ref h_me] : List Value).toArray below meth c H locs 0 0 Qz (F0 m 140 ls []) := by
    intro N
    induction N with
    | zero =>
      intro v1 v2 o_me H locs ls h hw hl
      exact absurd (show (none : Option (Int32 × Ob)) = some y from h) (by simp)
    | succ N ih =>
      intro v1 v2 o_me H locs ls h hw hl
      have h : lb_X9_orders_140   (lp_X9_orders_140   N) v1 v2 o_me = some y := h
      unfold lb_X9_orders_140 at h
      refine lv_iload_n hx hb dX9_orders_140 rfl (lv_at hl 2 rfl) ?_
      refine lv_aload_n hx hb dX9_orders_141 rfl (lv_at hl 0 rfl) ?_
      refine fgX9_21 hx hb hts hown hK hw 0 rfl kw1197 dX9_orders_142 ?_
      refine lv_icmp_ge (tgt := 206) hx hb dX9_orders_145 (by decide) (fun c => ?_) (fun c => ?_)
      · have h := z_t h c
        refine lv_aload_n hx hb dX9_orders_206 rfl (lv_at hl 0 rfl) ?_
        refine lv_aload_n hx hb dX9_orders_207 rfl (lv_at hl 0 rfl) ?_
        refine fgX9_56 hx hb hts hown hK hw 0 rfl kw1232 dX9_orders_208 ?_
        obtain ⟨z10, ez10, h⟩ := z_bd h
        refine xj_i (xrV (As := [.int (gI o_me 56)]) (rest := []) ⟨hx, hb, hml, hown, hts⟩ (m_X9_tell l dC dI _ h_me q_me k_me o_me (gI o_me 56) z10 ez10) kw1374 kw1371 kw1373 kw39 kw120 hd_X9_tell ⟨rfl, rfl⟩ rfl rfl ⟨rfl, rfl⟩ hX hK hw [0] (by decide) rfl rfl rfl rfl rfl hl.1 rfl rfl dX9_orders_211) hw hA [0] (by decide) rfl rfl (fun H locs hw => ?_)
        have hw : Wd dC dI A s.heap [wX9 h_me q_me k_me z10.2] H locs := hw
        have hy := Option.some.inj h
        rw [← hQz, ← hy]
        exact xr_i (v := z10.1) hx hb hr rfl hlk hK hw dX9_orders_214
      · have h := z_f h c
        refine lv_iconst (v := 0) hx hb dX9_orders_148 (by decide) ?_
        refine lv_istore_n (lv' := [(3, .int (0 : Int32)), (0, .ref h_me), (1, .int v1), (2, .int v2)]) hx hb dX9_orders_149 rfl hl (by decide) rfl (fun ls hl => ?_)
        exact lp_150_5 (lp_X9_orders_140   N) ih zfu v1 v2 (0 : Int32) o_me _ _ _ h hw (lv_sub hl [1, 2, 3, 0] rfl)
  have lp_104_3 : ∀ (N : Nat), ∀ (v1 : Int32) (v2 : Int32) (o_me : Ob) (H : Heap) (locs : List Loc) (ls : Array Slot), lp_X9_orders_104   N (v1, v2, o_me) = some y → Wd dC dI A s.heap [wX9 h_me q_me k_me o_me] H locs → lv_has ls 4 [(0, .ref h_me), (1, .int v1), (2, .int v2)] → W p l e ({ frames := 10, cells := 0, slots := 0, locals := 239 } : Room) s m ([.ref h_me] : List Value).toArray below meth c H locs 0 0 Qz (F0 m 104 ls []) := by
    intro N
    induction N with
    | zero =>
      intro v1 v2 o_me H locs ls h hw hl
      exact absurd (show (none : Option (Int32 × Ob)) = some y from h) (by simp)
    | succ N ih =>
      intro v1 v2 o_me H locs ls h hw hl
      have h : lb_X9_orders_104   (lp_X9_orders_104   N) v1 v2 o_me = some y := h
      unfold lb_X9_orders_104 at h
      refine lv_iload_n hx hb dX9_orders_104 rfl (lv_at hl 2 rfl) ?_
      refine lv_bipush (v := 16) hx hb dX9_orders_105 (by decide) ?_
      refine lv_icmp_ge (tgt := 128) hx hb dX9_orders_107 (by decide) (fun c => ?_) (fun c => ?_)
      · have h := z_t h c
        refine lv_aload_n hx hb dX9_orders_128 rfl (lv_at hl 0 rfl) ?_
        refine lv_iconst (v := 0) hx hb dX9_orders_129 (by decide) ?_
        refine fpX9_56 hx hb hts hown hK hw 0 rfl kw1232 dX9_orders_130 (fun H locs hw => ?_)
        obtain ⟨o8, eo8, h⟩ := z_lt h
        have hw : Wd dC dI A s.heap [wX9 h_me q_me k_me o8] H locs := by rw [eo8]; exact hw
        refine lv_aload_n hx hb dX9_orders_133 rfl (lv_at hl 0 rfl) ?_
        refine lv_iconst (v := (-1)) hx hb dX9_orders_134 (by decide) ?_
        refine fpX9_57 hx hb hts hown hK hw 0 rfl kw1233 dX9_orders_135 (fun H locs hw => ?_)
        obtain ⟨o9, eo9, h⟩ := z_lt h
        have hw : Wd dC dI A s.heap [wX9 h_me q_me k_me o9] H locs := by rw [eo9]; exact hw
        refine lv_iconst (v := 0) hx hb dX9_orders_138 (by decide) ?_
        refine lv_istore_n (lv' := [(2, .int (0 : Int32)), (0, .ref h_me), (1, .int v1)]) hx hb dX9_orders_139 rfl hl (by decide) rfl (fun ls hl => ?_)
        exact lp_140_4  zfu v1 (0 : Int32) o9 _ _ _ h hw (lv_sub hl [1, 2, 0] rfl)
      · have h := z_f h c
        refine lv_aload_n hx hb dX9_orders_110 rfl (lv_at hl 0 rfl) ?_
        refine fgX9_10 hx hb hts hown hK hw 0 rfl kw1186 dX9_orders_111 ?_
        refine lv_iload_n hx hb dX9_orders_114 rfl (lv_at hl 2 rfl) ?_
        refine lv_aload_n hx hb dX9_orders_115 rfl (lv_at hl 0 rfl) ?_
        refine fgX9_7 hx hb hts hown hK hw 0 rfl kw1183 dX9_orders_116 ?_
        refine lv_iload_n hx hb dX9_orders_119 rfl (lv_at hl 2 rfl) ?_
        obtain ⟨g18, h⟩ := z_gd h
        refine faX9_7 hx hb hK hw 0 rfl rfl g18 dX9_orders_120 ?_
        obtain ⟨g19, h⟩ := z_gd h
        refine fbX9_10 hx hb hK hw 0 rfl rfl g19 dX9_orders_121 (fun H locs hw => ?_)
        obtain ⟨o20, eo20, h⟩ := z_lt h
        have hw : Wd dC dI A s.heap [wX9 h_me q_me k_me o20] H locs := by rw [eo20]; exact hw
        obtain ⟨x21, ex21, h⟩ := z_lt h
        refine lv_iinc (v := x21) (lv' := [(2, .int x21), (0, .ref h_me), (1, .int v1)]) hx hb dX9_orders_122 hl (k := 2) rfl ((congrArg (v2 + ·) (show Int32.ofInt 1 = (1 : Int32) from by decide)).trans ex21.symm) (by decide) rfl (fun ls hl => ?_)
        refine lv_goto (tgt := 104) hx hb dX9_orders_125 (by decide) ?_
        exact ih v1 x21 o20 _ _ _ h hw (lv_sub hl [1, 2, 0] rfl)
  have lp_77_2 : ∀ (N : Nat), ∀ (v1 : Int32) (v2 : Int32) (o_me : Ob) (H : Heap) (locs : List Loc) (ls : Array Slot), lp_X9_orders_77   N (v1, v2, o_me) = some y → Wd dC dI A s.heap [wX9 h_me q_me k_me o_me] H locs → lv_has ls 4 [(0, .ref h_me), (1, .int v1), (2, .int v2)] → W p l e ({ frames := 10, cells := 0, slots := 0, locals := 239 } : Room) s m ([.ref h_me] : List Value).toArray below meth c H locs 0 0 Qz (F0 m 77 ls []) := by
    intro N
    induction N with
    | zero =>
      intro v1 v2 o_me H locs ls h hw hl
      exact absurd (show (none : Option (Int32 × Ob)) = some y from h) (by simp)
    | succ N ih =>
      intro v1 v2 o_me H locs ls h hw hl
      have h : lb_X9_orders_77   (lp_X9_orders_77   N) v1 v2 o_me = some y := h
      unfold lb_X9_orders_77 at h
      refine lv_iload_n hx hb dX9_orders_77 rfl (lv_at hl 2 rfl) ?_
      refine lv_sipush (v := 400) hx hb dX9_orders_78 (by decide) ?_
      refine lv_icmp_ge (tgt := 102) hx hb dX9_orders_81 (by decide) (fun c => ?_) (fun c => ?_)
      · have h := z_t h c
        refine lv_iconst (v := 0) hx hb dX9_orders_102 (by decide) ?_
        refine lv_istore_n (lv' := [(2, .int (0 : Int32)), (0, .ref h_me), (1, .int v1)]) hx hb dX9_orders_103 rfl hl (by decide) rfl (fun ls hl => ?_)
        exact lp_104_3  zfu v1 (0 : Int32) o_me _ _ _ h hw (lv_sub hl [1, 2, 0] rfl)
      · have h := z_f h c
        refine lv_aload_n hx hb dX9_orders_84 rfl (lv_at hl 0 rfl) ?_
        refine fgX9_9 hx hb hts hown hK hw 0 rfl kw1185 dX9_orders_85 ?_
        refine lv_iload_n hx hb dX9_orders_88 rfl (lv_at hl 2 rfl) ?_
        refine lv_aload_n hx hb dX9_orders_89 rfl (lv_at hl 0 rfl) ?_
        refine fgX9_6 hx hb hts hown hK hw 0 rfl kw1182 dX9_orders_90 ?_
        refine lv_iload_n hx hb dX9_orders_93 rfl (lv_at hl 2 rfl) ?_
        obtain ⟨g22, h⟩ := z_gd h
        refine faX9_6 hx hb hK hw 0 rfl rfl g22 dX9_orders_94 ?_
        obtain ⟨g23, h⟩ := z_gd h
        refine fbX9_9 hx hb hK hw 0 rfl rfl g23 dX9_orders_95 (fun H locs hw => ?_)
        obtain ⟨o24, eo24, h⟩ := z_lt h
        have hw : Wd dC dI A s.heap [wX9 h_me q_me k_me o24] H locs := by rw [eo24]; exact hw
        obtain ⟨x25, ex25, h⟩ := z_lt h
        refine lv_iinc (v := x25) (lv' := [(2, .int x25), (0, .ref h_me), (1, .int v1)]) hx hb dX9_orders_96 hl (k := 2) rfl ((congrArg (v2 + ·) (show Int32.ofInt 1 = (1 : Int32) from by decide)).trans ex25.symm) (by decide) rfl (fun ls hl => ?_)
        refine lv_goto (tgt := 77) hx hb dX9_orders_99 (by decide) ?_
        exact ih v1 x25 o24 _ _ _ h hw (lv_sub hl [1, 2, 0] rfl)
  have bk_46_1 : ∀ (o_me : Ob) (H : Heap) (locs : List Loc) (ls : Array Slot), bk_X9_orders_46   o_me = some y → Wd dC dI A s.heap [wX9 h_me q_me k_me o_me] H locs → lv_has ls 4 [(0, .ref h_me)] → W p l e ({ frames := 10, cells := 0, slots := 0, locals := 239 } : Room) s m ([.ref h_me] : List Value).toArray below meth c H locs 0 0 Qz (F0 m 46 ls []) := by
    intro o_me H locs ls h hw hl
    unfold bk_X9_orders_46 at h
    refine lv_aload_n hx hb dX9_orders_46 rfl (lv_at hl 0 rfl) ?_
    obtain ⟨z5, ez5, h⟩ := z_bd h
    refine xj_v (xrV (As := []) (rest := []) ⟨hx, hb, hml, hown, hts⟩ (m_X9_endText l dC dI _ h_me q_me k_me o_me z5 ez5) kw1615 kw1612 kw1614 kw75 kw120 hd_X9_endText ⟨rfl, rfl⟩ rfl rfl ⟨rfl, rfl⟩ hX hK hw [0] (by decide) rfl rfl rfl rfl rfl hl.1 rfl rfl dX9_orders_47) hw hA [0] (by decide) rfl rfl (fun H locs hw => ?_)
    have hw : Wd dC dI A s.heap [wX9 h_me q_me k_me z5] H locs := hw
    refine lv_aload_n hx hb dX9_orders_50 rfl (lv_at hl 0 rfl) ?_
    refine fgX9_19 hx hb hts hown hK hw 0 rfl kw1195 dX9_orders_51 ?_
    refine lv_if_eq (tgt := 64) hx hb dX9_orders_54 (by decide) (fun c => ?_) (fun c => ?_)
    · have h := z_t h c
      refine lv_aload_n hx hb dX9_orders_64 rfl (lv_at hl 0 rfl) ?_
      refine lv_bipush (v := 17) hx hb dX9_orders_65 (by decide) ?_
      obtain ⟨z6, ez6, h⟩ := z_bd h
      refine xj_v (xrV (As := [.int (17 : Int32)]) (rest := []) ⟨hx, hb, hml, hown, hts⟩ (m_X9_keepAll l dC dI _ h_me q_me k_me z5 (17 : Int32) z6 ez6) kw1639 kw1636 kw1638 kw79 kw120 hd_X9_keepAll ⟨rfl, rfl⟩ rfl rfl ⟨rfl, rfl⟩ hX hK hw [0] (by decide) rfl rfl rfl rfl rfl hl.1 rfl rfl dX9_orders_67) hw hA [0] (by decide) rfl rfl (fun H locs hw => ?_)
      have hw : Wd dC dI A s.heap [wX9 h_me q_me k_me z6] H locs := hw
      refine lv_aload_n hx hb dX9_orders_70 rfl (lv_at hl 0 rfl) ?_
      refine fgX9_8 hx hb hts hown hK hw 0 rfl kw1184 dX9_orders_71 ?_
      obtain ⟨x7, ex7, h⟩ := z_lt h
      refine lv_fi (v := x7) ex7.symm ?_
      refine lv_istore_n (lv' := [(1, .int x7), (0, .ref h_me)]) hx hb dX9_orders_74 rfl hl (by decide) rfl (fun ls hl => ?_)
      refine lv_iconst (v := 0) hx hb dX9_orders_75 (by decide) ?_
      refine lv_istore_n (lv' := [(2, .int (0 : Int32)), (1, .int x7), (0, .ref h_me)]) hx hb dX9_orders_76 rfl hl (by decide) rfl (fun ls hl => ?_)
      exact lp_77_2  zfu x7 (0 : Int32) z6 _ _ _ h hw (lv_sub hl [2, 1, 0] rfl)
    · have h := z_f h c
      refine lv_aload_n hx hb dX9_orders_57 rfl (lv_at hl 0 rfl) ?_
      refine lv_bipush (v := (-6)) hx hb dX9_orders_58 (by decide) ?_
      obtain ⟨z26, ez26, h⟩ := z_bd h
      refine xj_i (xrV (As := [.int (-6 : Int32)]) (rest := []) ⟨hx, hb, hml, hown, hts⟩ (m_X9_tell l dC dI _ h_me q_me k_me z5 (-6 : Int32) z26 ez26) kw1374 kw1371 kw1373 kw39 kw120 hd_X9_tell ⟨rfl, rfl⟩ rfl rfl ⟨rfl, rfl⟩ hX hK hw [0] (by decide) rfl rfl rfl rfl rfl hl.1 rfl rfl dX9_orders_60) hw hA [0] (by decide) rfl rfl (fun H locs hw => ?_)
      have hw : Wd dC dI A s.heap [wX9 h_me q_me k_me z26.2] H locs := hw
      have hy := Option.some.inj h
      rw [← hQz, ← hy]
      exact xr_i (v := z26.1) hx hb hr rfl hlk hK hw dX9_orders_63
  have lp_19_0 : ∀ (N : Nat), ∀ (o_me : Ob) (H : Heap) (locs : List Loc) (ls : Array Slot), lp_X9_orders_19   N o_me = some y → Wd dC dI A s.heap [wX9 h_me q_me k_me o_me] H locs → lv_has ls 4 [(0, .ref h_me)] → W p l e ({ frames := 10, cells := 0, slots := 0, locals := 239 } : Room) s m ([.ref h_me] : List Value).toArray below meth c H locs 0 0 Qz (F0 m 19 ls []) := by
    intro N
    induction N with
    | zero =>
      intro o_me H locs ls h hw hl
      exact absurd (show (none : Option (Int32 × Ob)) = some y from h) (by simp)
    | succ N ih =>
      intro o_me H locs ls h hw hl
      have h : lb_X9_orders_19   (lp_X9_orders_19   N) o_me = some y := h
      unfold lb_X9_orders_19 at h
      refine lv_aload_n hx hb dX9_orders_19 rfl (lv_at hl 0 rfl) ?_
      refine fgX9_19 hx hb hts hown hK hw 0 rfl kw1195 dX9_orders_20 ?_
      refine lv_if_ne (tgt := 46) hx hb dX9_orders_23 (by decide) (fun c => ?_) (fun c => ?_)
      · have h := z_f h c
        exact bk_46_1  o_me _ _ _ h hw (lv_sub hl [0] rfl)
      · have h := z_t h c
        refine lv_aload_n hx hb dX9_orders_26 rfl (lv_at hl 0 rfl) ?_
        refine lv_bipush (v := 59) hx hb dX9_orders_27 (by decide) ?_
        obtain ⟨z27, ez27, h⟩ := z_bd h
        refine xj_i (xrV (As := [.int (59 : Int32)]) (rest := []) ⟨hx, hb, hml, hown, hts⟩ (m_X9_isSign l dC dI _ h_me q_me k_me o_me (59 : Int32) z27 ez27) kw1551 kw1548 kw1550 kw62 kw120 hd_X9_isSign ⟨rfl, rfl⟩ rfl rfl ⟨rfl, rfl⟩ hX hK hw [0] (by decide) rfl rfl rfl rfl rfl hl.1 rfl rfl dX9_orders_29) hw hA [0] (by decide) rfl rfl (fun H locs hw => ?_)
        have hw : Wd dC dI A s.heap [wX9 h_me q_me k_me o_me] H locs := hw
        refine lv_if_eq (tgt := 46) hx hb dX9_orders_32 (by decide) (fun c => ?_) (fun c => ?_)
        · have h := z_t h c
          exact bk_46_1  o_me _ _ _ h hw (lv_sub hl [0] rfl)
        · have h := z_f h c
          refine lv_aload_n hx hb dX9_orders_35 rfl (lv_at hl 0 rfl) ?_
          obtain ⟨z28, ez28, h⟩ := z_bd h
          refine xj_v (xrV (As := []) (rest := []) ⟨hx, hb, hml, hown, hts⟩ (m_X9_next l dC dI _ h_me q_me k_me o_me z28 ez28) kw1512 kw1509 kw1511 kw55 kw120 hd_X9_next ⟨rfl, rfl⟩ rfl rfl ⟨rfl, rfl⟩ hX hK hw [0] (by decide) rfl rfl rfl rfl rfl hl.1 rfl rfl dX9_orders_36) hw hA [0] (by decide) rfl rfl (fun H locs hw => ?_)
          have hw : Wd dC dI A s.heap [wX9 h_me q_me k_me z28] H locs := hw
          refine lv_aload_n hx hb dX9_orders_39 rfl (lv_at hl 0 rfl) ?_
          obtain ⟨z29, ez29, h⟩ := z_bd h
          refine xj_v (xrV (As := []) (rest := []) ⟨hx, hb, hml, hown, hts⟩ (m_X9_readOrder l dC dI _ h_me q_me k_me z28 z29 ez29) kw1803 kw1800 kw1802 kw100 kw120 hd_X9_readOrder ⟨rfl, rfl⟩ rfl rfl ⟨rfl, rfl⟩ hX hK hw [0] (by decide) rfl rfl rfl rfl rfl hl.1 rfl rfl dX9_orders_40) hw hA [0] (by decide) rfl rfl (fun H locs hw => ?_)
          have hw : Wd dC dI A s.heap [wX9 h_me q_me k_me z29] H locs := hw
          refine lv_goto (tgt := 19) hx hb dX9_orders_43 (by decide) ?_
          exact ih z29 _ _ _ h hw (lv_sub hl [0] rfl)
  unfold f_X9_orders at h
  refine lv_aload_n hx hb dX9_orders_0 rfl (lv_at hl 0 rfl) ?_
  refine lv_iconst (v := 0) hx hb dX9_orders_1 (by decide) ?_
  refine fpX9_0 hx hb hts hown hK hw 0 rfl kw1176 dX9_orders_2 (fun H locs hw => ?_)
  obtain ⟨o1, eo1, h⟩ := z_lt h
  have hw : Wd dC dI A s.heap [wX9 h_me q_me k_me o1] H locs := by rw [eo1]; exact hw
  refine lv_aload_n hx hb dX9_orders_5 rfl (lv_at hl 0 rfl) ?_
  refine lv_iconst (v := (-1)) hx hb dX9_orders_6 (by decide) ?_
  refine fpX9_58 hx hb hts hown hK hw 0 rfl kw1234 dX9_orders_7 (fun H locs hw => ?_)
  obtain ⟨o2, eo2, h⟩ := z_lt h
  have hw : Wd dC dI A s.heap [wX9 h_me q_me k_me o2] H locs := by rw [eo2]; exact hw
  refine lv_aload_n hx hb dX9_orders_10 rfl (lv_at hl 0 rfl) ?_
  refine lv_iconst (v := 1) hx hb dX9_orders_11 (by decide) ?_
  obtain ⟨z3, ez3, h⟩ := z_bd h
  refine xj_v (xrV (As := [.int (1 : Int32)]) (rest := []) ⟨hx, hb, hml, hown, hts⟩ (m_X9_beginText l dC dI _ h_me q_me k_me o2 (1 : Int32) z3 ez3) kw1504 kw1501 kw1503 kw53 kw120 hd_X9_beginText ⟨rfl, rfl⟩ rfl rfl ⟨rfl, rfl⟩ hX hK hw [0] (by decide) rfl rfl rfl rfl rfl hl.1 rfl rfl dX9_orders_12) hw hA [0] (by decide) rfl rfl (fun H locs hw => ?_)
  have hw : Wd dC dI A s.heap [wX9 h_me q_me k_me z3] H locs := hw
  refine lv_aload_n hx hb dX9_orders_15 rfl (lv_at hl 0 rfl) ?_
  obtain ⟨z4, ez4, h⟩ := z_bd h
  refine xj_v (xrV (As := []) (rest := []) ⟨hx, hb, hml, hown, hts⟩ (m_X9_readOrder l dC dI _ h_me q_me k_me z3 z4 ez4) kw1803 kw1800 kw1802 kw100 kw120 hd_X9_readOrder ⟨rfl, rfl⟩ rfl rfl ⟨rfl, rfl⟩ hX hK hw [0] (by decide) rfl rfl rfl rfl rfl hl.1 rfl rfl dX9_orders_16) hw hA [0] (by decide) rfl rfl (fun H locs hw => ?_)
  have hw : Wd dC dI A s.heap [wX9 h_me q_me k_me z4] H locs := hw
  exact lp_19_0  zfu z4 _ _ _ h hw (lv_sub hl [0] rfl)

