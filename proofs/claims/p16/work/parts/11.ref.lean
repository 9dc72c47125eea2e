def lb_X9_keepAll_2   (rec_2_0 : Int32 × Int32 × Ob → Option (Ob)) (v1 : Int32) (v2 : Int32) (o_me : Ob) : Option (Ob) :=
  if (25 : Int32) ≤ v2 then
  (some o_me)
  else
  (zgd (zin ((4 : Int32) + v2) 5484) <|
  zgd (zin (((25 : Int32) * v1) + v2) 450) <|
  zlt (tA o_me 6 (((25 : Int32) * v1) + v2).toNatClampNeg (gA o_me 3 ((4 : Int32) + v2).toNatClampNeg)) fun o3 =>
  zlt (v2 + (1 : Int32)) fun x4 =>
  rec_2_0 (v1, x4, o3))
def lp_X9_keepAll_2   : Nat → (Int32 × Int32 × Ob) → Option (Ob) := zit (fun rec a => lb_X9_keepAll_2   rec a.1 a.2.1 a.2.2)
def f_X9_keepAll (o_me : Ob) (p0 : Int32) : Option (Ob) :=
  lp_X9_keepAll_2   zfu (p0, (0 : Int32), o_me)
set_option maxHeartbeats 4000000 in
set_option maxRecDepth 100000 in
theorem m_X9_keepAll (l : Launch) (dC : Nat → ClassId) (dI : Nat → Nat → Nat) (sz : Nat) (h_me : Nat) (q_me : Nat → Nat) (k_me : Nat → ClassId) (o_me : Ob) (p0 : Int32) (y : Ob) (h : f_X9_keepAll o_me p0 = some y) : CV l yX9_keepAll cX9_keepAll 3 none ({ frames := 0, cells := 0, slots := 0, locals := 0 } : Room) dC dI sz [.ref h_me, .int p0] [wX9 h_me q_me k_me o_me] [tX9 k_me] [wX9 h_me q_me k_me y] := by
  refine CC_of (by decide) (Nat.le_of_ble_eq_true rfl) ?_
  intro p e s m below meth c A ls hx hb hml hr hlk hnm hown hts hX hK hP hD hA hl
  have hl : lv_has ls 3 [(0, .ref h_me), (1, .int p0)] := hl
  have hown : s.vm.findClass RX9 = some m.cls := hown
  have hw : Wd dC dI A s.heap [wX9 h_me q_me k_me o_me] s.heap [] := ⟨hP, hD, va_S.rf⟩
  generalize hQz : (MQ below (QV dC dI (fun (_ : Unit) => True) (fun _ => Jn [wX9 h_me q_me k_me y]) (fun _ => Jt [tX9 k_me]) A) ([.ref h_me, .int p0] : List Value).toArray s 0 0 A) = Qz
  clear hP hD hnm
  have lp_2_0 : ∀ (N : Nat), ∀ (v1 : Int32) (v2 : Int32) (o_me : Ob) (H : Heap) (locs : List Loc) (ls : Array Slot), lp_X9_keepAll_2   N (v1, v2, o_me) = some y → Wd dC dI A s.heap [wX9 h_me q_me k_me o_me] H locs → lv_has ls 3 [(0, .ref h_me), (1, .int v1), (2, .int v2)] → W p l e ({ frames := 0, cells := 0, slots := 0, locals := 0 } : Room) s m ([.ref h_me, .int p0] : List Value).toArray below meth c H locs 0 0 Qz (F0 m 2 ls []) := by
    intro N
    induction N with
    | zero =>
      intro v1 v2 o_me H locs ls h hw hl
      exact absurd (show (none : Option (Ob)) = some y from h) (by simp)
    | succ N ih =>
      intro v1 v2 o_me H locs ls h hw hl
      have h : lb_X9_keepAll_2   (lp_X9_keepAll_2   N) v1 v2 o_me = some y := h
      unfold lb_X9_keepAll_2 at h
      refine lv_iload_n hx hb dX9_keepAll_2 rfl (lv_at hl 2 rfl) ?_
      refine lv_bipush (v := 25) hx hb dX9_keepAll_3 (by decide) ?_
      refine lv_icmp_ge (tgt := 33) hx hb dX9_keepAll_5 (by decide) (fun c => ?_) (fun c => ?_)
      · have h := z_t h c
        have hy := Option.some.inj h
        rw [← hQz, ← hy]
        exact xr_v hx hb hr hlk hK hw dX9_keepAll_33
      · have h := z_f h c
        refine lv_aload_n hx hb dX9_keepAll_8 rfl (lv_at hl 0 rfl) ?_
        refine fgX9_6 hx hb hts hown hK hw 0 rfl kw1182 dX9_keepAll_9 ?_
        refine lv_bipush (v := 25) hx hb dX9_keepAll_12 (by decide) ?_
        refine lv_iload_n hx hb dX9_keepAll_14 rfl (lv_at hl 1 rfl) ?_
        refine lv_imul hx hb dX9_keepAll_15 ?_
        refine lv_iload_n hx hb dX9_keepAll_16 rfl (lv_at hl 2 rfl) ?_
        refine lv_iadd hx hb dX9_keepAll_17 ?_
        refine lv_aload_n hx hb dX9_keepAll_18 rfl (lv_at hl 0 rfl) ?_
        refine fgX9_3 hx hb hts hown hK hw 0 rfl kw1179 dX9_keepAll_19 ?_
        refine lv_iconst (v := 4) hx hb dX9_keepAll_22 (by decide) ?_
        refine lv_iload_n hx hb dX9_keepAll_23 rfl (lv_at hl 2 rfl) ?_
        refine lv_iadd hx hb dX9_keepAll_24 ?_
        obtain ⟨g1, h⟩ := z_gd h
        refine faX9_3 hx hb hK hw 0 rfl rfl g1 dX9_keepAll_25 ?_
        obtain ⟨g2, h⟩ := z_gd h
        refine fbX9_6 hx hb hK hw 0 rfl rfl g2 dX9_keepAll_26 (fun H locs hw => ?_)
        obtain ⟨o3, eo3, h⟩ := z_lt h
        have hw : Wd dC dI A s.heap [wX9 h_me q_me k_me o3] H locs := by rw [eo3]; exact hw
        obtain ⟨x4, ex4, h⟩ := z_lt h
        refine lv_iinc (v := x4) (lv' := [(2, .int x4), (0, .ref h_me), (1, .int v1)]) hx hb dX9_keepAll_27 hl (k := 2) rfl ((congrArg (v2 + ·) (show Int32.ofInt 1 = (1 : Int32) from by decide)).trans ex4.symm) (by decide) rfl (fun ls hl => ?_)
        refine lv_goto (tgt := 2) hx hb dX9_keepAll_30 (by decide) ?_
        exact ih v1 x4 o3 _ _ _ h hw (lv_sub hl [1, 2, 0] rfl)
  unfold f_X9_keepAll at h
  refine lv_iconst (v := 0) hx hb dX9_keepAll_0 (by decide) ?_
  refine lv_istore_n (lv' := [(2, .int (0 : Int32)), (0, .ref h_me), (1, .int p0)]) hx hb dX9_keepAll_1 rfl hl (by decide) rfl (fun ls hl => ?_)
  exact lp_2_0  zfu p0 (0 : Int32) o_me _ _ _ h hw (lv_sub hl [1, 2, 0] rfl)

def bk_X9_remember_77   (v1 : Int32) (o_me : Ob) : Option (Ob) :=
  (f_X9_keepAll o_me (gI o_me 8)).bind fun z1 =>
  zgd (zin (gI z1 8) 16) <|
  zlt (tA z1 7 (gI z1 8).toNatClampNeg v1) fun o3 =>
  zlt (sI o3 8 ((gI o3 8) + (1 : Int32))) fun o4 =>
  some o4
def lb_X9_remember_41   (rec_41_2 : Int32 × Int32 × Ob → Option (Ob)) (v1 : Int32) (v2 : Int32) (o_me : Ob) : Option (Ob) :=
  if (15 : Int32) ≤ v2 then
  (zlt (sI o_me 8 ((gI o_me 8) - (1 : Int32))) fun o5 =>
  bk_X9_remember_77   v1 o5)
  else
  (zgd (zin (v2 + (1 : Int32)) 16) <|
  zgd (zin v2 16) <|
  zlt (tA o_me 7 v2.toNatClampNeg (gA o_me 7 (v2 + (1 : Int32)).toNatClampNeg)) fun o8 =>
  zlt (v2 + (1 : Int32)) fun x9 =>
  rec_41_2 (v1, x9, o8))
def lp_X9_remember_41   : Nat → (Int32 × Int32 × Ob) → Option (Ob) := zit (fun rec a => lb_X9_remember_41   rec a.1 a.2.1 a.2.2)
def lb_X9_remember_11   (rec_11_1 : Int32 × Int32 × Ob → Option (Ob)) (v1 : Int32) (v2 : Int32) (o_me : Ob) : Option (Ob) :=
  if (375 : Int32) ≤ v2 then
  (lp_X9_remember_41   zfu (v1, (0 : Int32), o_me))
  else
  (zgd (zin (v2 + (25 : Int32)) 450) <|
  zgd (zin v2 450) <|
  zlt (tA o_me 6 v2.toNatClampNeg (gA o_me 6 (v2 + (25 : Int32)).toNatClampNeg)) fun o12 =>
  zlt (v2 + (1 : Int32)) fun x13 =>
  rec_11_1 (v1, x13, o12))
def lp_X9_remember_11   : Nat → (Int32 × Int32 × Ob) → Option (Ob) := zit (fun rec a => lb_X9_remember_11   rec a.1 a.2.1 a.2.2)
def f_X9_remember (o_me : Ob) (p0 : Int32) : Option (Ob) :=
  if (gI o_me 8) = (16 : Int32) then
  (lp_X9_remember_11   zfu (p0, (0 : Int32), o_me))
  else
  (bk_X9_remember_77   p0 o_me)
set_option maxHeartbeats 4000000 in
set_option maxRecDepth 100000 in
theorem m_X9_remember (l : Launch) (dC : Nat → ClassId) (dI : Nat → Nat → Nat) (sz : Nat) (h_me : Nat) (q_me : Nat → Nat) (k_me : Nat → ClassId) (o_me : Ob) (p0 : Int32) (y : Ob) (h : f_X9_remember o_me p0 = some y) : CV l yX9_remember cX9_remember 3 none ({ frames := 1, cells := 0, slots := 0, locals := 22 } : Room) dC dI sz [.ref h_me, .int p0] [wX9 h_me q_me k_me o_me] [tX9 k_me] [wX9 h_me q_me k_me y] := by
  refine CC_of (by decide) (Nat.le_of_ble_eq_true rfl) ?_
  intro p e s m below meth c A ls hx hb hml hr hlk hnm hown hts hX hK hP hD hA hl
  have hl : lv_has ls 3 [(0, .ref h_me), (1, .int p0)] := hl
  have hown : s.vm.findClass RX9 = some m.cls := hown
  have hw : Wd dC dI A s.heap [wX9 h_me q_me k_me o_me] s.heap [] := ⟨hP, hD, va_S.rf⟩
  generalize hQz : (MQ below (QV dC dI (fun (_ : Unit) => True) (fun _ => Jn [wX9 h_me q_me k_me y]) (fun _ => Jt [tX9 k_me]) A) ([.ref h_me, .int p0] : List Value).toArray s 0 0 A) = Qz
  clear hP hD hnm
  have bk_77_0 : ∀ (v1 : Int32) (o_me : Ob) (H : Heap) (locs : List Loc) (ls : Array Slot), bk_X9_remember_77   v1 o_me = some y → Wd dC dI A s.heap [wX9 h_me q_me k_me o_me] H locs → lv_has ls 3 [(0, .ref h_me), (1, .int v1)] → W p l e ({ frames := 1, cells := 0, slots := 0, locals := 22 } : Room) s m ([.ref h_me, .int p0] : List Value).toArray below meth c H locs 0 0 Qz (F0 m 77 ls []) := by
    intro v1 o_me H locs ls h hw hl
    unfold bk_X9_remember_77 at h
    refine lv_aload_n hx hb dX9_remember_77 rfl (lv_at hl 0 rfl) ?_
    refine lv_aload_n hx hb dX9_remember_78 rfl (lv_at hl 0 rfl) ?_
    refine fgX9_8 hx hb hts hown hK hw 0 rfl kw1184 dX9_remember_79 ?_
    obtain ⟨z1, ez1, h⟩ := z_bd h
    refine xj_v (xrV (As := [.int (gI o_me 8)]) (rest := []) ⟨hx, hb, hml, hown, hts⟩ (m_X9_keepAll l dC dI _ h_me q_me k_me o_me (gI o_me 8) z1 ez1) kw1639 kw1636 kw1638 kw79 kw120 hd_X9_keepAll ⟨rfl, rfl⟩ rfl rfl ⟨rfl, rfl⟩ hX hK hw [0] (by decide) rfl rfl rfl rfl rfl hl.1 rfl rfl dX9_remember_82) hw hA [0] (by decide) rfl rfl (fun H locs hw => ?_)
    have hw : Wd dC dI A s.heap [wX9 h_me q_me k_me z1] H locs := hw
    refine lv_aload_n hx hb dX9_remember_85 rfl (lv_at hl 0 rfl) ?_
    refine fgX9_7 hx hb hts hown hK hw 0 rfl kw1183 dX9_remember_86 ?_
    refine lv_aload_n hx hb dX9_remember_89 rfl (lv_at hl 0 rfl) ?_
    refine fgX9_8 hx hb hts hown hK hw 0 rfl kw1184 dX9_remember_90 ?_
    refine lv_iload_n hx hb dX9_remember_93 rfl (lv_at hl 1 rfl) ?_
    obtain ⟨g2, h⟩ := z_gd h
    refine fbX9_7 hx hb hK hw 0 rfl rfl g2 dX9_remember_94 (fun H locs hw => ?_)
    obtain ⟨o3, eo3, h⟩ := z_lt h
    have hw : Wd dC dI A s.heap [wX9 h_me q_me k_me o3] H locs := by rw [eo3]; exact hw
    refine lv_aload_n hx hb dX9_remember_95 rfl (lv_at hl 0 rfl) ?_
    refine lv_dup hx hb dX9_remember_96 rfl ?_
    refine fgX9_8 hx hb hts hown hK hw 0 rfl kw1184 dX9_remember_97 ?_
    refine lv_iconst (v := 1) hx hb dX9_remember_100 (by decide) ?_
    refine lv_iadd hx hb dX9_remember_101 ?_
    refine fpX9_8 hx hb hts hown hK hw 0 rfl kw1184 dX9_remember_102 (fun H locs hw => ?_)
    obtain ⟨o4, eo4, h⟩ := z_lt h
    have hw : Wd dC dI A s.heap [wX9 h_me q_me k_me o4] H locs := by rw [eo4]; exact hw
    have hy := Option.some.inj h
    rw [← hQz, ← hy]
    exact xr_v hx hb hr hlk hK hw dX9_remember_105
  have lp_41_2 : ∀ (N : Nat), ∀ (v1 : Int32) (v2 : Int32) (o_me : Ob) (H : Heap) (locs : List Loc) (ls : Array Slot), lp_X9_remember_41   N (v1, v2, o_me) = some y → Wd dC dI A s.heap [wX9 h_me q_me k_me o_me] H locs → lv_has ls 3 [(0, .ref h_me), (1, .int v1), (2, .int v2)] → W p l e ({ frames := 1, cells := 0, slots := 0, locals := 22 } : Room) s m ([.ref h_me, .int p0] : List Value).toArray below meth c H locs 0 0 Qz (F0 m 41 ls []) := by
    intro N
    induction N with
    | zero =>
      intro v1 v2 o_me H locs ls h hw hl
      exact absurd (show (none : Option (Ob)) = some y from h) (by simp)
    | succ N ih =>
      intro v1 v2 o_me H locs ls h hw hl
      have h : lb_X9_remember_41   (lp_X9_remember_41   N) v1 v2 o_me = some y := h
      unfold lb_X9_remember_41 at h
      refine lv_iload_n hx hb dX9_remember_41 rfl (lv_at hl 2 rfl) ?_
      refine lv_bipush (v := 15) hx hb dX9_remember_42 (by decide) ?_
      refine lv_icmp_ge (tgt := 67) hx hb dX9_remember_44 (by decide) (fun c => ?_) (fun c => ?_)
      · have h := z_t h c
        refine lv_aload_n hx hb dX9_remember_67 rfl (lv_at hl 0 rfl) ?_
        refine lv_dup hx hb dX9_remember_68 rfl ?_
        refine fgX9_8 hx hb hts hown hK hw 0 rfl kw1184 dX9_remember_69 ?_
        refine lv_iconst (v := 1) hx hb dX9_remember_72 (by decide) ?_
        refine lv_isub hx hb dX9_remember_73 ?_
        refine fpX9_8 hx hb hts hown hK hw 0 rfl kw1184 dX9_remember_74 (fun H locs hw => ?_)
        obtain ⟨o5, eo5, h⟩ := z_lt h
        have hw : Wd dC dI A s.heap [wX9 h_me q_me k_me o5] H locs := by rw [eo5]; exact hw
        exact bk_77_0  v1 o5 _ _ _ h hw (lv_sub hl [0, 1] rfl)
      · have h := z_f h c
        refine lv_aload_n hx hb dX9_remember_47 rfl (lv_at hl 0 rfl) ?_
        refine fgX9_7 hx hb hts hown hK hw 0 rfl kw1183 dX9_remember_48 ?_
        refine lv_iload_n hx hb dX9_remember_51 rfl (lv_at hl 2 rfl) ?_
        refine lv_aload_n hx hb dX9_remember_52 rfl (lv_at hl 0 rfl) ?_
        refine fgX9_7 hx hb hts hown hK hw 0 rfl kw1183 dX9_remember_53 ?_
        refine lv_iload_n hx hb dX9_remember_56 rfl (lv_at hl 2 rfl) ?_
        refine lv_iconst (v := 1) hx hb dX9_remember_57 (by decide) ?_
        refine lv_iadd hx hb dX9_remember_58 ?_
        obtain ⟨g6, h⟩ := z_gd h
        refine faX9_7 hx hb hK hw 0 rfl rfl g6 dX9_remember_59 ?_
        obtain ⟨g7, h⟩ := z_gd h
        refine fbX9_7 hx hb hK hw 0 rfl rfl g7 dX9_remember_60 (fun H locs hw => ?_)
        obtain ⟨o8, eo8, h⟩ := z_lt h
        have hw : Wd dC dI A s.heap [wX9 h_me q_me k_me o8] H locs := by rw [eo8]; exact hw
        obtain ⟨x9, ex9, h⟩ := z_lt h
        refine lv_iinc (v := x9) (lv' := [(2, .int x9), (0, .ref h_me), (1, .int v1)]) hx hb dX9_remember_61 hl (k := 2) rfl ((congrArg (v2 + ·) (show Int32.ofInt 1 = (1 : Int32) from by decide)).trans ex9.symm) (by decide) rfl (fun ls hl => ?_)
        refine lv_goto (tgt := 41) hx hb dX9_remember_64 (by decide) ?_
        exact ih v1 x9 o8 _ _ _ h hw (lv_sub hl [1, 2, 0] rfl)
  have lp_11_1 : ∀ (N : Nat), ∀ (v1 : Int32) (v2 : Int32) (o_me : Ob) (H : Heap) (locs : List Loc) (ls : Array Slot), lp_X9_remember_11   N (v1, v2, o_me) = some y → Wd dC dI A s.heap [wX9 h_me q_me k_me o_me] H locs → lv_has ls 3 [(0, .ref h_me), (1, .int v1), (2, .int v2)] → W p l e ({ frames := 1, cells := 0, slots := 0, locals := 22 } : Room) s m ([.ref h_me, .int p0] : List Value).toArray below meth c H locs 0 0 Qz (F0 m 11 ls []) := by
    intro N
    induction N with
    | zero =>
      intro v1 v2 o_me H locs ls h hw hl
      exact absurd (show (none : Option (Ob)) = some y from h) (by simp)
    | succ N ih =>
      intro v1 v2 o_me H locs ls h hw hl
      have h : lb_X9_remember_11   (lp_X9_remember_11   N) v1 v2 o_me = some y := h
      unfold lb_X9_remember_11 at h
      refine lv_iload_n hx hb dX9_remember_11 rfl (lv_at hl 2 rfl) ?_
      refine lv_sipush (v := 375) hx hb dX9_remember_12 (by decide) ?_
      refine lv_icmp_ge (tgt := 39) hx hb dX9_remember_15 (by decide) (fun c => ?_) (fun c => ?_)
      · have h := z_t h c
        refine lv_iconst (v := 0) hx hb dX9_remember_39 (by decide) ?_
        refine lv_istore_n (lv' := [(2, .int (0 : Int32)), (0, .ref h_me), (1, .int v1)]) hx hb dX9_remember_40 rfl hl (by decide) rfl (fun ls hl => ?_)
        exact lp_41_2  zfu v1 (0 : Int32) o_me _ _ _ h hw (lv_sub hl [1, 2, 0] rfl)
      · have h := z_f h c
        refine lv_aload_n hx hb dX9_remember_18 rfl (lv_at hl 0 rfl) ?_
        refine fgX9_6 hx hb hts hown hK hw 0 rfl kw1182 dX9_remember_19 ?_
        refine lv_iload_n hx hb dX9_remember_22 rfl (lv_at hl 2 rfl) ?_
        refine lv_aload_n hx hb dX9_remember_23 rfl (lv_at hl 0 rfl) ?_
        refine fgX9_6 hx hb hts hown hK hw 0 rfl kw1182 dX9_remember_24 ?_
        refine lv_iload_n hx hb dX9_remember_27 rfl (lv_at hl 2 rfl) ?_
        refine lv_bipush (v := 25) hx hb dX9_remember_28 (by decide) ?_
        refine lv_iadd hx hb dX9_remember_30 ?_
        obtain ⟨g10, h⟩ := z_gd h
        refine faX9_6 hx hb hK hw 0 rfl rfl g10 dX9_remember_31 ?_
        obtain ⟨g11, h⟩ := z_gd h
        refine fbX9_6 hx hb hK hw 0 rfl rfl g11 dX9_remember_32 (fun H locs hw => ?_)
        obtain ⟨o12, eo12, h⟩ := z_lt h
        have hw : Wd dC dI A s.heap [wX9 h_me q_me k_me o12] H locs := by rw [eo12]; exact hw
        obtain ⟨x13, ex13, h⟩ := z_lt h
        refine lv_iinc (v := x13) (lv' := [(2, .int x13), (0, .ref h_me), (1, .int v1)]) hx hb dX9_remember_33 hl (k := 2) rfl ((congrArg (v2 + ·) (show Int32.ofInt 1 = (1 : Int32) from by decide)).trans ex13.symm) (by decide) rfl (fun ls hl => ?_)
        refine lv_goto (tgt := 11) hx hb dX9_remember_36 (by decide) ?_
        exact ih v1 x13 o12 _ _ _ h hw (lv_sub hl [1, 2, 0] rfl)
  unfold f_X9_remember at h
  refine lv_aload_n hx hb dX9_remember_0 rfl (lv_at hl 0 rfl) ?_
  refine fgX9_8 hx hb hts hown hK hw 0 rfl kw1184 dX9_remember_1 ?_
  refine lv_bipush (v := 16) hx hb dX9_remember_4 (by decide) ?_
  refine lv_icmp_ne (tgt := 77) hx hb dX9_remember_6 (by decide) (fun c => ?_) (fun c => ?_)
  · have h := z_f h c
    exact bk_77_0  p0 o_me _ _ _ h hw (lv_sub hl [0, 1] rfl)
  · have h := z_t h c
    refine lv_iconst (v := 0) hx hb dX9_remember_9 (by decide) ?_
    refine lv_istore_n (lv' := [(2, .int (0 : Int32)), (0, .ref h_me), (1, .int p0)]) hx hb dX9_remember_10 rfl hl (by decide) rfl (fun ls hl => ?_)
    exact lp_11_1  zfu p0 (0 : Int32) o_me _ _ _ h hw (lv_sub hl [1, 2, 0] rfl)

def f_X9_winsOf (o_me : Ob) (p0 : Int32) (p1 : Int32) (p2 : Int32) : Option (Int32 × Ob) :=
  (f_X9_tells o_me (2 : Int32) p0 p1 p2 ((4 : Int64) - p2.toInt64)).bind fun z1 =>
  (f_X9_within z1.1 (0 : Int32) (9 : Int32)).bind fun z2 =>
  some (z2, z1.2)
set_option maxHeartbeats 4000000 in
set_option maxRecDepth 100000 in
theorem m_X9_winsOf (l : Launch) (dC : Nat → ClassId) (dI : Nat → Nat → Nat) (sz : Nat) (h_me : Nat) (q_me : Nat → Nat) (k_me : Nat → ClassId) (o_me : Ob) (p0 : Int32) (p1 : Int32) (p2 : Int32) (y : Int32 × Ob) (h : f_X9_winsOf o_me p0 p1 p2 = some y) : CI l yX9_winsOf cX9_winsOf 4 (some .int) ({ frames := 5, cells := 0, slots := 0, locals := 123 } : Room) dC dI sz [.ref h_me, .int p0, .int p1, .int p2] [wX9 h_me q_me k_me o_me] [tX9 k_me] y.1 [wX9 h_me q_me k_me y.2] := by
  refine CC_of (by decide) (Nat.le_of_ble_eq_true rfl) ?_
  intro p e s m below meth c A ls hx hb hml hr hlk hnm hown hts hX hK hP hD hA hl
  have hl : lv_has ls 4 [(0, .ref h_me), (1, .int p0), (2, .int p1), (3, .int p2)] := hl
  have hown : s.vm.findClass RX9 = some m.cls := hown
  have hw : Wd dC dI A s.heap [wX9 h_me q_me k_me o_me] s.heap [] := ⟨hP, hD, va_S.rf⟩
  generalize hQz : (MQ below (QI dC dI (fun r (_ : Unit) => r = y.1) (fun _ => Jn [wX9 h_me q_me k_me y.2]) (fun _ => Jt [tX9 k_me]) A) ([.ref h_me, .int p0, .int p1, .int p2] : List Value).toArray s 0 0 A) = Qz
  clear hP hD hnm
  unfold f_X9_winsOf at h
  refine lv_aload_n hx hb dX9_winsOf_0 rfl (lv_at hl 0 rfl) ?_
  refine lv_iconst (v := 2) hx hb dX9_winsOf_1 (by decide) ?_
  refine lv_iload_n hx hb dX9_winsOf_2 rfl (lv_at hl 1 rfl) ?_
  refine lv_iload_n hx hb dX9_winsOf_3 rfl (lv_at hl 2 rfl) ?_
  refine lv_iload_n hx hb dX9_winsOf_4 rfl (lv_at hl 3 rfl) ?_
  refine lv_ldc2 (v := 4) hx hb hown (hts _ kw1648) dX9_winsOf_5 ?_
  refine lv_iload_n hx hb dX9_winsOf_8 rfl (lv_at hl 3 rfl) ?_
  refine lv_i2l hx hb dX9_winsOf_9 rfl ?_
  refine lv_lsub hx hb dX9_winsOf_10 ?_
  obtain ⟨z1, ez1, h⟩ := z_bd h
  refine xj_l (xrV (As := [.int (2 : Int32), .int p0, .int p1, .int p2, .long ((4 : Int64) - p2.toInt64)]) (rest := []) ⟨hx, hb, hml, hown, hts⟩ (m_X9_tells l dC dI _ h_me q_me k_me o_me (2 : Int32) p0 p1 p2 ((4 : Int64) - p2.toInt64) z1 ez1) kw1415 kw1412 kw1414 kw44 kw120 hd_X9_tells ⟨rfl, rfl⟩ rfl rfl ⟨rfl, rfl⟩ hX hK hw [0] (by decide) rfl rfl rfl rfl rfl hl.1 rfl rfl dX9_winsOf_11) hw hA [0] (by decide) rfl rfl (fun H locs hw => ?_)
  have hw : Wd dC dI A s.heap [wX9 h_me q_me k_me z1.2] H locs := hw
  refine lv_iconst (v := 0) hx hb dX9_winsOf_14 (by decide) ?_
  refine lv_bipush (v := 9) hx hb dX9_winsOf_15 (by decide) ?_
  obtain ⟨z2, ez2, h⟩ := z_bd h
  refine xj_i (xrS (As := [.long z1.1, .int (0 : Int32), .int (9 : Int32)]) (rest := []) ⟨hx, hb, hml, hown, hts⟩ (m_X9_within l dC dI _  z1.1 (0 : Int32) (9 : Int32) z2 ez2) kw1433 kw1431 kw1432 kw120 hd_X9_within ⟨rfl, rfl⟩ rfl rfl ⟨rfl, rfl⟩ hX hK hw [] (by decide) rfl rfl hl.1 rfl rfl dX9_winsOf_17) hw hA [] (by decide) rfl rfl (fun H locs hw => ?_)
  have hy := Option.some.inj h
  rw [← hQz, ← hy]
  exact xr_i (v := z2) hx hb hr rfl hlk hK hw dX9_winsOf_20

def f_X9_turnsOf (o_me : Ob) (p0 : Int32) (p1 : Int32) : Option (Int32 × Ob) :=
  zgd (zin ((8 : Int32) + p0) 5484) <|
  (f_X9_tells o_me (1 : Int32) p0 p1 (2 : Int32) ((((gA o_me 3 ((8 : Int32) + p0).toNatClampNeg) + (1 : Int32)) - ((gA o_me 3 ((8 : Int32) + p0).toNatClampNeg) + (1 : Int32)) / (10 : Int32) * (10 : Int32)).toInt64)).bind fun z2 =>
  (f_X9_within z2.1 (0 : Int32) (9 : Int32)).bind fun z3 =>
  some (z3, z2.2)
set_option maxHeartbeats 4000000 in
set_option maxRecDepth 100000 in
theorem m_X9_turnsOf (l : Launch) (dC : Nat → ClassId) (dI : Nat → Nat → Nat) (sz : Nat) (h_me : Nat) (q_me : Nat → Nat) (k_me : Nat → ClassId) (o_me : Ob) (p0 : Int32) (p1 : Int32) (y : Int32 × Ob) (h : f_X9_turnsOf o_me p0 p1 = some y) : CI l yX9_turnsOf cX9_turnsOf 3 (some .int) ({ frames := 5, cells := 0, slots := 0, locals := 123 } : Room) dC dI sz [.ref h_me, .int p0, .int p1] [wX9 h_me q_me k_me o_me] [tX9 k_me] y.1 [wX9 h_me q_me k_me y.2] := by
  refine CC_of (by decide) (Nat.le_of_ble_eq_true rfl) ?_
  intro p e s m below meth c A ls hx hb hml hr hlk hnm hown hts hX hK hP hD hA hl
  have hl : lv_has ls 3 [(0, .ref h_me), (1, .int p0), (2, .int p1)] := hl
  have hown : s.vm.findClass RX9 = some m.cls := hown
  have hw : Wd dC dI A s.heap [wX9 h_me q_me k_me o_me] s.heap [] := ⟨hP, hD, va_S.rf⟩
  generalize hQz : (MQ below (QI dC dI (fun r (_ : Unit) => r = y.1) (fun _ => Jn [wX9 h_me q_me k_me y.2]) (fun _ => Jt [tX9 k_me]) A) ([.ref h_me, .int p0, .int p1] : List Value).toArray s 0 0 A) = Qz
  clear hP hD hnm
  unfold f_X9_turnsOf at h
  refine lv_aload_n hx hb dX9_turnsOf_0 rfl (lv_at hl 0 rfl) ?_
  refine lv_iconst (v := 1) hx hb dX9_turnsOf_1 (by decide) ?_
  refine lv_iload_n hx hb dX9_turnsOf_2 rfl (lv_at hl 1 rfl) ?_
  refine lv_iload_n hx hb dX9_turnsOf_3 rfl (lv_at hl 2 rfl) ?_
  refine lv_iconst (v := 2) hx hb dX9_turnsOf_4 (by decide) ?_
  refine lv_aload_n hx hb dX9_turnsOf_5 rfl (lv_at hl 0 rfl) ?_
  refine fgX9_3 hx hb hts hown hK hw 0 rfl kw1179 dX9_turnsOf_6 ?_
  refine lv_bipush (v := 8) hx hb dX9_turnsOf_9 (by decide) ?_
  refine lv_iload_n hx hb dX9_turnsOf_11 rfl (lv_at hl 1 rfl) ?_
  refine lv_iadd hx hb dX9_turnsOf_12 ?_
  obtain ⟨g1, h⟩ := z_gd h
  refine faX9_3 hx hb hK hw 0 rfl rfl g1 dX9_turnsOf_13 ?_
  refine lv_iconst (v := 1) hx hb dX9_turnsOf_14 (by decide) ?_
  refine lv_iadd hx hb dX9_turnsOf_15 ?_
  refine lv_bipush (v := 10) hx hb dX9_turnsOf_16 (by decide) ?_
  refine lv_irem hx hb dX9_turnsOf_18 (by decide) ?_
  refine lv_i2l hx hb dX9_turnsOf_19 rfl ?_
  obtain ⟨z2, ez2, h⟩ := z_bd h
  refine xj_l (xrV (As := [.int (1 : Int32), .int p0, .int p1, .int (2 : Int32), .long ((((gA o_me 3 ((8 : Int32) + p0).toNatClampNeg) + (1 : Int32)) - ((gA o_me 3 ((8 : Int32) + p0).toNatClampNeg) + (1 : Int32)) / (10 : Int32) * (10 : Int32)).toInt64)]) (rest := []) ⟨hx, hb, hml, hown, hts⟩ (m_X9_tells l dC dI _ h_me q_me k_me o_me (1 : Int32) p0 p1 (2 : Int32) ((((gA o_me 3 ((8 : Int32) + p0).toNatClampNeg) + (1 : Int32)) - ((gA o_me 3 ((8 : Int32) + p0).toNatClampNeg) + (1 : Int32)) / (10 : Int32) * (10 : Int32)).toInt64) z2 ez2) kw1415 kw1412 kw1414 kw44 kw120 hd_X9_tells ⟨rfl, rfl⟩ rfl rfl ⟨rfl, rfl⟩ hX hK hw [0] (by decide) rfl rfl rfl rfl rfl hl.1 rfl rfl dX9_turnsOf_20) hw hA [0] (by decide) rfl rfl (fun H locs hw => ?_)
  have hw : Wd dC dI A s.heap [wX9 h_me q_me k_me z2.2] H locs := hw
  refine lv_iconst (v := 0) hx hb dX9_turnsOf_23 (by decide) ?_
  refine lv_bipush (v := 9) hx hb dX9_turnsOf_24 (by decide) ?_
  obtain ⟨z3, ez3, h⟩ := z_bd h
  refine xj_i (xrS (As := [.long z2.1, .int (0 : Int32), .int (9 : Int32)]) (rest := []) ⟨hx, hb, hml, hown, hts⟩ (m_X9_within l dC dI _  z2.1 (0 : Int32) (9 : Int32) z3 ez3) kw1433 kw1431 kw1432 kw120 hd_X9_within ⟨rfl, rfl⟩ rfl rfl ⟨rfl, rfl⟩ hX hK hw [] (by decide) rfl rfl hl.1 rfl rfl dX9_turnsOf_26) hw hA [] (by decide) rfl rfl (fun H locs hw => ?_)
  have hy := Option.some.inj h
  rw [← hQz, ← hy]
  exact xr_i (v := z3) hx hb hr rfl hlk hK hw dX9_turnsOf_29

def lb_X9_raceIt_219   (rec_219_5 : Int32 × Int32 × Ob → Option (Int32 × Ob)) (v2 : Int32) (v7 : Int32) (o_me : Ob) : Option (Int32 × Ob) :=
  if (gI o_me 43) ≤ v7 then
  (some (v2, o_me))
  else
  (zgd (zin v7 7) <|
  zgd (zin ((22 : Int32) + (gA o_me 42 v7.toNatClampNeg)) 5484) <|
  zlt (tA o_me 3 ((22 : Int32) + (gA o_me 42 v7.toNatClampNeg)).toNatClampNeg (0 : Int32)) fun o11 =>
  zlt (v7 + (1 : Int32)) fun x12 =>
  rec_219_5 (v2, x12, o11))
def lp_X9_raceIt_219   : Nat → (Int32 × Int32 × Ob) → Option (Int32 × Ob) := zit (fun rec a => lb_X9_raceIt_219   rec a.1 a.2.1 a.2.2)
def bk_X9_raceIt_216   (v2 : Int32) (o_me : Ob) : Option (Int32 × Ob) :=
  lp_X9_raceIt_219   zfu (v2, (0 : Int32), o_me)
def bk_X9_raceIt_169   (v2 : Int32) (v6 : Int32) (o_me : Ob) : Option (Int32 × Ob) :=
  if (gI o_me 43) ≤ (2 : Int32) then
  (bk_X9_raceIt_216   v2 o_me)
  else
  (zgd (zin ((15 : Int32) + (gA o_me 42 (2 : Int32).toNatClampNeg)) 5484) <|
  (f_X9_within (((gA o_me 3 ((15 : Int32) + (gA o_me 42 (2 : Int32).toNatClampNeg)).toNatClampNeg) + v6).toInt64) (0 : Int32) (999 : Int32)).bind fun z14 =>
  zgd (zin ((15 : Int32) + (gA o_me 42 (2 : Int32).toNatClampNeg)) 5484) <|
  zlt (tA o_me 3 ((15 : Int32) + (gA o_me 42 (2 : Int32).toNatClampNeg)).toNatClampNeg z14) fun o16 =>
  bk_X9_raceIt_216   v2 o16)
def bk_X9_raceIt_90   (v2 : Int32) (v3 : Int32) (v4 : Int32) (v5 : Int32) (s0 : Int32) (o_me : Ob) : Option (Int32 × Ob) :=
  zgd (zin ((15 : Int32) + v2) 5484) <|
  (f_X9_within (((gA o_me 3 ((15 : Int32) + v2).toNatClampNeg) + v3).toInt64) (0 : Int32) (999 : Int32)).bind fun z4 =>
  zgd (zin ((15 : Int32) + v2) 5484) <|
  zlt (tA o_me 3 ((15 : Int32) + v2).toNatClampNeg z4) fun o6 =>
  (f_X9_within (((gA o6 3 (7 : Int32).toNatClampNeg) + v4).toInt64) (0 : Int32) (999 : Int32)).bind fun z7 =>
  zlt (tA o6 3 (7 : Int32).toNatClampNeg z7) fun o8 =>
  if (gI o8 43) ≤ (1 : Int32) then
  (bk_X9_raceIt_169   v2 s0 o8)
  else
  (zgd (zin ((8 : Int32) + (gA o8 42 (1 : Int32).toNatClampNeg)) 5484) <|
  zlt (tA o8 3 ((8 : Int32) + (gA o8 42 (1 : Int32).toNatClampNeg)).toNatClampNeg v5) fun o18 =>
  bk_X9_raceIt_169   v2 s0 o18)
def bk_X9_raceIt_64   (v1 : Int32) (v2 : Int32) (v3 : Int32) (v4 : Int32) (s0 : Int32) (o_me : Ob) : Option (Int32 × Ob) :=
  if (gI o_me 43) ≤ (2 : Int32) then
  (bk_X9_raceIt_90   v2 v3 v4 s0 (0 : Int32) o_me)
  else
  ((f_X9_winsOf o_me (gA o_me 42 (2 : Int32).toNatClampNeg) v1 (3 : Int32)).bind fun z19 =>
  bk_X9_raceIt_90   v2 v3 v4 s0 z19.1 z19.2)
def bk_X9_raceIt_39   (v1 : Int32) (v2 : Int32) (v3 : Int32) (s0 : Int32) (o_me : Ob) : Option (Int32 × Ob) :=
  if (gI o_me 43) ≤ (1 : Int32) then
  (bk_X9_raceIt_64   v1 v2 v3 s0 (0 : Int32) o_me)
  else
  ((f_X9_turnsOf o_me (gA o_me 42 (1 : Int32).toNatClampNeg) v1).bind fun z20 =>
  bk_X9_raceIt_64   v1 v2 v3 s0 z20.1 z20.2)
def f_X9_raceIt (o_me : Ob) (p0 : Int32) : Option (Int32 × Ob) :=
  zlt (gA o_me 42 (0 : Int32).toNatClampNeg) fun x1 =>
  (f_X9_winsOf o_me x1 p0 (1 : Int32)).bind fun z2 =>
  if (gI z2.2 43) ≤ (1 : Int32) then
  (bk_X9_raceIt_39   p0 x1 z2.1 (0 : Int32) z2.2)
  else
  ((f_X9_winsOf z2.2 (gA z2.2 42 (1 : Int32).toNatClampNeg) p0 (2 : Int32)).bind fun z21 =>
  bk_X9_raceIt_39   p0 x1 z2.1 z21.1 z21.2)
set_option maxHeartbeats 4000000 in
set_option maxRecDepth 100000 in
theorem m_X9_raceIt (l : Launch) (dC : Nat → ClassId) (dI : Nat → Nat → Nat) (sz : Nat) (h_me : Nat) (q_me : Nat → Nat) (k_me : Nat → ClassId) (o_me : Ob) (p0 : Int32) (y : Int32 × Ob) (h : f_X9_raceIt o_me p0 = some y) : CI l yX9_raceIt cX9_raceIt 8 (some .int) ({ frames := 6, cells := 0, slots := 0, locals := 146 } : Room) dC dI sz [.ref h_me, .int p0] [wX9 h_me q_me k_me o_me] [tX9 k_me] y.1 [wX9 h_me q_me k_me y.2] := by
  refine CC_of (by decide) (Nat.le_of_ble_eq_true rfl) ?_
  intro p e s m below meth c A ls hx hb hml hr hlk hnm hown hts hX hK hP hD hA hl
  have hl : lv_has ls 8 [(0, .ref h_me), (1, .int p0)] := hl
  have hown : s.vm.findClass RX9 = some m.cls := hown
  have hw : Wd dC dI A s.heap [wX9 h_me q_me k_me o_me] s.heap [] := ⟨hP, hD, va_S.rf⟩
  generalize hQz : (MQ below (QI dC dI (fun r (_ : Unit) => r = y.1) (fun _ => Jn [wX9 h_me q_me k_me y.2]) (fun _ => Jt [tX9 k_me]) A) ([.ref h_me, .int p0] : List Value).toArray s 0 0 A) = Qz
  clear hP hD hnm
  have lp_219_5 : ∀ (N : Nat), ∀ (v2 : Int32) (v7 : Int32) (o_me : Ob) (H : Heap) (locs : List Loc) (ls : Array Slot), lp_X9_raceIt_219   N (v2, v7, o_me) = some y → Wd dC dI A s.heap [wX9 h_me q_me k_me o_me] H locs → lv_has ls 8 [(0, .ref h_me), (2, .int v2), (7, .int v7)] → W p l e ({ frames := 6, cells := 0, slots := 0, locals := 146 } : Room) s m ([.ref h_me, .int p0] : List Value).toArray below meth c H locs 0 0 Qz (F0 m 219 ls []) := by
    intro N
    induction N with
    | zero =>
      intro v2 v7 o_me H locs ls h hw hl
      exact absurd (show (none : Option (Int32 × Ob)) = some y from h) (by simp)
    | succ N ih =>
      intro v2 v7 o_me H locs ls h hw hl
      have h : lb_X9_raceIt_219   (lp_X9_raceIt_219   N) v2 v7 o_me = some y := h
      unfold lb_X9_raceIt_219 at h
      refine lv_iload hx hb dX9_raceIt_219 (lv_at hl 2 rfl) ?_
      refine lv_aload_n hx hb dX9_raceIt_221 rfl (lv_at hl 0 rfl) ?_
      refine fgX9_43 hx hb hts hown hK hw 0 rfl kw1219 dX9_raceIt_222 ?_
      refine lv_icmp_ge (tgt := 250) hx hb dX9_raceIt_225 (by decide) (fun c => ?_) (fun c => ?_)
      · have h := z_t h c
        refine lv_iload_n hx hb dX9_raceIt_250 rfl (lv_at hl 1 rfl) ?_
        have hy := Option.some.inj h
        rw [← hQz, ← hy]
        exact xr_i (v := v2) hx hb hr rfl hlk hK hw dX9_raceIt_251
      · have h := z_f h c
        refine lv_aload_n hx hb dX9_raceIt_228 rfl (lv_at hl 0 rfl) ?_
        refine fgX9_3 hx hb hts hown hK hw 0 rfl kw1179 dX9_raceIt_229 ?_
        refine lv_bipush (v := 22) hx hb dX9_raceIt_232 (by decide) ?_
        refine lv_aload_n hx hb dX9_raceIt_234 rfl (lv_at hl 0 rfl) ?_
        refine fgX9_42 hx hb hts hown hK hw 0 rfl kw1218 dX9_raceIt_235 ?_
        refine lv_iload hx hb dX9_raceIt_238 (lv_at hl 2 rfl) ?_
        obtain ⟨g9, h⟩ := z_gd h
        refine faX9_42 hx hb hK hw 0 rfl rfl g9 dX9_raceIt_240 ?_
        refine lv_iadd hx hb dX9_raceIt_241 ?_
        refine lv_iconst (v := 0) hx hb dX9_raceIt_242 (by decide) ?_
        obtain ⟨g10, h⟩ := z_gd h
        refine fbX9_3 hx hb hK hw 0 rfl rfl g10 dX9_raceIt_243 (fun H locs hw => ?_)
        obtain ⟨o11, eo11, h⟩ := z_lt h
        have hw : Wd dC dI A s.heap [wX9 h_me q_me k_me o11] H locs := by rw [eo11]; exact hw
        obtain ⟨x12, ex12, h⟩ := z_lt h
        refine lv_iinc (v := x12) (lv' := [(7, .int x12), (0, .ref h_me), (2, .int v2)]) hx hb dX9_raceIt_244 hl (k := 2) rfl ((congrArg (v7 + ·) (show Int32.ofInt 1 = (1 : Int32) from by decide)).trans ex12.symm) (by decide) rfl (fun ls hl => ?_)
        refine lv_goto (tgt := 219) hx hb dX9_raceIt_247 (by decide) ?_
        exact ih v2 x12 o11 _ _ _ h hw (lv_sub hl [1, 2, 0] rfl)
  have bk_216_4 : ∀ (v2 : Int32) (o_me : Ob) (H : Heap) (locs : List Loc) (ls : Array Slot), bk_X9_raceIt_216   v2 o_me = some y → Wd dC dI A s.heap [wX9 h_me q_me k_me o_me] H locs → lv_has ls 8 [(0, .ref h_me), (2, .int v2)] → W p l e ({ frames := 6, cells := 0, slots := 0, locals := 146 } : Room) s m ([.ref h_me, .int p0] : List Value).toArray below meth c H locs 0 0 Qz (F0 m 216 ls []) := by
    intro v2 o_me H locs ls h hw hl
    unfold bk_X9_raceIt_216 at h
    refine lv_iconst (v := 0) hx hb dX9_raceIt_216 (by decide) ?_
    refine lv_istore (lv' := [(7, .int (0 : Int32)), (0, .ref h_me), (2, .int v2)]) hx hb dX9_raceIt_217 hl (by decide) rfl (fun ls hl => ?_)
    exact lp_219_5  zfu v2 (0 : Int32) o_me _ _ _ h hw (lv_sub hl [1, 2, 0] rfl)
  have bk_169_3 : ∀ (v2 : Int32) (v6 : Int32) (o_me : Ob) (H : Heap) (locs : List Loc) (ls : Array Slot), bk_X9_raceIt_169   v2 v6 o_me = some y → Wd dC dI A s.heap [wX9 h_me q_me k_me o_me] H locs → lv_has ls 8 [(0, .ref h_me), (2, .int v2), (6, .int v6)] → W p l e ({ frames := 6, cells := 0, slots := 0, locals := 146 } : Room) s m ([.ref h_me, .int p0] : List Value).toArray below meth c H locs 0 0 Qz (F0 m 169 ls []) := by
    intro v2 v6 o_me H locs ls h hw hl
    unfold bk_X9_raceIt_169 at h
    refine lv_aload_n hx hb dX9_raceIt_169 rfl (lv_at hl 0 rfl) ?_
    refine fgX9_43 hx hb hts hown hK hw 0 rfl kw1219 dX9_raceIt_170 ?_
    refine lv_iconst (v := 2) hx hb dX9_raceIt_173 (by decide) ?_
    refine lv_icmp_le (tgt := 216) hx hb dX9_raceIt_174 (by decide) (fun c => ?_) (fun c => ?_)
    · have h := z_t h c
      exact bk_216_4  v2 o_me _ _ _ h hw (lv_sub hl [0, 1] rfl)
    · have h := z_f h c
      refine lv_aload_n hx hb dX9_raceIt_177 rfl (lv_at hl 0 rfl) ?_
      refine fgX9_3 hx hb hts hown hK hw 0 rfl kw1179 dX9_raceIt_178 ?_
      refine lv_bipush (v := 15) hx hb dX9_raceIt_181 (by decide) ?_
      refine lv_aload_n hx hb dX9_raceIt_183 rfl (lv_at hl 0 rfl) ?_
      refine fgX9_42 hx hb hts hown hK hw 0 rfl kw1218 dX9_raceIt_184 ?_
      refine lv_iconst (v := 2) hx hb dX9_raceIt_187 (by decide) ?_
      refine faX9_42 hx hb hK hw 0 rfl rfl (by decide) dX9_raceIt_188 ?_
      refine lv_iadd hx hb dX9_raceIt_189 ?_
      refine lv_aload_n hx hb dX9_raceIt_190 rfl (lv_at hl 0 rfl) ?_
      refine fgX9_3 hx hb hts hown hK hw 0 rfl kw1179 dX9_raceIt_191 ?_
      refine lv_bipush (v := 15) hx hb dX9_raceIt_194 (by decide) ?_
      refine lv_aload_n hx hb dX9_raceIt_196 rfl (lv_at hl 0 rfl) ?_
      refine fgX9_42 hx hb hts hown hK hw 0 rfl kw1218 dX9_raceIt_197 ?_
      refine lv_iconst (v := 2) hx hb dX9_raceIt_200 (by decide) ?_
      refine faX9_42 hx hb hK hw 0 rfl rfl (by decide) dX9_raceIt_201 ?_
      refine lv_iadd hx hb dX9_raceIt_202 ?_
      obtain ⟨g13, h⟩ := z_gd h
      refine faX9_3 hx hb hK hw 0 rfl rfl g13 dX9_raceIt_203 ?_
      refine lv_iload hx hb dX9_raceIt_204 (lv_at hl 2 rfl) ?_
      refine lv_iadd hx hb dX9_raceIt_206 ?_
      refine lv_i2l hx hb dX9_raceIt_207 rfl ?_
      refine lv_iconst (v := 0) hx hb dX9_raceIt_208 (by decide) ?_
      refine lv_sipush (v := 999) hx hb dX9_raceIt_209 (by decide) ?_
      obtain ⟨z14, ez14, h⟩ := z_bd h
      refine xj_i (xrS (As := [.long (((gA o_me 3 ((15 : Int32) + (gA o_me 42 (2 : Int32).toNatClampNeg)).toNatClampNeg) + v6).toInt64), .int (0 : Int32), .int (999 : Int32)]) (rest := [.int ((15 : Int32) + (gA o_me 42 (2 : Int32).toNatClampNeg)), .ref (q_me 3)]) ⟨hx, hb, hml, hown, hts⟩ (m_X9_within l dC dI _  (((gA o_me 3 ((15 : Int32) + (gA o_me 42 (2 : Int32).toNatClampNeg)).toNatClampNeg) + v6).toInt64) (0 : Int32) (999 : Int32) z14 ez14) kw1433 kw1431 kw1432 kw120 hd_X9_within ⟨rfl, rfl⟩ rfl rfl ⟨rfl, rfl⟩ hX hK hw [] (by decide) rfl rfl hl.1 rfl rfl dX9_raceIt_212) hw hA [] (by decide) rfl rfl (fun H locs hw => ?_)
      obtain ⟨g15, h⟩ := z_gd h
      refine fbX9_3 hx hb hK hw 0 rfl rfl g15 dX9_raceIt_215 (fun H locs hw => ?_)
      obtain ⟨o16, eo16, h⟩ := z_lt h
      have hw : Wd dC dI A s.heap [wX9 h_me q_me k_me o16] H locs := by rw [eo16]; exact hw
      exact bk_216_4  v2 o16 _ _ _ h hw (lv_sub hl [0, 1] rfl)
  have bk_90_2 : ∀ (v2 : Int32) (v3 : Int32) (v4 : Int32) (v5 : Int32) (s0 : Int32) (o_me : Ob) (H : Heap) (locs : List Loc) (ls : Array Slot), bk_X9_raceIt_90   v2 v3 v4 v5 s0 o_me = some y → Wd dC dI A s.heap [wX9 h_me q_me k_me o_me] H locs → lv_has ls 8 [(0, .ref h_me), (2, .int v2), (3, .int v3), (4, .int v4), (5, .int v5)] → W p l e ({ frames := 6, cells := 0, slots := 0, locals := 146 } : Room) s m ([.ref h_me, .int p0] : List Value).toArray below meth c H locs 0 0 Qz (F0 m 90 ls [.int s0]) := by
    intro v2 v3 v4 v5 s0 o_me H locs ls h hw hl
    unfold bk_X9_raceIt_90 at h
    refine lv_istore (lv' := [(6, .int s0), (0, .ref h_me), (2, .int v2), (3, .int v3), (4, .int v4), (5, .int v5)]) hx hb dX9_raceIt_90 hl (by decide) rfl (fun ls hl => ?_)
    refine lv_aload_n hx hb dX9_raceIt_92 rfl (lv_at hl 1 rfl) ?_
    refine fgX9_3 hx hb hts hown hK hw 0 rfl kw1179 dX9_raceIt_93 ?_
    refine lv_bipush (v := 15) hx hb dX9_raceIt_96 (by decide) ?_
    refine lv_iload_n hx hb dX9_raceIt_98 rfl (lv_at hl 2 rfl) ?_
    refine lv_iadd hx hb dX9_raceIt_99 ?_
    refine lv_aload_n hx hb dX9_raceIt_100 rfl (lv_at hl 1 rfl) ?_
    refine fgX9_3 hx hb hts hown hK hw 0 rfl kw1179 dX9_raceIt_101 ?_
    refine lv_bipush (v := 15) hx hb dX9_raceIt_104 (by decide) ?_
    refine lv_iload_n hx hb dX9_raceIt_106 rfl (lv_at hl 2 rfl) ?_
    refine lv_iadd hx hb dX9_raceIt_107 ?_
    obtain ⟨g3, h⟩ := z_gd h
    refine faX9_3 hx hb hK hw 0 rfl rfl g3 dX9_raceIt_108 ?_
    refine lv_iload_n hx hb dX9_raceIt_109 rfl (lv_at hl 3 rfl) ?_
    refine lv_iadd hx hb dX9_raceIt_110 ?_
    refine lv_i2l hx hb dX9_raceIt_111 rfl ?_
    refine lv_iconst (v := 0) hx hb dX9_raceIt_112 (by decide) ?_
    refine lv_sipush (v := 999) hx hb dX9_raceIt_113 (by decide) ?_
    obtain ⟨z4, ez4, h⟩ := z_bd h
    refine xj_i (xrS (As := [.long (((gA o_me 3 ((15 : Int32) + v2).toNatClampNeg) + v3).toInt64), .int (0 : Int32), .int (999 : Int32)]) (rest := [.int ((15 : Int32) + v2), .ref (q_me 3)]) ⟨hx, hb, hml, hown, hts⟩ (m_X9_within l dC dI _  (((gA o_me 3 ((15 : Int32) + v2).toNatClampNeg) + v3).toInt64) (0 : Int32) (999 : Int32) z4 ez4) kw1433 kw1431 kw1432 kw120 hd_X9_within ⟨rfl, rfl⟩ rfl rfl ⟨rfl, rfl⟩ hX hK hw [] (by decide) rfl rfl hl.1 rfl rfl dX9_raceIt_116) hw hA [] (by decide) rfl rfl (fun H locs hw => ?_)
    obtain ⟨g5, h⟩ := z_gd h
    refine fbX9_3 hx hb hK hw 0 rfl rfl g5 dX9_raceIt_119 (fun H locs hw => ?_)
    obtain ⟨o6, eo6, h⟩ := z_lt h
    have hw : Wd dC dI A s.heap [wX9 h_me q_me k_me o6] H locs := by rw [eo6]; exact hw
    refine lv_aload_n hx hb dX9_raceIt_120 rfl (lv_at hl 1 rfl) ?_
    refine fgX9_3 hx hb hts hown hK hw 0 rfl kw1179 dX9_raceIt_121 ?_
    refine lv_bipush (v := 7) hx hb dX9_raceIt_124 (by decide) ?_
    refine lv_aload_n hx hb dX9_raceIt_126 rfl (lv_at hl 1 rfl) ?_
    refine fgX9_3 hx hb hts hown hK hw 0 rfl kw1179 dX9_raceIt_127 ?_
    refine lv_bipush (v := 7) hx hb dX9_raceIt_130 (by decide) ?_
    refine faX9_3 hx hb hK hw 0 rfl rfl (by decide) dX9_raceIt_132 ?_
    refine lv_iload hx hb dX9_raceIt_133 (lv_at hl 4 rfl) ?_
    refine lv_iadd hx hb dX9_raceIt_135 ?_
    refine lv_i2l hx hb dX9_raceIt_136 rfl ?_
    refine lv_iconst (v := 0) hx hb dX9_raceIt_137 (by decide) ?_
    refine lv_sipush (v := 999) hx hb dX9_raceIt_138 (by decide) ?_
    obtain ⟨z7, ez7, h⟩ := z_bd h
    refine xj_i (xrS (As := [.long (((gA o6 3 (7 : Int32).toNatClampNeg) + v4).toInt64), .int (0 : Int32), .int (999 : Int32)]) (rest := [.int (7 : Int32), .ref (q_me 3)]) ⟨hx, hb, hml, hown, hts⟩ (m_X9_within l dC dI _  (((gA o6 3 (7 : Int32).toNatClampNeg) + v4).toInt64) (0 : Int32) (999 : Int32) z7 ez7) kw1433 kw1431 kw1432 kw120 hd_X9_within ⟨rfl, rfl⟩ rfl rfl ⟨rfl, rfl⟩ hX hK hw [] (by decide) rfl rfl hl.1 rfl rfl dX9_raceIt_141) hw hA [] (by decide) rfl rfl (fun H locs hw => ?_)
    refine fbX9_3 hx hb hK hw 0 rfl rfl (by decide) dX9_raceIt_144 (fun H locs hw => ?_)
    obtain ⟨o8, eo8, h⟩ := z_lt h
    have hw : Wd dC dI A s.heap [wX9 h_me q_me k_me o8] H locs := by rw [eo8]; exact hw
    refine lv_aload_n hx hb dX9_raceIt_145 rfl (lv_at hl 1 rfl) ?_
    refine fgX9_43 hx hb hts hown hK hw 0 rfl kw1219 dX9_raceIt_146 ?_
    refine lv_iconst (v := 1) hx hb dX9_raceIt_149 (by decide) ?_
    refine lv_icmp_le (tgt := 169) hx hb dX9_raceIt_150 (by decide) (fun c => ?_) (fun c => ?_)
    · have h := z_t h c
      exact bk_169_3  v2 s0 o8 _ _ _ h hw (lv_sub hl [1, 2, 0] rfl)
    · have h := z_f h c
      refine lv_aload_n hx hb dX9_raceIt_153 rfl (lv_at hl 1 rfl) ?_
      refine fgX9_3 hx hb hts hown hK hw 0 rfl kw1179 dX9_raceIt_154 ?_
      refine lv_bipush (v := 8) hx hb dX9_raceIt_157 (by decide) ?_
      refine lv_aload_n hx hb dX9_raceIt_159 rfl (lv_at hl 1 rfl) ?_
      refine fgX9_42 hx hb hts hown hK hw 0 rfl kw1218 dX9_raceIt_160 ?_
      refine lv_iconst (v := 1) hx hb dX9_raceIt_163 (by decide) ?_
      refine faX9_42 hx hb hK hw 0 rfl rfl (by decide) dX9_raceIt_164 ?_
      refine lv_iadd hx hb dX9_raceIt_165 ?_
      refine lv_iload hx hb dX9_raceIt_166 (lv_at hl 5 rfl) ?_
      obtain ⟨g17, h⟩ := z_gd h
      refine fbX9_3 hx hb hK hw 0 rfl rfl g17 dX9_raceIt_168 (fun H locs hw => ?_)
      obtain ⟨o18, eo18, h⟩ := z_lt h
      have hw : Wd dC dI A s.heap [wX9 h_me q_me k_me o18] H locs := by rw [eo18]; exact hw
      exact bk_169_3  v2 s0 o18 _ _ _ h hw (lv_sub hl [1, 2, 0] rfl)
  have bk_64_1 : ∀ (v1 : Int32) (v2 : Int32) (v3 : Int32) (v4 : Int32) (s0 : Int32) (o_me : Ob) (H : Heap) (locs : List Loc) (ls : Array Slot), bk_X9_raceIt_64   v1 v2 v3 v4 s0 o_me = some y → Wd dC dI A s.heap [wX9 h_me q_me k_me o_me] H locs → lv_has ls 8 [(0, .ref h_me), (1, .int v1), (2, .int v2), (3, .int v3), (4, .int v4)] → W p l e ({ frames := 6, cells := 0, slots := 0, locals := 146 } : Room) s m ([.ref h_me, .int p0] : List Value).toArray below meth c H locs 0 0 Qz (F0 m 64 ls [.int s0]) := by
    intro v1 v2 v3 v4 s0 o_me H locs ls h hw hl
    unfold bk_X9_raceIt_64 at h
    refine lv_istore (lv' := [(5, .int s0), (0, .ref h_me), (1, .int v1), (2, .int v2), (3, .int v3), (4, .int v4)]) hx hb dX9_raceIt_64 hl (by decide) rfl (fun ls hl => ?_)
    refine lv_aload_n hx hb dX9_raceIt_66 rfl (lv_at hl 1 rfl) ?_
    refine fgX9_43 hx hb hts hown hK hw 0 rfl kw1219 dX9_raceIt_67 ?_
    refine lv_iconst (v := 2) hx hb dX9_raceIt_70 (by decide) ?_
    refine lv_icmp_le (tgt := 89) hx hb dX9_raceIt_71 (by decide) (fun c => ?_) (fun c => ?_)
    · have h := z_t h c
      refine lv_iconst (v := 0) hx hb dX9_raceIt_89 (by decide) ?_
      exact bk_90_2  v2 v3 v4 s0 (0 : Int32) o_me _ _ _ h hw (lv_sub hl [1, 3, 4, 5, 0] rfl)
    · have h := z_f h c
      refine lv_aload_n hx hb dX9_raceIt_74 rfl (lv_at hl 1 rfl) ?_
      refine lv_aload_n hx hb dX9_raceIt_75 rfl (lv_at hl 1 rfl) ?_
      refine fgX9_42 hx hb hts hown hK hw 0 rfl kw1218 dX9_raceIt_76 ?_
      refine lv_iconst (v := 2) hx hb dX9_raceIt_79 (by decide) ?_
      refine faX9_42 hx hb hK hw 0 rfl rfl (by decide) dX9_raceIt_80 ?_
      refine lv_iload_n hx hb dX9_raceIt_81 rfl (lv_at hl 2 rfl) ?_
      refine lv_iconst (v := 3) hx hb dX9_raceIt_82 (by decide) ?_
      obtain ⟨z19, ez19, h⟩ := z_bd h
      refine xj_i (xrV (As := [.int (gA o_me 42 (2 : Int32).toNatClampNeg), .int v1, .int (3 : Int32)]) (rest := []) ⟨hx, hb, hml, hown, hts⟩ (m_X9_winsOf l dC dI _ h_me q_me k_me o_me (gA o_me 42 (2 : Int32).toNatClampNeg) v1 (3 : Int32) z19 ez19) kw1647 kw1644 kw1646 kw81 kw120 hd_X9_winsOf ⟨rfl, rfl⟩ rfl rfl ⟨rfl, rfl⟩ hX hK hw [0] (by decide) rfl rfl rfl rfl rfl hl.1 rfl rfl dX9_raceIt_83) hw hA [0] (by decide) rfl rfl (fun H locs hw => ?_)
      have hw : Wd dC dI A s.heap [wX9 h_me q_me k_me z19.2] H locs := hw
      refine lv_goto (tgt := 90) hx hb dX9_raceIt_86 (by decide) ?_
      exact bk_90_2  v2 v3 v4 s0 z19.1 z19.2 _ _ _ h hw (lv_sub hl [1, 3, 4, 5, 0] rfl)
  have bk_39_0 : ∀ (v1 : Int32) (v2 : Int32) (v3 : Int32) (s0 : Int32) (o_me : Ob) (H : Heap) (locs : List Loc) (ls : Array Slot), bk_X9_raceIt_39   v1 v2 v3 s0 o_me = some y → Wd dC dI A s.heap [wX9 h_me q_me k_me o_me] H locs → lv_has ls 8 [(0, .ref h_me), (1, .int v1), (2, .int v2), (3, .int v3)] → W p l e ({ frames := 6, cells := 0, slots := 0, locals := 146 } : Room) s m ([.ref h_me, .int p0] : List Value).toArray below meth c H locs 0 0 Qz (F0 m 39 ls [.int s0]) := by
    intro v1 v2 v3 s0 o_me H locs ls h hw hl
    unfold bk_X9_raceIt_39 at h
    refine lv_istore (lv' := [(4, .int s0), (0, .ref h_me), (1, .int v1), (2, .int v2), (3, .int v3)]) hx hb dX9_raceIt_39 hl (by decide) rfl (fun ls hl => ?_)
    refine lv_aload_n hx hb dX9_raceIt_41 rfl (lv_at hl 1 rfl) ?_
    refine fgX9_43 hx hb hts hown hK hw 0 rfl kw1219 dX9_raceIt_42 ?_
    refine lv_iconst (v := 1) hx hb dX9_raceIt_45 (by decide) ?_
    refine lv_icmp_le (tgt := 63) hx hb dX9_raceIt_46 (by decide) (fun c => ?_) (fun c => ?_)
    · have h := z_t h c
      refine lv_iconst (v := 0) hx hb dX9_raceIt_63 (by decide) ?_
      exact bk_64_1  v1 v2 v3 s0 (0 : Int32) o_me _ _ _ h hw (lv_sub hl [1, 2, 3, 4, 0] rfl)
    · have h := z_f h c
      refine lv_aload_n hx hb dX9_raceIt_49 rfl (lv_at hl 1 rfl) ?_
      refine lv_aload_n hx hb dX9_raceIt_50 rfl (lv_at hl 1 rfl) ?_
      refine fgX9_42 hx hb hts hown hK hw 0 rfl kw1218 dX9_raceIt_51 ?_
      refine lv_iconst (v := 1) hx hb dX9_raceIt_54 (by decide) ?_
      refine faX9_42 hx hb hK hw 0 rfl rfl (by decide) dX9_raceIt_55 ?_
      refine lv_iload_n hx hb dX9_raceIt_56 rfl (lv_at hl 2 rfl) ?_
      obtain ⟨z20, ez20, h⟩ := z_bd h
      refine xj_i (xrV (As := [.int (gA o_me 42 (1 : Int32).toNatClampNeg), .int v1]) (rest := []) ⟨hx, hb, hml, hown, hts⟩ (m_X9_turnsOf l dC dI _ h_me q_me k_me o_me (gA o_me 42 (1 : Int32).toNatClampNeg) v1 z20 ez20) kw1652 kw1649 kw1651 kw82 kw120 hd_X9_turnsOf ⟨rfl, rfl⟩ rfl rfl ⟨rfl, rfl⟩ hX hK hw [0] (by decide) rfl rfl rfl rfl rfl hl.1 rfl rfl dX9_raceIt_57) hw hA [0] (by decide) rfl rfl (fun H locs hw => ?_)
      have hw : Wd dC dI A s.heap [wX9 h_me q_me k_me z20.2] H locs := hw
      refine lv_goto (tgt := 64) hx hb dX9_raceIt_60 (by decide) ?_
      exact bk_64_1  v1 v2 v3 s0 z20.1 z20.2 _ _ _ h hw (lv_sub hl [1, 2, 3, 4, 0] rfl)
  unfold f_X9_raceIt at h
  refine lv_aload_n hx hb dX9_raceIt_0 rfl (lv_at hl 0 rfl) ?_
  refine fgX9_42 hx hb hts hown hK hw 0 rfl kw1218 dX9_raceIt_1 ?_
  refine lv_iconst (v := 0) hx hb dX9_raceIt_4 (by decide) ?_
  refine faX9_42 hx hb hK hw 0 rfl rfl (by decide) dX9_raceIt_5 ?_
  obtain ⟨x1, ex1, h⟩ := z_lt h
  refine lv_fi (v := x1) ex1.symm ?_
  refine lv_istore_n (lv' := [(2, .int x1), (0, .ref h_me), (1, .int p0)]) hx hb dX9_raceIt_6 rfl hl (by decide) rfl (fun ls hl => ?_)
  refine lv_aload_n hx hb dX9_raceIt_7 rfl (lv_at hl 1 rfl) ?_
  refine lv_iload_n hx hb dX9_raceIt_8 rfl (lv_at hl 0 rfl) ?_
  refine lv_iload_n hx hb dX9_raceIt_9 rfl (lv_at hl 2 rfl) ?_
  refine lv_iconst (v := 1) hx hb dX9_raceIt_10 (by decide) ?_
  obtain ⟨z2, ez2, h⟩ := z_bd h
  refine xj_i (xrV (As := [.int x1, .int p0, .int (1 : Int32)]) (rest := []) ⟨hx, hb, hml, hown, hts⟩ (m_X9_winsOf l dC dI _ h_me q_me k_me o_me x1 p0 (1 : Int32) z2 ez2) kw1647 kw1644 kw1646 kw81 kw120 hd_X9_winsOf ⟨rfl, rfl⟩ rfl rfl ⟨rfl, rfl⟩ hX hK hw [0] (by decide) rfl rfl rfl rfl rfl hl.1 rfl rfl dX9_raceIt_11) hw hA [0] (by decide) rfl rfl (fun H locs hw => ?_)
  have hw : Wd dC dI A s.heap [wX9 h_me q_me k_me z2.2] H locs := hw
  refine lv_istore_n (lv' := [(3, .int z2.1), (2, .int x1), (0, .ref h_me), (1, .int p0)]) hx hb dX9_raceIt_14 rfl hl (by decide) rfl (fun ls hl => ?_)
  refine lv_aload_n hx hb dX9_raceIt_15 rfl (lv_at hl 2 rfl) ?_
  refine fgX9_43 hx hb hts hown hK hw 0 rfl kw1219 dX9_raceIt_16 ?_
  refine lv_iconst (v := 1) hx hb dX9_raceIt_19 (by decide) ?_
  refine lv_icmp_le (tgt := 38) hx hb dX9_raceIt_20 (by decide) (fun c => ?_) (fun c => ?_)
  · have h := z_t h c
    refine lv_iconst (v := 0) hx hb dX9_raceIt_38 (by decide) ?_
    exact bk_39_0  p0 x1 z2.1 (0 : Int32) z2.2 _ _ _ h hw (lv_sub hl [2, 3, 1, 0] rfl)
  · have h := z_f h c
    refine lv_aload_n hx hb dX9_raceIt_23 rfl (lv_at hl 2 rfl) ?_
    refine lv_aload_n hx hb dX9_raceIt_24 rfl (lv_at hl 2 rfl) ?_
    refine fgX9_42 hx hb hts hown hK hw 0 rfl kw1218 dX9_raceIt_25 ?_
    refine lv_iconst (v := 1) hx hb dX9_raceIt_28 (by decide) ?_
    refine faX9_42 hx hb hK hw 0 rfl rfl (by decide) dX9_raceIt_29 ?_
    refine lv_iload_n hx hb dX9_raceIt_30 rfl (lv_at hl 3 rfl) ?_
    refine lv_iconst (v := 2) hx hb dX9_raceIt_31 (by decide) ?_
    obtain ⟨z21, ez21, h⟩ := z_bd h
    refine xj_i (xrV (As := [.int (gA z2.2 42 (1 : Int32).toNatClampNeg), .int p0, .int (2 : Int32)]) (rest := []) ⟨hx, hb, hml, hown, hts⟩ (m_X9_winsOf l dC dI _ h_me q_me k_me z2.2 (gA z2.2 42 (1 : Int32).toNatClampNeg) p0 (2 : Int32) z21 ez21) kw1647 kw1644 kw1646 kw81 kw120 hd_X9_winsOf ⟨rfl, rfl⟩ rfl rfl ⟨rfl, rfl⟩ hX hK hw [0] (by decide) rfl rfl rfl rfl rfl hl.1 rfl rfl dX9_raceIt_32) hw hA [0] (by decide) rfl rfl (fun H locs hw => ?_)
    have hw : Wd dC dI A s.heap [wX9 h_me q_me k_me z21.2] H locs := hw
    refine lv_goto (tgt := 39) hx hb dX9_raceIt_35 (by decide) ?_
    exact bk_39_0  p0 x1 z2.1 z21.1 z21.2 _ _ _ h hw (lv_sub hl [2, 3, 1, 0] rfl)

def f_X9_raceNow (o_me : Ob) (p0 : Int32) : Option (Int32 × Ob) :=
  (f_X9_isRace p0).bind fun z1 =>
  if z1 = (0 : Int32) then
  (some ((-1 : Int32), o_me))
  else
  ((f_X9_layPlaces o_me p0).bind fun z2 =>
  if (gI z2 43) = (0 : Int32) then
  (some ((-3 : Int32), z2))
  else
  ((f_X9_remember z2 (0 : Int32)).bind fun z3 =>
  (f_X9_raceIt z3 p0).bind fun z4 =>
  some (z4.1, z4.2)))
set_option maxHeartbeats 4000000 in
set_option maxRecDepth 100000 in
theorem m_X9_raceNow (l : Launch) (dC : Nat → ClassId) (dI : Nat → Nat → Nat) (sz : Nat) (h_me : Nat) (q_me : Nat → Nat) (k_me : Nat → ClassId) (o_me : Ob) (p0 : Int32) (y : Int32 × Ob) (h : f_X9_raceNow o_me p0 = some y) : CI l yX9_raceNow cX9_raceNow 2 (some .int) ({ frames := 7, cells := 0, slots := 0, locals := 173 } : Room) dC dI sz [.ref h_me, .int p0] [wX9 h_me q_me k_me o_me] [tX9 k_me] y.1 [wX9 h_me q_me k_me y.2] := by
  refine CC_of (by decide) (Nat.le_of_ble_eq_true rfl) ?_
  intro p e s m below meth c A ls hx hb hml hr hlk hnm hown hts hX hK hP hD hA hl
  have hl : lv_has ls 2 [(0, .ref h_me), (1, .int p0)] := hl
  have hown : s.vm.findClass RX9 = some m.cls := hown
  have hw : Wd dC dI A s.heap [wX9 h_me q_me k_me o_me] s.heap [] := ⟨hP, hD, va_S.rf⟩
  generalize hQz : (MQ below (QI dC dI (fun r (_ : Unit) => r = y.1) (fun _ => Jn [wX9 h_me q_me k_me y.2]) (fun _ => Jt [tX9 k_me]) A) ([.ref h_me, .int p0] : List Value).toArray s 0 0 A) = Qz
  clear hP hD hnm
  unfold f_X9_raceNow at h
  refine lv_iload_n hx hb dX9_raceNow_0 rfl (lv_at hl 1 rfl) ?_
  obtain ⟨z1, ez1, h⟩ := z_bd h
  refine xj_i (xrS (As := [.int p0]) (rest := []) ⟨hx, hb, hml, hown, hts⟩ (m_X9_isRace l dC dI _  p0 z1 ez1) kw1444 kw1442 kw1443 kw120 hd_X9_isRace ⟨rfl, rfl⟩ rfl rfl ⟨rfl, rfl⟩ hX hK hw [] (by decide) rfl rfl hl.1 rfl rfl dX9_raceNow_1) hw hA [] (by decide) rfl rfl (fun H locs hw => ?_)
  refine lv_if_ne (tgt := 9) hx hb dX9_raceNow_4 (by decide) (fun c => ?_) (fun c => ?_)
  · have h := z_f h c
    refine lv_aload_n hx hb dX9_raceNow_9 rfl (lv_at hl 0 rfl) ?_
    refine lv_iload_n hx hb dX9_raceNow_10 rfl (lv_at hl 1 rfl) ?_
    obtain ⟨z2, ez2, h⟩ := z_bd h
    refine xj_v (xrV (As := [.int p0]) (rest := []) ⟨hx, hb, hml, hown, hts⟩ (m_X9_layPlaces l dC dI _ h_me q_me k_me o_me p0 z2 ez2) kw1462 kw1459 kw1461 kw50 kw120 hd_X9_layPlaces ⟨rfl, rfl⟩ rfl rfl ⟨rfl, rfl⟩ hX hK hw [0] (by decide) rfl rfl rfl rfl rfl hl.1 rfl rfl dX9_raceNow_11) hw hA [0] (by decide) rfl rfl (fun H locs hw => ?_)
    have hw : Wd dC dI A s.heap [wX9 h_me q_me k_me z2] H locs := hw
    refine lv_aload_n hx hb dX9_raceNow_14 rfl (lv_at hl 0 rfl) ?_
    refine fgX9_43 hx hb hts hown hK hw 0 rfl kw1219 dX9_raceNow_15 ?_
    refine lv_if_ne (tgt := 24) hx hb dX9_raceNow_18 (by decide) (fun c => ?_) (fun c => ?_)
    · have h := z_f h c
      refine lv_aload_n hx hb dX9_raceNow_24 rfl (lv_at hl 0 rfl) ?_
      refine lv_iconst (v := 0) hx hb dX9_raceNow_25 (by decide) ?_
      obtain ⟨z3, ez3, h⟩ := z_bd h
      refine xj_v (xrV (As := [.int (0 : Int32)]) (rest := []) ⟨hx, hb, hml, hown, hts⟩ (m_X9_remember l dC dI _ h_me q_me k_me z2 (0 : Int32) z3 ez3) kw1635 kw1632 kw1634 kw78 kw120 hd_X9_remember ⟨rfl, rfl⟩ rfl rfl ⟨rfl, rfl⟩ hX hK hw [0] (by decide) rfl rfl rfl rfl rfl hl.1 rfl rfl dX9_raceNow_26) hw hA [0] (by decide) rfl rfl (fun H locs hw => ?_)
      have hw : Wd dC dI A s.heap [wX9 h_me q_me k_me z3] H locs := hw
      refine lv_aload_n hx hb dX9_raceNow_29 rfl (lv_at hl 0 rfl) ?_
      refine lv_iload_n hx hb dX9_raceNow_30 rfl (lv_at hl 1 rfl) ?_
      obtain ⟨z4, ez4, h⟩ := z_bd h
      refine xj_i (xrV (As := [.int p0]) (rest := []) ⟨hx, hb, hml, hown, hts⟩ (m_X9_raceIt l dC dI _ h_me q_me k_me z3 p0 z4 ez4) kw1643 kw1640 kw1642 kw80 kw120 hd_X9_raceIt ⟨rfl, rfl⟩ rfl rfl ⟨rfl, rfl⟩ hX hK hw [0] (by decide) rfl rfl rfl rfl rfl hl.1 rfl rfl dX9_raceNow_31) hw hA [0] (by decide) rfl rfl (fun H locs hw => ?_)
      have hw : Wd dC dI A s.heap [wX9 h_me q_me k_me z4.2] H locs := hw
      have hy := Option.some.inj h
      rw [← hQz, ← hy]
      exact xr_i (v := z4.1) hx hb hr rfl hlk hK hw dX9_raceNow_34
    · have h := z_t h c
      refine lv_bipush (v := (-3)) hx hb dX9_raceNow_21 (by decide) ?_
      have hy := Option.some.inj h
      rw [← hQz, ← hy]
      exact xr_i (v := (-3 : Int32)) hx hb hr rfl hlk hK hw dX9_raceNow_23
  · have h := z_t h c
    refine lv_iconst (v := (-1)) hx hb dX9_raceNow_7 (by decide) ?_
    have hy := Option.some.inj h
    rw [← hQz, ← hy]
    exact xr_i (v := (-1 : Int32)) hx hb hr rfl hlk hK hw dX9_raceNow_8

def f_X9_enterNow (o_me : Ob) (p0 : Int32) : Option (Int32 × Ob) :=
  (f_X9_isPerson o_me p0).bind fun z1 =>
  if z1 = (0 : Int32) then
  (some ((-2 : Int32), o_me))
  else
  ((f_X9_remember o_me (1 : Int32)).bind fun z2 =>
  zgd (zin ((22 : Int32) + p0) 5484) <|
  zgd (zin ((22 : Int32) + p0) 5484) <|
  zlt (tA z2 3 ((22 : Int32) + p0).toNatClampNeg ((1 : Int32) - (gA z2 3 ((22 : Int32) + p0).toNatClampNeg))) fun o5 =>
  zgd (zin ((22 : Int32) + p0) 5484) <|
  some (gA o5 3 ((22 : Int32) + p0).toNatClampNeg, o5))
set_option maxHeartbeats 4000000 in
set_option maxRecDepth 100000 in
theorem m_X9_enterNow (l : Launch) (dC : Nat → ClassId) (dI : Nat → Nat → Nat) (sz : Nat) (h_me : Nat) (q_me : Nat → Nat) (k_me : Nat → ClassId) (o_me : Ob) (p0 : Int32) (y : Int32 × Ob) (h : f_X9_enterNow o_me p0 = some y) : CI l yX9_enterNow cX9_enterNow 2 (some .int) ({ frames := 2, cells := 0, slots := 0, locals := 46 } : Room) dC dI sz [.ref h_me, .int p0] [wX9 h_me q_me k_me o_me] [tX9 k_me] y.1 [wX9 h_me q_me k_me y.2] := by
  refine CC_of (by decide) (Nat.le_of_ble_eq_true rfl) ?_
  intro p e s m below meth c A ls hx hb hml hr hlk hnm hown hts hX hK hP hD hA hl
  have hl : lv_has ls 2 [(0, .ref h_me), (1, .int p0)] := hl
  have hown : s.vm.findClass RX9 = some m.cls := hown
  have hw : Wd dC dI A s.heap [wX9 h_me q_me k_me o_me] s.heap [] := ⟨hP, hD, va_S.rf⟩
  generalize hQz : (MQ below (QI dC dI (fun r (_ : Unit) => r = y.1) (fun _ => Jn [wX9 h_me q_me k_me y.2]) (fun _ => Jt [tX9 k_me]) A) ([.ref h_me, .int p0] : List Value).toArray s 0 0 A) = Qz
  clear hP hD hnm
  unfold f_X9_enterNow at h
  refine lv_aload_n hx hb dX9_enterNow_0 rfl (lv_at hl 0 rfl) ?_
  refine lv_iload_n hx hb dX9_enterNow_1 rfl (lv_at hl 1 rfl) ?_
  obtain ⟨z1, ez1, h⟩ := z_bd h
  refine xj_i (xrV (As := [.int p0]) (rest := []) ⟨hx, hb, hml, hown, hts⟩ (m_X9_isPerson l dC dI _ h_me q_me k_me o_me p0 z1 ez1) kw1402 kw1399 kw1401 kw42 kw120 hd_X9_isPerson ⟨rfl, rfl⟩ rfl rfl ⟨rfl, rfl⟩ hX hK hw [0] (by decide) rfl rfl rfl rfl rfl hl.1 rfl rfl dX9_enterNow_2) hw hA [0] (by decide) rfl rfl (fun H locs hw => ?_)
  have hw : Wd dC dI A s.heap [wX9 h_me q_me k_me o_me] H locs := hw
  refine lv_if_ne (tgt := 11) hx hb dX9_enterNow_5 (by decide) (fun c => ?_) (fun c => ?_)
  · have h := z_f h c
    refine lv_aload_n hx hb dX9_enterNow_11 rfl (lv_at hl 0 rfl) ?_
    refine lv_iconst (v := 1) hx hb dX9_enterNow_12 (by decide) ?_
    obtain ⟨z2, ez2, h⟩ := z_bd h
    refine xj_v (xrV (As := [.int (1 : Int32)]) (rest := []) ⟨hx, hb, hml, hown, hts⟩ (m_X9_remember l dC dI _ h_me q_me k_me o_me (1 : Int32) z2 ez2) kw1635 kw1632 kw1634 kw78 kw120 hd_X9_remember ⟨rfl, rfl⟩ rfl rfl ⟨rfl, rfl⟩ hX hK hw [0] (by decide) rfl rfl rfl rfl rfl hl.1 rfl rfl dX9_enterNow_13) hw hA [0] (by decide) rfl rfl (fun H locs hw => ?_)
    have hw : Wd dC dI A s.heap [wX9 h_me q_me k_me z2] H locs := hw
    refine lv_aload_n hx hb dX9_enterNow_16 rfl (lv_at hl 0 rfl) ?_
    refine fgX9_3 hx hb hts hown hK hw 0 rfl kw1179 dX9_enterNow_17 ?_
    refine lv_bipush (v := 22) hx hb dX9_enterNow_20 (by decide) ?_
    refine lv_iload_n hx hb dX9_enterNow_22 rfl (lv_at hl 1 rfl) ?_
    refine lv_iadd hx hb dX9_enterNow_23 ?_
    refine lv_iconst (v := 1) hx hb dX9_enterNow_24 (by decide) ?_
    refine lv_aload_n hx hb dX9_enterNow_25 rfl (lv_at hl 0 rfl) ?_
    refine fgX9_3 hx hb hts hown hK hw 0 rfl kw1179 dX9_enterNow_26 ?_
    refine lv_bipush (v := 22) hx hb dX9_enterNow_29 (by decide) ?_
    refine lv_iload_n hx hb dX9_enterNow_31 rfl (lv_at hl 1 rfl) ?_
    refine lv_iadd hx hb dX9_enterNow_32 ?_
    obtain ⟨g3, h⟩ := z_gd h
    refine faX9_3 hx hb hK hw 0 rfl rfl g3 dX9_enterNow_33 ?_
    refine lv_isub hx hb dX9_enterNow_34 ?_
    obtain ⟨g4, h⟩ := z_gd h
    refine fbX9_3 hx hb hK hw 0 rfl rfl g4 dX9_enterNow_35 (fun H locs hw => ?_)
    obtain ⟨o5, eo5, h⟩ := z_lt h
    have hw : Wd dC dI A s.heap [wX9 h_me q_me k_me o5] H locs := by rw [eo5]; exact hw
    refine lv_aload_n hx hb dX9_enterNow_36 rfl (lv_at hl 0 rfl) ?_
    refine fgX9_3 hx hb hts hown hK hw 0 rfl kw1179 dX9_enterNow_37 ?_
    refine lv_bipush (v := 22) hx hb dX9_enterNow_40 (by decide) ?_
    refine lv_iload_n hx hb dX9_enterNow_42 rfl (lv_at hl 1 rfl) ?_
    refine lv_iadd hx hb dX9_enterNow_43 ?_
    obtain ⟨g6, h⟩ := z_gd h
    refine faX9_3 hx hb hK hw 0 rfl rfl g6 dX9_enterNow_44 ?_
    have hy := Option.some.inj h
    rw [← hQz, ← hy]
    exact xr_i (v := gA o5 3 ((22 : Int32) + p0).toNatClampNeg) hx hb hr rfl hlk hK hw dX9_enterNow_45
  · have h := z_t h c
    refine lv_bipush (v := (-2)) hx hb dX9_enterNow_8 (by decide) ?_
    have hy := Option.some.inj h
    rw [← hQz, ← hy]
    exact xr_i (v := (-2 : Int32)) hx hb hr rfl hlk hK hw dX9_enterNow_10

def f_X9_takeIt (o_me : Ob) (p0 : Int32) : Option (Ob) :=
  zgd (zin ((15 : Int32) + p0) 5484) <|
  (f_X9_within (((gA o_me 3 ((15 : Int32) + p0).toNatClampNeg) + (gA o_me 3 (7 : Int32).toNatClampNeg)).toInt64) (0 : Int32) (999 : Int32)).bind fun z2 =>
  zgd (zin ((15 : Int32) + p0) 5484) <|
  zlt (tA o_me 3 ((15 : Int32) + p0).toNatClampNeg z2) fun o4 =>
  zlt (tA o4 3 (7 : Int32).toNatClampNeg (0 : Int32)) fun o5 =>
  some o5
set_option maxHeartbeats 4000000 in
set_option maxRecDepth 100000 in
theorem m_X9_takeIt (l : Launch) (dC : Nat → ClassId) (dI : Nat → Nat → Nat) (sz : Nat) (h_me : Nat) (q_me : Nat → Nat) (k_me : Nat → ClassId) (o_me : Ob) (p0 : Int32) (y : Ob) (h : f_X9_takeIt o_me p0 = some y) : CV l yX9_takeIt cX9_takeIt 2 none ({ frames := 1, cells := 0, slots := 0, locals := 23 } : Room) dC dI sz [.ref h_me, .int p0] [wX9 h_me q_me k_me o_me] [tX9 k_me] [wX9 h_me q_me k_me y] := by
  refine CC_of (by decide) (Nat.le_of_ble_eq_true rfl) ?_
  intro p e s m below meth c A ls hx hb hml hr hlk hnm hown hts hX hK hP hD hA hl
  have hl : lv_has ls 2 [(0, .ref h_me), (1, .int p0)] := hl
  have hown : s.vm.findClass RX9 = some m.cls := hown
  have hw : Wd dC dI A s.heap [wX9 h_me q_me k_me o_me] s.heap [] := ⟨hP, hD, va_S.rf⟩
  generalize hQz : (MQ below (QV dC dI (fun (_ : Unit) => True) (fun _ => Jn [wX9 h_me q_me k_me y]) (fun _ => Jt [tX9 k_me]) A) ([.ref h_me, .int p0] : List Value).toArray s 0 0 A) = Qz
  clear hP hD hnm
  unfold f_X9_takeIt at h
  refine lv_aload_n hx hb dX9_takeIt_0 rfl (lv_at hl 0 rfl) ?_
  refine fgX9_3 hx hb hts hown hK hw 0 rfl kw1179 dX9_takeIt_1 ?_
  refine lv_bipush (v := 15) hx hb dX9_takeIt_4 (by decide) ?_
  refine lv_iload_n hx hb dX9_takeIt_6 rfl (lv_at hl 1 rfl) ?_
  refine lv_iadd hx hb dX9_takeIt_7 ?_
  refine lv_aload_n hx hb dX9_takeIt_8 rfl (lv_at hl 0 rfl) ?_
  refine fgX9_3 hx hb hts hown hK hw 0 rfl kw1179 dX9_takeIt_9 ?_
  refine lv_bipush (v := 15) hx hb dX9_takeIt_12 (by decide) ?_
  refine lv_iload_n hx hb dX9_takeIt_14 rfl (lv_at hl 1 rfl) ?_
  refine lv_iadd hx hb dX9_takeIt_15 ?_
  obtain ⟨g1, h⟩ := z_gd h
  refine faX9_3 hx hb hK hw 0 rfl rfl g1 dX9_takeIt_16 ?_
  refine lv_aload_n hx hb dX9_takeIt_17 rfl (lv_at hl 0 rfl) ?_
  refine fgX9_3 hx hb hts hown hK hw 0 rfl kw1179 dX9_takeIt_18 ?_
  refine lv_bipush (v := 7) hx hb dX9_takeIt_21 (by decide) ?_
  refine faX9_3 hx hb hK hw 0 rfl rfl (by decide) dX9_takeIt_23 ?_
  refine lv_iadd hx hb dX9_takeIt_24 ?_
  refine lv_i2l hx hb dX9_takeIt_25 rfl ?_
  refine lv_iconst (v := 0) hx hb dX9_takeIt_26 (by decide) ?_
  refine lv_sipush (v := 999) hx hb dX9_takeIt_27 (by decide) ?_
  obtain ⟨z2, ez2, h⟩ := z_bd h
  refine xj_i (xrS (As := [.long (((gA o_me 3 ((15 : Int32) + p0).toNatClampNeg) + (gA o_me 3 (7 : Int32).toNatClampNeg)).toInt64), .int (0 : Int32), .int (999 : Int32)]) (rest := [.int ((15 : Int32) + p0), .ref (q_me 3)]) ⟨hx, hb, hml, hown, hts⟩ (m_X9_within l dC dI _  (((gA o_me 3 ((15 : Int32) + p0).toNatClampNeg) + (gA o_me 3 (7 : Int32).toNatClampNeg)).toInt64) (0 : Int32) (999 : Int32) z2 ez2) kw1433 kw1431 kw1432 kw120 hd_X9_within ⟨rfl, rfl⟩ rfl rfl ⟨rfl, rfl⟩ hX hK hw [] (by decide) rfl rfl hl.1 rfl rfl dX9_takeIt_30) hw hA [] (by decide) rfl rfl (fun H locs hw => ?_)
  obtain ⟨g3, h⟩ := z_gd h
  refine fbX9_3 hx hb hK hw 0 rfl rfl g3 dX9_takeIt_33 (fun H locs hw => ?_)
  obtain ⟨o4, eo4, h⟩ := z_lt h
  have hw : Wd dC dI A s.heap [wX9 h_me q_me k_me o4] H locs := by rw [eo4]; exact hw
  refine lv_aload_n hx hb dX9_takeIt_34 rfl (lv_at hl 0 rfl) ?_
  refine fgX9_3 hx hb hts hown hK hw 0 rfl kw1179 dX9_takeIt_35 ?_
  refine lv_bipush (v := 7) hx hb dX9_takeIt_38 (by decide) ?_
  refine lv_iconst (v := 0) hx hb dX9_takeIt_40 (by decide) ?_
  refine fbX9_3 hx hb hK hw 0 rfl rfl (by decide) dX9_takeIt_41 (fun H locs hw => ?_)
  obtain ⟨o5, eo5, h⟩ := z_lt h
  have hw : Wd dC dI A s.heap [wX9 h_me q_me k_me o5] H locs := by rw [eo5]; exact hw
  have hy := Option.some.inj h
  rw [← hQz, ← hy]
  exact xr_v hx hb hr hlk hK hw dX9_takeIt_42

def f_X9_takeNow (o_me : Ob) (p0 : Int32) : Option (Int32 × Ob) :=
  (f_X9_isPerson o_me p0).bind fun z1 =>
  if z1 = (0 : Int32) then
  (some ((-2 : Int32), o_me))
  else
  (zlt (gA o_me 3 (7 : Int32).toNatClampNeg) fun x2 =>
  if x2 = (0 : Int32) then
  (some ((-3 : Int32), o_me))
  else
  ((f_X9_remember o_me (2 : Int32)).bind fun z3 =>
  (f_X9_takeIt z3 p0).bind fun z4 =>
  some (x2, z4)))
set_option maxHeartbeats 4000000 in
set_option maxRecDepth 100000 in
theorem m_X9_takeNow (l : Launch) (dC : Nat → ClassId) (dI : Nat → Nat → Nat) (sz : Nat) (h_me : Nat) (q_me : Nat → Nat) (k_me : Nat → ClassId) (o_me : Ob) (p0 : Int32) (y : Int32 × Ob) (h : f_X9_takeNow o_me p0 = some y) : CI l yX9_takeNow cX9_takeNow 3 (some .int) ({ frames := 2, cells := 0, slots := 0, locals := 46 } : Room) dC dI sz [.ref h_me, .int p0] [wX9 h_me q_me k_me o_me] [tX9 k_me] y.1 [wX9 h_me q_me k_me y.2] := by
  refine CC_of (by decide) (Nat.le_of_ble_eq_true rfl) ?_
  intro p e s m below meth c A ls hx hb hml hr hlk hnm hown hts hX hK hP hD hA hl
  have hl : lv_has ls 3 [(0, .ref h_me), (1, .int p0)] := hl
  have hown : s.vm.findClass RX9 = some m.cls := hown
  have hw : Wd dC dI A s.heap [wX9 h_me q_me k_me o_me] s.heap [] := ⟨hP, hD, va_S.rf⟩
  generalize hQz : (MQ below (QI dC dI (fun r (_ : Unit) => r = y.1) (fun _ => Jn [wX9 h_me q_me k_me y.2]) (fun _ => Jt [tX9 k_me]) A) ([.ref h_me, .int p0] : List Value).toArray s 0 0 A) = Qz
  clear hP hD hnm
  unfold f_X9_takeNow at h
  refine lv_aload_n hx hb dX9_takeNow_0 rfl (lv_at hl 0 rfl) ?_
  refine lv_iload_n hx hb dX9_takeNow_1 rfl (lv_at hl 1 rfl) ?_
  obtain ⟨z1, ez1, h⟩ := z_bd h
  refine xj_i (xrV (As := [.int p0]) (rest := []) ⟨hx, hb, hml, hown, hts⟩ (m_X9_isPerson l dC dI _ h_me q_me k_me o_me p0 z1 ez1) kw1402 kw1399 kw1401 kw42 kw120 hd_X9_isPerson ⟨rfl, rfl⟩ rfl rfl ⟨rfl, rfl⟩ hX hK hw [0] (by decide) rfl rfl rfl rfl rfl hl.1 rfl rfl dX9_takeNow_2) hw hA [0] (by decide) rfl rfl (fun H locs hw => ?_)
  have hw : Wd dC dI A s.heap [wX9 h_me q_me k_me o_me] H locs := hw
  refine lv_if_ne (tgt := 11) hx hb dX9_takeNow_5 (by decide) (fun c => ?_) (fun c => ?_)
  · have h := z_f h c
    refine lv_aload_n hx hb dX9_takeNow_11 rfl (lv_at hl 0 rfl) ?_
    refine fgX9_3 hx hb hts hown hK hw 0 rfl kw1179 dX9_takeNow_12 ?_
    refine lv_bipush (v := 7) hx hb dX9_takeNow_15 (by decide) ?_
    refine faX9_3 hx hb hK hw 0 rfl rfl (by decide) dX9_takeNow_17 ?_
    obtain ⟨x2, ex2, h⟩ := z_lt h
    refine lv_fi (v := x2) ex2.symm ?_
    refine lv_istore_n (lv' := [(2, .int x2), (0, .ref h_me), (1, .int p0)]) hx hb dX9_takeNow_18 rfl hl (by decide) rfl (fun ls hl => ?_)
    refine lv_iload_n hx hb dX9_takeNow_19 rfl (lv_at hl 0 rfl) ?_
    refine lv_if_ne (tgt := 26) hx hb dX9_takeNow_20 (by decide) (fun c => ?_) (fun c => ?_)
    · have h := z_f h c
      refine lv_aload_n hx hb dX9_takeNow_26 rfl (lv_at hl 1 rfl) ?_
      refine lv_iconst (v := 2) hx hb dX9_takeNow_27 (by decide) ?_
      obtain ⟨z3, ez3, h⟩ := z_bd h
      refine xj_v (xrV (As := [.int (2 : Int32)]) (rest := []) ⟨hx, hb, hml, hown, hts⟩ (m_X9_remember l dC dI _ h_me q_me k_me o_me (2 : Int32) z3 ez3) kw1635 kw1632 kw1634 kw78 kw120 hd_X9_remember ⟨rfl, rfl⟩ rfl rfl ⟨rfl, rfl⟩ hX hK hw [0] (by decide) rfl rfl rfl rfl rfl hl.1 rfl rfl dX9_takeNow_28) hw hA [0] (by decide) rfl rfl (fun H locs hw => ?_)
      have hw : Wd dC dI A s.heap [wX9 h_me q_me k_me z3] H locs := hw
      refine lv_aload_n hx hb dX9_takeNow_31 rfl (lv_at hl 1 rfl) ?_
      refine lv_iload_n hx hb dX9_takeNow_32 rfl (lv_at hl 2 rfl) ?_
      obtain ⟨z4, ez4, h⟩ := z_bd h
      refine xj_v (xrV (As := [.int p0]) (rest := []) ⟨hx, hb, hml, hown, hts⟩ (m_X9_takeIt l dC dI _ h_me q_me k_me z3 p0 z4 ez4) kw1672 kw1669 kw1671 kw85 kw120 hd_X9_takeIt ⟨rfl, rfl⟩ rfl rfl ⟨rfl, rfl⟩ hX hK hw [0] (by decide) rfl rfl rfl rfl rfl hl.1 rfl rfl dX9_takeNow_33) hw hA [0] (by decide) rfl rfl (fun H locs hw => ?_)
      have hw : Wd dC dI A s.heap [wX9 h_me q_me k_me z4] H locs := hw
      refine lv_iload_n hx hb dX9_takeNow_36 rfl (lv_at hl 0 rfl) ?_
      have hy := Option.some.inj h
      rw [← hQz, ← hy]
      exact xr_i (v := x2) hx hb hr rfl hlk hK hw dX9_takeNow_37
    · have h := z_t h c
      refine lv_bipush (v := (-3)) hx hb dX9_takeNow_23 (by decide) ?_
      have hy := Option.some.inj h
      rw [← hQz, ← hy]
      exact xr_i (v := (-3 : Int32)) hx hb hr rfl hlk hK hw dX9_takeNow_25
  · have h := z_t h c
    refine lv_bipush (v := (-2)) hx hb dX9_takeNow_8 (by decide) ?_
    have hy := Option.some.inj h
    rw [← hQz, ← hy]
    exact xr_i (v := (-2 : Int32)) hx hb hr rfl hlk hK hw dX9_takeNow_10

def bk_X9_hasLike_39 (o_me : Ob) (rec_4_0 : Int32 × Int32 × Int32 → Option (Int32)) (v1 : Int32) (v3 : Int32) (s0 : Int32) : Option (Int32) :=
  zlt (v3 + (1 : Int32)) fun x2 =>
  rec_4_0 (v1, s0, x2)
def bk_X9_hasLike_34 (o_me : Ob) (rec_4_0 : Int32 × Int32 × Int32 → Option (Int32)) (v1 : Int32) (v3 : Int32) : Option (Int32) :=
  bk_X9_hasLike_39 o_me rec_4_0 v1 v3 (1 : Int32)
def lb_X9_hasLike_4 (o_me : Ob)  (rec_4_0 : Int32 × Int32 × Int32 → Option (Int32)) (v1 : Int32) (v2 : Int32) (v3 : Int32) : Option (Int32) :=
  if v1 ≤ v3 then
  (zgd (zbo v2) <|
  some v2)
  else
  (if v2 = (0 : Int32) then
  (zgd (zin ((8 : Int32) + v3) 5484) <|
  zgd (zin ((8 : Int32) + v1) 5484) <|
  if (gA o_me 3 ((8 : Int32) + v3).toNatClampNeg) = (gA o_me 3 ((8 : Int32) + v1).toNatClampNeg) then
  (bk_X9_hasLike_34 o_me rec_4_0 v1 v3)
  else
  (bk_X9_hasLike_39 o_me rec_4_0 v1 v3 (0 : Int32)))
  else
  (bk_X9_hasLike_34 o_me rec_4_0 v1 v3))
def lp_X9_hasLike_4 (o_me : Ob)  : Nat → (Int32 × Int32 × Int32) → Option (Int32) := zit (fun rec a => lb_X9_hasLike_4 o_me  rec a.1 a.2.1 a.2.2)
def f_X9_hasLike (o_me : Ob) (p0 : Int32) : Option (Int32) :=
  lp_X9_hasLike_4 o_me  zfu (p0, (0 : Int32), (0 : Int32))
set_option maxHeartbeats 4000000 in
set_option maxRecDepth 100000 in
theorem m_X9_hasLike (l : Launch) (dC : Nat → ClassId) (dI : Nat → Nat → Nat) (sz : Nat) (h_me : Nat) (q_me : Nat → Nat) (k_me : Nat → ClassId) (o_me : Ob) (p0 : Int32) (y : Int32) (h : f_X9_hasLike o_me p0 = some y) : CI l yX9_hasLike cX9_hasLike 4 (some .boolean) ({ frames := 0, cells := 0, slots := 0, locals := 0 } : Room) dC dI sz [.ref h_me, .int p0] [wX9 h_me q_me k_me o_me] [tX9 k_me] y [wX9 h_me q_me k_me o_me] := by
  refine CC_of (by decide) (Nat.le_of_ble_eq_true rfl) ?_
  intro p e s m below meth c A ls hx hb hml hr hlk hnm hown hts hX hK hP hD hA hl
  have hl : lv_has ls 4 [(0, .ref h_me), (1, .int p0)] := hl
  have hown : s.vm.findClass RX9 = some m.cls := hown
  have hw : Wd dC dI A s.heap [wX9 h_me q_me k_me o_me] s.heap [] := ⟨hP, hD, va_S.rf⟩
  generalize hQz : (MQ below (QI dC dI (fun r (_ : Unit) => r = y) (fun _ => Jn [wX9 h_me q_me k_me o_me]) (fun _ => Jt [tX9 k_me]) A) ([.ref h_me, .int p0] : List Value).toArray s 0 0 A) = Qz
  clear hP hD hnm
  have bk_39_2 : ∀ (rec_4_0 : Int32 × Int32 × Int32 → Option (Int32)) (hrec_4_0 : ∀ (v1 : Int32) (v2 : Int32) (v3 : Int32) (H : Heap) (locs : List Loc) (ls : Array Slot), rec_4_0 (v1, v2, v3) = some y → Wd dC dI A s.heap [wX9 h_me q_me k_me o_me] H locs → lv_has ls 4 [(0, .ref h_me), (1, .int v1), (2, .int v2), (3, .int v3)] → W p l e ({ frames := 0, cells := 0, slots := 0, locals := 0 } : Room) s m ([.ref h_me, .int p0] : List Value).toArray below meth c H locs 0 0 Qz (F0 m 4 ls [])), ∀ (v1 : Int32) (v3 : Int32) (s0 : Int32) (H : Heap) (locs : List Loc) (ls : Array Slot), bk_X9_hasLike_39 o_me rec_4_0 v1 v3 s0 = some y → Wd dC dI A s.heap [wX9 h_me q_me k_me o_me] H locs → lv_has ls 4 [(0, .ref h_me), (1, .int v1), (3, .int v3)] → W p l e ({ frames := 0, cells := 0, slots := 0, locals := 0 } : Room) s m ([.ref h_me, .int p0] : List Value).toArray below meth c H locs 0 0 Qz (F0 m 39 ls [.int s0]) := by
    intro rec_4_0 hrec_4_0
    intro v1 v3 s0 H locs ls h hw hl
    unfold bk_X9_hasLike_39 at h
    refine lv_istore_n (lv' := [(2, .int s0), (0, .ref h_me), (1, .int v1), (3, .int v3)]) hx hb dX9_hasLike_39 rfl hl (by decide) rfl (fun ls hl => ?_)
    obtain ⟨x2, ex2, h⟩ := z_lt h
    refine lv_iinc (v := x2) (lv' := [(3, .int x2), (2, .int s0), (0, .ref h_me), (1, .int v1)]) hx hb dX9_hasLike_40 hl (k := 3) rfl ((congrArg (v3 + ·) (show Int32.ofInt 1 = (1 : Int32) from by decide)).trans ex2.symm) (by decide) rfl (fun ls hl => ?_)
    refine lv_goto (tgt := 4) hx hb dX9_hasLike_43 (by decide) ?_
    exact hrec_4_0 v1 s0 x2 _ _ _ h hw (lv_sub hl [2, 3, 1, 0] rfl)
  have bk_34_1 : ∀ (rec_4_0 : Int32 × Int32 × Int32 → Option (Int32)) (hrec_4_0 : ∀ (v1 : Int32) (v2 : Int32) (v3 : Int32) (H : Heap) (locs : List Loc) (ls : Array Slot), rec_4_0 (v1, v2, v3) = some y → Wd dC dI A s.heap [wX9 h_me q_me k_me o_me] H locs → lv_has ls 4 [(0, .ref h_me), (1, .int v1), (2, .int v2), (3, .int v3)] → W p l e ({ frames := 0, cells := 0, slots := 0, locals := 0 } : Room) s m ([.ref h_me, .int p0] : List Value).toArray below meth c H locs 0 0 Qz (F0 m 4 ls [])), ∀ (v1 : Int32) (v3 : Int32) (H : Heap) (locs : List Loc) (ls : Array Slot), bk_X9_hasLike_34 o_me rec_4_0 v1 v3 = some y → Wd dC dI A s.heap [wX9 h_me q_me k_me o_me] H locs → lv_has ls 4 [(0, .ref h_me), (1, .int v1), (3, .int v3)] → W p l e ({ frames := 0, cells := 0, slots := 0, locals := 0 } : Room) s m ([.ref h_me, .int p0] : List Value).toArray below meth c H locs 0 0 Qz (F0 m 34 ls []) := by
    intro rec_4_0 hrec_4_0
    intro v1 v3 H locs ls h hw hl
    unfold bk_X9_hasLike_34 at h
    refine lv_iconst (v := 1) hx hb dX9_hasLike_34 (by decide) ?_
    refine lv_goto (tgt := 39) hx hb dX9_hasLike_35 (by decide) ?_
    exact bk_39_2 rec_4_0 hrec_4_0 v1 v3 (1 : Int32) _ _ _ h hw (lv_sub hl [0, 1, 2] rfl)
  have lp_4_0 : ∀ (N : Nat), ∀ (v1 : Int32) (v2 : Int32) (v3 : Int32) (H : Heap) (locs : List Loc) (ls : Array Slot), lp_X9_hasLike_4 o_me  N (v1, v2, v3) = some y → Wd dC dI A s.heap [wX9 h_me q_me k_me o_me] H locs → lv_has ls 4 [(0, .ref h_me), (1, .int v1), (2, .int v2), (3, .int v3)] → W p l e ({ frames := 0, cells := 0, slots := 0, locals := 0 } : Room) s m ([.ref h_me, .int p0] : List Value).toArray below meth c H locs 0 0 Qz (F0 m 4 ls []) := by
    intro N
    induction N with
    | zero =>
      intro v1 v2 v3 H locs ls h hw hl
      exact absurd (show (none : Option (Int32)) = some y from h) (by simp)
    | succ N ih =>
      intro v1 v2 v3 H locs ls h hw hl
      have h : lb_X9_hasLike_4 o_me  (lp_X9_hasLike_4 o_me  N) v1 v2 v3 = some y := h
      unfold lb_X9_hasLike_4 at h
      refine lv_iload_n hx hb dX9_hasLike_4 rfl (lv_at hl 3 rfl) ?_
      refine lv_iload_n hx hb dX9_hasLike_5 rfl (lv_at hl 1 rfl) ?_
      refine lv_icmp_ge (tgt := 46) hx hb dX9_hasLike_6 (by decide) (fun c => ?_) (fun c => ?_)
      · have h := z_t h c
        refine lv_iload_n hx hb dX9_hasLike_46 rfl (lv_at hl 2 rfl) ?_
        obtain ⟨g1, h⟩ := z_gd h
        have hy := Option.some.inj h
        rw [← hQz, ← hy]
        exact xr_i (v := v2) hx hb hr (z_nar g1) hlk hK hw dX9_hasLike_47
      · have h := z_f h c
        refine lv_iload_n hx hb dX9_hasLike_9 rfl (lv_at hl 2 rfl) ?_
        refine lv_if_ne (tgt := 34) hx hb dX9_hasLike_10 (by decide) (fun c => ?_) (fun c => ?_)
        · have h := z_f h c
          exact bk_34_1 (lp_X9_hasLike_4 o_me  N) ih v1 v3 _ _ _ h hw (lv_sub hl [0, 1, 3] rfl)
        · have h := z_t h c
          refine lv_aload_n hx hb dX9_hasLike_13 rfl (lv_at hl 0 rfl) ?_
          refine fgX9_3 hx hb hts hown hK hw 0 rfl kw1179 dX9_hasLike_14 ?_
          refine lv_bipush (v := 8) hx hb dX9_hasLike_17 (by decide) ?_
          refine lv_iload_n hx hb dX9_hasLike_19 rfl (lv_at hl 3 rfl) ?_
          refine lv_iadd hx hb dX9_hasLike_20 ?_
          obtain ⟨g3, h⟩ := z_gd h
          refine faX9_3 hx hb hK hw 0 rfl rfl g3 dX9_hasLike_21 ?_
          refine lv_aload_n hx hb dX9_hasLike_22 rfl (lv_at hl 0 rfl) ?_
          refine fgX9_3 hx hb hts hown hK hw 0 rfl kw1179 dX9_hasLike_23 ?_
          refine lv_bipush (v := 8) hx hb dX9_hasLike_26 (by decide) ?_
          refine lv_iload_n hx hb dX9_hasLike_28 rfl (lv_at hl 1 rfl) ?_
          refine lv_iadd hx hb dX9_hasLike_29 ?_
          obtain ⟨g4, h⟩ := z_gd h
          refine faX9_3 hx hb hK hw 0 rfl rfl g4 dX9_hasLike_30 ?_
          refine lv_icmp_ne (tgt := 38) hx hb dX9_hasLike_31 (by decide) (fun c => ?_) (fun c => ?_)
          · have h := z_f h c
            refine lv_iconst (v := 0) hx hb dX9_hasLike_38 (by decide) ?_
            exact bk_39_2 (lp_X9_hasLike_4 o_me  N) ih v1 v3 (0 : Int32) _ _ _ h hw (lv_sub hl [0, 1, 3] rfl)
          · have h := z_t h c
            exact bk_34_1 (lp_X9_hasLike_4 o_me  N) ih v1 v3 _ _ _ h hw (lv_sub hl [0, 1, 3] rfl)
  unfold f_X9_hasLike at h
  refine lv_iconst (v := 0) hx hb dX9_hasLike_0 (by decide) ?_
  refine lv_istore_n (lv' := [(2, .int (0 : Int32)), (0, .ref h_me), (1, .int p0)]) hx hb dX9_hasLike_1 rfl hl (by decide) rfl (fun ls hl => ?_)
  refine lv_iconst (v := 0) hx hb dX9_hasLike_2 (by decide) ?_
  refine lv_istore_n (lv' := [(3, .int (0 : Int32)), (2, .int (0 : Int32)), (0, .ref h_me), (1, .int p0)]) hx hb dX9_hasLike_3 rfl hl (by decide) rfl (fun ls hl => ?_)
  exact lp_4_0  zfu p0 (0 : Int32) (0 : Int32) _ _ _ h hw (lv_sub hl [2, 3, 1, 0] rfl)

def bk_X9_passIt_40  (rec_4_0 : Int32 × Int32 × Ob → Option (Int32 × Ob)) (v1 : Int32) (v2 : Int32) (o_me : Ob) : Option (Int32 × Ob) :=
  zlt (v2 + (1 : Int32)) fun x3 =>
  rec_4_0 (v1, x3, o_me)
def lb_X9_passIt_4   (rec_4_0 : Int32 × Int32 × Ob → Option (Int32 × Ob)) (v1 : Int32) (v2 : Int32) (o_me : Ob) : Option (Int32 × Ob) :=
  if (gA o_me 3 (0 : Int32).toNatClampNeg) ≤ v2 then
  (zlt (tA o_me 3 (4 : Int32).toNatClampNeg ((gA o_me 3 (4 : Int32).toNatClampNeg) + (1 : Int32))) fun o1 =>
  some (v1, o1))
  else
  ((f_X9_hasLike o_me v2).bind fun z2 =>
  if z2 = (0 : Int32) then
  (bk_X9_passIt_40  rec_4_0 v1 v2 o_me)
  else
  ((f_X9_turnsOf o_me v2 (0 : Int32)).bind fun z4 =>
  zgd (zin ((8 : Int32) + v2) 5484) <|
  zlt (tA z4.2 3 ((8 : Int32) + v2).toNatClampNeg z4.1) fun o6 =>
  zlt (v1 + (1 : Int32)) fun x7 =>
  bk_X9_passIt_40  rec_4_0 x7 v2 o6))
def lp_X9_passIt_4   : Nat → (Int32 × Int32 × Ob) → Option (Int32 × Ob) := zit (fun rec a => lb_X9_passIt_4   rec a.1 a.2.1 a.2.2)
def f_X9_passIt (o_me : Ob) : Option (Int32 × Ob) :=
  lp_X9_passIt_4   zfu ((0 : Int32), (0 : Int32), o_me)
set_option maxHeartbeats 4000000 in
set_option maxRecDepth 100000 in
theorem m_X9_passIt (l : Launch) (dC : Nat → ClassId) (dI : Nat → Nat → Nat) (sz : Nat) (h_me : Nat) (q_me : Nat → Nat) (k_me : Nat → ClassId) (o_me : Ob) (y : Int32 × Ob) (h : f_X9_passIt o_me = some y) : CI l yX9_passIt cX9_passIt 3 (some .int) ({ frames := 6, cells := 0, slots := 0, locals := 145 } : Room) dC dI sz [.ref h_me] [wX9 h_me q_me k_me o_me] [tX9 k_me] y.1 [wX9 h_me q_me k_me y.2] := by
  refine CC_of (by decide) (Nat.le_of_ble_eq_true rfl) ?_
  intro p e s m below meth c A ls hx hb hml hr hlk hnm hown hts hX hK hP hD hA hl
  have hl : lv_has ls 3 [(0, .ref h_me)] := hl
  have hown : s.vm.findClass RX9 = some m.cls := hown
  have hw : Wd dC dI A s.heap [wX9 h_me q_me k_me o_me] s.heap [] := ⟨hP, hD, va_S.rf⟩
  generalize hQz : (MQ below (QI dC dI (fun r (_ : Unit) => r = y.1) (fun _ => Jn [wX9 h_me q_me k_me y.2]) (fun _ => Jt [tX9 k_me]) A) ([.ref h_me] : List Value).toArray s 0 0 A) = Qz
  clear hP hD hnm
  have bk_40_1 : ∀ (rec_4_0 : Int32 × Int32 × Ob → Option (Int32 × Ob)) (hrec_4_0 : ∀ (v1 : Int32) (v2 : Int32) (o_me : Ob) (H : Heap) (locs : List Loc) (ls : Array Slot), rec_4_0 (v1, v2, o_me) = some y → Wd dC dI A s.heap [wX9 h_me q_me k_me o_me] H locs → lv_has ls 3 [(0, .ref h_me), (1, .int v1), (2, .int v2)] → W p l e ({ frames := 6, cells := 0, slots := 0, locals := 145 } : Room) s m ([.ref h_me] : List Value).toArray below meth c H locs 0 0 Qz (F0 m 4 ls [])), ∀ (v1 : Int32) (v2 : Int32) (o_me : Ob) (H : Heap) (locs : List Loc) (ls : Array Slot), bk_X9_passIt_40  rec_4_0 v1 v2 o_me = some y → Wd dC dI A s.heap [wX9 h_me q_me k_me o_me] H locs → lv_has ls 3 [(0, .ref h_me), (1, .int v1), (2, .int v2)] → W p l e ({ frames := 6, cells := 0, slots := 0, locals := 145 } : Room) s m ([.ref h_me] : List Value).toArray below meth c H locs 0 0 Qz (F0 m 40 ls []) := by
    intro rec_4_0 hrec_4_0
    intro v1 v2 o_me H locs ls h hw hl
    unfold bk_X9_passIt_40 at h
    obtain ⟨x3, ex3, h⟩ := z_lt h
    refine lv_iinc (v := x3) (lv' := [(2, .int x3), (0, .ref h_me), (1, .int v1)]) hx hb dX9_passIt_40 hl (k := 2) rfl ((congrArg (v2 + ·) (show Int32.ofInt 1 = (1 : Int32) from by decide)).trans ex3.symm) (by decide) rfl (fun ls hl => ?_)
    refine lv_goto (tgt := 4) hx hb dX9_passIt_43 (by decide) ?_
    exact hrec_4_0 v1 x3 o_me _ _ _ h hw (lv_sub hl [1, 2, 0] rfl)
  have lp_4_0 : ∀ (N : Nat), ∀ (v1 : Int32) (v2 : Int32) (o_me : Ob) (H : Heap) (locs : List Loc) (ls : Array Slot), lp_X9_passIt_4   N (v1, v2, o_me) = some y → Wd dC dI A s.heap [wX9 h_me q_me k_me o_me] H locs → lv_has ls 3 [(0, .ref h_me), (1, .int v1), (2, .int v2)] → W p l e ({ frames := 6, cells := 0, slots := 0, locals := 145 } : Room) s m ([.ref h_me] : List Value).toArray below meth c H locs 0 0 Qz (F0 m 4 ls []) := by
    intro N
    induction N with
    | zero =>
      intro v1 v2 o_me H locs ls h hw hl
      exact absurd (show (none : Option (Int32 × Ob)) = some y from h) (by simp)
    | succ N ih =>
      intro v1 v2 o_me H locs ls h hw hl
      have h : lb_X9_passIt_4   (lp_X9_passIt_4   N) v1 v2 o_me = some y := h
      unfold lb_X9_passIt_4 at h
      refine lv_iload_n hx hb dX9_passIt_4 rfl (lv_at hl 2 rfl) ?_
      refine lv_aload_n hx hb dX9_passIt_5 rfl (lv_at hl 0 rfl) ?_
      refine fgX9_3 hx hb hts hown hK hw 0 rfl kw1179 dX9_passIt_6 ?_
      refine lv_iconst (v := 0) hx hb dX9_passIt_9 (by decide) ?_
      refine faX9_3 hx hb hK hw 0 rfl rfl (by decide) dX9_passIt_10 ?_
      refine lv_icmp_ge (tgt := 46) hx hb dX9_passIt_11 (by decide) (fun c => ?_) (fun c => ?_)
      · have h := z_t h c
        refine lv_aload_n hx hb dX9_passIt_46 rfl (lv_at hl 0 rfl) ?_
        refine fgX9_3 hx hb hts hown hK hw 0 rfl kw1179 dX9_passIt_47 ?_
        refine lv_iconst (v := 4) hx hb dX9_passIt_50 (by decide) ?_
        refine lv_dup2_11 hx hb dX9_passIt_51 rfl rfl ?_
        refine faX9_3 hx hb hK hw 0 rfl rfl (by decide) dX9_passIt_52 ?_
        refine lv_iconst (v := 1) hx hb dX9_passIt_53 (by decide) ?_
        refine lv_iadd hx hb dX9_passIt_54 ?_
        refine fbX9_3 hx hb hK hw 0 rfl rfl (by decide) dX9_passIt_55 (fun H locs hw => ?_)
        obtain ⟨o1, eo1, h⟩ := z_lt h
        have hw : Wd dC dI A s.heap [wX9 h_me q_me k_me o1] H locs := by rw [eo1]; exact hw
        refine lv_iload_n hx hb dX9_passIt_56 rfl (lv_at hl 1 rfl) ?_
        have hy := Option.some.inj h
        rw [← hQz, ← hy]
        exact xr_i (v := v1) hx hb hr rfl hlk hK hw dX9_passIt_57
      · have h := z_f h c
        refine lv_aload_n hx hb dX9_passIt_14 rfl (lv_at hl 0 rfl) ?_
        refine lv_iload_n hx hb dX9_passIt_15 rfl (lv_at hl 2 rfl) ?_
        obtain ⟨z2, ez2, h⟩ := z_bd h
        refine xj_i (xrV (As := [.int v2]) (rest := []) ⟨hx, hb, hml, hown, hts⟩ (m_X9_hasLike l dC dI _ h_me q_me k_me o_me v2 z2 ez2) kw1688 kw1685 kw1687 kw88 kw120 hd_X9_hasLike ⟨rfl, rfl⟩ rfl rfl ⟨rfl, rfl⟩ hX hK hw [0] (by decide) rfl rfl rfl rfl rfl hl.1 rfl rfl dX9_passIt_16) hw hA [0] (by decide) rfl rfl (fun H locs hw => ?_)
        have hw : Wd dC dI A s.heap [wX9 h_me q_me k_me o_me] H locs := hw
        refine lv_if_eq (tgt := 40) hx hb dX9_passIt_19 (by decide) (fun c => ?_) (fun c => ?_)
        · have h := z_t h c
          exact bk_40_1 (lp_X9_passIt_4   N) ih v1 v2 o_me _ _ _ h hw (lv_sub hl [0, 1, 2] rfl)
        · have h := z_f h c
          refine lv_aload_n hx hb dX9_passIt_22 rfl (lv_at hl 0 rfl) ?_
          refine fgX9_3 hx hb hts hown hK hw 0 rfl kw1179 dX9_passIt_23 ?_
          refine lv_bipush (v := 8) hx hb dX9_passIt_26 (by decide) ?_
          refine lv_iload_n hx hb dX9_passIt_28 rfl (lv_at hl 2 rfl) ?_
          refine lv_iadd hx hb dX9_passIt_29 ?_
          refine lv_aload_n hx hb dX9_passIt_30 rfl (lv_at hl 0 rfl) ?_
          refine lv_iload_n hx hb dX9_passIt_31 rfl (lv_at hl 2 rfl) ?_
          refine lv_iconst (v := 0) hx hb dX9_passIt_32 (by decide) ?_
          obtain ⟨z4, ez4, h⟩ := z_bd h
          refine xj_i (xrV (As := [.int v2, .int (0 : Int32)]) (rest := [.int ((8 : Int32) + v2), .ref (q_me 3)]) ⟨hx, hb, hml, hown, hts⟩ (m_X9_turnsOf l dC dI _ h_me q_me k_me o_me v2 (0 : Int32) z4 ez4) kw1652 kw1649 kw1651 kw82 kw120 hd_X9_turnsOf ⟨rfl, rfl⟩ rfl rfl ⟨rfl, rfl⟩ hX hK hw [0] (by decide) rfl rfl rfl rfl rfl hl.1 rfl rfl dX9_passIt_33) hw hA [0] (by decide) rfl rfl (fun H locs hw => ?_)
          have hw : Wd dC dI A s.heap [wX9 h_me q_me k_me z4.2] H locs := hw
          obtain ⟨g5, h⟩ := z_gd h
          refine fbX9_3 hx hb hK hw 0 rfl rfl g5 dX9_passIt_36 (fun H locs hw => ?_)
          obtain ⟨o6, eo6, h⟩ := z_lt h
          have hw : Wd dC dI A s.heap [wX9 h_me q_me k_me o6] H locs := by rw [eo6]; exact hw
          obtain ⟨x7, ex7, h⟩ := z_lt h
          refine lv_iinc (v := x7) (lv' := [(1, .int x7), (0, .ref h_me), (2, .int v2)]) hx hb dX9_passIt_37 hl (k := 1) rfl ((congrArg (v1 + ·) (show Int32.ofInt 1 = (1 : Int32) from by decide)).trans ex7.symm) (by decide) rfl (fun ls hl => ?_)
          exact bk_40_1 (lp_X9_passIt_4   N) ih x7 v2 o6 _ _ _ h hw (lv_sub hl [1, 0, 2] rfl)
  unfold f_X9_passIt at h
  refine lv_iconst (v := 0) hx hb dX9_passIt_0 (by decide) ?_
  refine lv_istore_n (lv' := [(1, .int (0 : Int32)), (0, .ref h_me)]) hx hb dX9_passIt_1 rfl hl (by decide) rfl (fun ls hl => ?_)
  refine lv_iconst (v := 0) hx hb dX9_passIt_2 (by decide) ?_
  refine lv_istore_n (lv' := [(2, .int (0 : Int32)), (1, .int (0 : Int32)), (0, .ref h_me)]) hx hb dX9_passIt_3 rfl hl (by decide) rfl (fun ls hl => ?_)
  exact lp_4_0  zfu (0 : Int32) (0 : Int32) o_me _ _ _ h hw (lv_sub hl [2, 1, 0] rfl)

def f_X9_passNow (o_me : Ob) : Option (Int32 × Ob) :=
  if (gA o_me 3 (4 : Int32).toNatClampNeg) = (999 : Int32) then
  (some ((-3 : Int32), o_me))
  else
  ((f_X9_remember o_me (3 : Int32)).bind fun z1 =>
  (f_X9_passIt z1).bind fun z2 =>
  some (z2.1, z2.2))
set_option maxHeartbeats 4000000 in
set_option maxRecDepth 100000 in
theorem m_X9_passNow (l : Launch) (dC : Nat → ClassId) (dI : Nat → Nat → Nat) (sz : Nat) (h_me : Nat) (q_me : Nat → Nat) (k_me : Nat → ClassId) (o_me : Ob) (y : Int32 × Ob) (h : f_X9_passNow o_me = some y) : CI l yX9_passNow cX9_passNow 1 (some .int) ({ frames := 7, cells := 0, slots := 0, locals := 167 } : Room) dC dI sz [.ref h_me] [wX9 h_me q_me k_me o_me] [tX9 k_me] y.1 [wX9 h_me q_me k_me y.2] := by
  refine CC_of (by decide) (Nat.le_of_ble_eq_true rfl) ?_
  intro p e s m below meth c A ls hx hb hml hr hlk hnm hown hts hX hK hP hD hA hl
  have hl : lv_has ls 1 [(0, .ref h_me)] := hl
  have hown : s.vm.findClass RX9 = some m.cls := hown
  have hw : Wd dC dI A s.heap [wX9 h_me q_me k_me o_me] s.heap [] := ⟨hP, hD, va_S.rf⟩
  generalize hQz : (MQ below (QI dC dI (fun r (_ : Unit) => r = y.1) (fun _ => Jn [wX9 h_me q_me k_me y.2]) (fun _ => Jt [tX9 k_me]) A) ([.ref h_me] : List Value).toArray s 0 0 A) = Qz
  clear hP hD hnm
  unfold f_X9_passNow at h
  refine lv_aload_n hx hb dX9_passNow_0 rfl (lv_at hl 0 rfl) ?_
  refine fgX9_3 hx hb hts hown hK hw 0 rfl kw1179 dX9_passNow_1 ?_
  refine lv_iconst (v := 4) hx hb dX9_passNow_4 (by decide) ?_
  refine faX9_3 hx hb hK hw 0 rfl rfl (by decide) dX9_passNow_5 ?_
  refine lv_sipush (v := 999) hx hb dX9_passNow_6 (by decide) ?_
  refine lv_icmp_ne (tgt := 15) hx hb dX9_passNow_9 (by decide) (fun c => ?_) (fun c => ?_)
  · have h := z_f h c
    refine lv_aload_n hx hb dX9_passNow_15 rfl (lv_at hl 0 rfl) ?_
    refine lv_iconst (v := 3) hx hb dX9_passNow_16 (by decide) ?_
    obtain ⟨z1, ez1, h⟩ := z_bd h
    refine xj_v (xrV (As := [.int (3 : Int32)]) (rest := []) ⟨hx, hb, hml, hown, hts⟩ (m_X9_remember l dC dI _ h_me q_me k_me o_me (3 : Int32) z1 ez1) kw1635 kw1632 kw1634 kw78 kw120 hd_X9_remember ⟨rfl, rfl⟩ rfl rfl ⟨rfl, rfl⟩ hX hK hw [0] (by decide) rfl rfl rfl rfl rfl hl.1 rfl rfl dX9_passNow_17) hw hA [0] (by decide) rfl rfl (fun H locs hw => ?_)
    have hw : Wd dC dI A s.heap [wX9 h_me q_me k_me z1] H locs := hw
    refine lv_aload_n hx hb dX9_passNow_20 rfl (lv_at hl 0 rfl) ?_
    obtain ⟨z2, ez2, h⟩ := z_bd h
    refine xj_i (xrV (As := []) (rest := []) ⟨hx, hb, hml, hown, hts⟩ (m_X9_passIt l dC dI _ h_me q_me k_me z1 z2 ez2) kw1684 kw1681 kw1683 kw87 kw120 hd_X9_passIt ⟨rfl, rfl⟩ rfl rfl ⟨rfl, rfl⟩ hX hK hw [0] (by decide) rfl rfl rfl rfl rfl hl.1 rfl rfl dX9_passNow_21) hw hA [0] (by decide) rfl rfl (fun H locs hw => ?_)
    have hw : Wd dC dI A s.heap [wX9 h_me q_me k_me z2.2] H locs := hw
    have hy := Option.some.inj h
    rw [← hQz, ← hy]
    exact xr_i (v := z2.1) hx hb hr rfl hlk hK hw dX9_passNow_24
  · have h := z_t h c
    refine lv_bipush (v := (-3)) hx hb dX9_passNow_12 (by decide) ?_
    have hy := Option.some.inj h
    rw [← hQz, ← hy]
    exact xr_i (v := (-3 : Int32)) hx hb hr rfl hlk hK hw dX9_passNow_14

def f_X9_act (o_me : Ob) (p0 : Int32) (p1 : Int32) : Option (Int32 × Ob) :=
  if p0 = (0 : Int32) then
  ((f_X9_raceNow o_me p1).bind fun z2 =>
  some (z2.1, z2.2))
  else
  (if p0 = (1 : Int32) then
  ((f_X9_enterNow o_me p1).bind fun z3 =>
  some (z3.1, z3.2))
  else
  (if p0 = (2 : Int32) then
  ((f_X9_takeNow o_me p1).bind fun z4 =>
  some (z4.1, z4.2))
  else
  ((f_X9_passNow o_me).bind fun z5 =>
  some (z5.1, z5.2))))
set_option maxHeartbeats 4000000 in
set_option maxRecDepth 100000 in
theorem m_X9_act (l : Launch) (dC : Nat → ClassId) (dI : Nat → Nat → Nat) (sz : Nat) (h_me : Nat) (q_me : Nat → Nat) (k_me : Nat → ClassId) (o_me : Ob) (p0 : Int32) (p1 : Int32) (y : Int32 × Ob) (h : f_X9_act o_me p0 p1 = some y) : CI l yX9_act cX9_act 3 (some .int) ({ frames := 8, cells := 0, slots := 0, locals := 194 } : Room) dC dI sz [.ref h_me, .int p0, .int p1] [wX9 h_me q_me k_me o_me] [tX9 k_me] y.1 [wX9 h_me q_me k_me y.2] := by
  refine CC_of (by decide) (Nat.le_of_ble_eq_true rfl) ?_
  intro p e s m below meth c A ls hx hb hml hr hlk hnm hown hts hX hK hP hD hA hl
  have hl : lv_has ls 3 [(0, .ref h_me), (1, .int p0), (2, .int p1)] := hl
  have hown : s.vm.findClass RX9 = some m.cls := hown
  have hw : Wd dC dI A s.heap [wX9 h_me q_me k_me o_me] s.heap [] := ⟨hP, hD, va_S.rf⟩
  generalize hQz : (MQ below (QI dC dI (fun r (_ : Unit) => r = y.1) (fun _ => Jn [wX9 h_me q_me k_me y.2]) (fun _ => Jt [tX9 k_me]) A) ([.ref h_me, .int p0, .int p1] : List Value).toArray s 0 0 A) = Qz
  clear hP hD hnm
  unfold f_X9_act at h
  refine lv_iload_n hx hb dX9_act_0 rfl (lv_at hl 1 rfl) ?_
  rcases (show p0.toInt = 0 ∨ p0.toInt = 1 ∨ p0.toInt = 2 ∨ (p0.toInt < 0 ∨ 2 < p0.toInt) by omega) with c1 | c1 | c1 | c1
  · skip
    have ec1 : p0 = (0 : Int32) := Int32.toInt_inj.mp (c1.trans (by decide))
    have h := z_t h ec1
    refine lv_fi (v := 0) ec1 ?_
    refine lv_tableIn (tgt := 28) hx hb dX9_act_1 (by decide) (by decide) rfl (by decide) ?_
    refine lv_aload_n hx hb dX9_act_28 rfl (lv_at hl 0 rfl) ?_
    refine lv_iload_n hx hb dX9_act_29 rfl (lv_at hl 2 rfl) ?_
    obtain ⟨z2, ez2, h⟩ := z_bd h
    refine xj_i (xrV (As := [.int p1]) (rest := []) ⟨hx, hb, hml, hown, hts⟩ (m_X9_raceNow l dC dI _ h_me q_me k_me o_me p1 z2 ez2) kw1631 kw1628 kw1630 kw77 kw120 hd_X9_raceNow ⟨rfl, rfl⟩ rfl rfl ⟨rfl, rfl⟩ hX hK hw [0] (by decide) rfl rfl rfl rfl rfl hl.1 rfl rfl dX9_act_30) hw hA [0] (by decide) rfl rfl (fun H locs hw => ?_)
    have hw : Wd dC dI A s.heap [wX9 h_me q_me k_me z2.2] H locs := hw
    have hy := Option.some.inj h
    rw [← hQz, ← hy]
    exact xr_i (v := z2.1) hx hb hr rfl hlk hK hw dX9_act_33
  · skip
    have h := z_f h (fun e9 => by rw [e9] at c1; revert c1; decide)
    have ec1 : p0 = (1 : Int32) := Int32.toInt_inj.mp (c1.trans (by decide))
    have h := z_t h ec1
    refine lv_fi (v := 1) ec1 ?_
    refine lv_tableIn (tgt := 34) hx hb dX9_act_1 (by decide) (by decide) rfl (by decide) ?_
    refine lv_aload_n hx hb dX9_act_34 rfl (lv_at hl 0 rfl) ?_
    refine lv_iload_n hx hb dX9_act_35 rfl (lv_at hl 2 rfl) ?_
    obtain ⟨z3, ez3, h⟩ := z_bd h
    refine xj_i (xrV (As := [.int p1]) (rest := []) ⟨hx, hb, hml, hown, hts⟩ (m_X9_enterNow l dC dI _ h_me q_me k_me o_me p1 z3 ez3) kw1660 kw1657 kw1659 kw83 kw120 hd_X9_enterNow ⟨rfl, rfl⟩ rfl rfl ⟨rfl, rfl⟩ hX hK hw [0] (by decide) rfl rfl rfl rfl rfl hl.1 rfl rfl dX9_act_36) hw hA [0] (by decide) rfl rfl (fun H locs hw => ?_)
    have hw : Wd dC dI A s.heap [wX9 h_me q_me k_me z3.2] H locs := hw
    have hy := Option.some.inj h
    rw [← hQz, ← hy]
    exact xr_i (v := z3.1) hx hb hr rfl hlk hK hw dX9_act_39
  · skip
    have h := z_f h (fun e9 => by rw [e9] at c1; revert c1; decide)
    have h := z_f h (fun e9 => by rw [e9] at c1; revert c1; decide)
    have ec1 : p0 = (2 : Int32) := Int32.toInt_inj.mp (c1.trans (by decide))
    have h := z_t h ec1
    refine lv_fi (v := 2) ec1 ?_
    refine lv_tableIn (tgt := 40) hx hb dX9_act_1 (by decide) (by decide) rfl (by decide) ?_
    refine lv_aload_n hx hb dX9_act_40 rfl (lv_at hl 0 rfl) ?_
    refine lv_iload_n hx hb dX9_act_41 rfl (lv_at hl 2 rfl) ?_
    obtain ⟨z4, ez4, h⟩ := z_bd h
    refine xj_i (xrV (As := [.int p1]) (rest := []) ⟨hx, hb, hml, hown, hts⟩ (m_X9_takeNow l dC dI _ h_me q_me k_me o_me p1 z4 ez4) kw1668 kw1665 kw1667 kw84 kw120 hd_X9_takeNow ⟨rfl, rfl⟩ rfl rfl ⟨rfl, rfl⟩ hX hK hw [0] (by decide) rfl rfl rfl rfl rfl hl.1 rfl rfl dX9_act_42) hw hA [0] (by decide) rfl rfl (fun H locs hw => ?_)
    have hw : Wd dC dI A s.heap [wX9 h_me q_me k_me z4.2] H locs := hw
    have hy := Option.some.inj h
    rw [← hQz, ← hy]
    exact xr_i (v := z4.1) hx hb hr rfl hlk hK hw dX9_act_45
  · skip
    have h := z_f h (fun e9 => by rw [e9] at c1; revert c1; decide)
    have h := z_f h (fun e9 => by rw [e9] at c1; revert c1; decide)
    have h := z_f h (fun e9 => by rw [e9] at c1; revert c1; decide)
    refine lv_tableOut (tgt := 46) hx hb dX9_act_1 c1 (by decide) ?_
    refine lv_aload_n hx hb dX9_act_46 rfl (lv_at hl 0 rfl) ?_
    obtain ⟨z5, ez5, h⟩ := z_bd h
    refine xj_i (xrV (As := []) (rest := []) ⟨hx, hb, hml, hown, hts⟩ (m_X9_passNow l dC dI _ h_me q_me k_me o_me z5 ez5) kw1680 kw1677 kw1679 kw86 kw120 hd_X9_passNow ⟨rfl, rfl⟩ rfl rfl ⟨rfl, rfl⟩ hX hK hw [0] (by decide) rfl rfl rfl rfl rfl hl.1 rfl rfl dX9_act_47) hw hA [0] (by decide) rfl rfl (fun H locs hw => ?_)
    have hw : Wd dC dI A s.heap [wX9 h_me q_me k_me z5.2] H locs := hw
    have hy := Option.some.inj h
    rw [← hQz, ← hy]
    exact xr_i (v := z5.1) hx hb hr rfl hlk hK hw dX9_act_50

def bk_X9_tell_10   (v1 : Int32) (s0 : Int32) (o_me : Ob) : Option (Int32 × Ob) :=
  zlt (sI o_me 1 s0) fun o1 =>
  if (0 : Int32) ≤ v1 then
  (some (v1, o1))
  else
  (zlt (-v1) fun x2 =>
  zgd (zin x2 7) <|
  zgd (zin x2 7) <|
  zlt (tA o1 2 x2.toNatClampNeg ((gA o1 2 x2.toNatClampNeg) + (1 : Int32))) fun o5 =>
  some (v1, o5))
def f_X9_tell (o_me : Ob) (p0 : Int32) : Option (Int32 × Ob) :=
  if (0 : Int32) ≤ p0 then
  (bk_X9_tell_10   p0 (0 : Int32) o_me)
  else
  (bk_X9_tell_10   p0 p0 o_me)
set_option maxHeartbeats 4000000 in
set_option maxRecDepth 100000 in
theorem m_X9_tell (l : Launch) (dC : Nat → ClassId) (dI : Nat → Nat → Nat) (sz : Nat) (h_me : Nat) (q_me : Nat → Nat) (k_me : Nat → ClassId) (o_me : Ob) (p0 : Int32) (y : Int32 × Ob) (h : f_X9_tell o_me p0 = some y) : CI l yX9_tell cX9_tell 2 (some .int) ({ frames := 0, cells := 0, slots := 0, locals := 0 } : Room) dC dI sz [.ref h_me, .int p0] [wX9 h_me q_me k_me o_me] [tX9 k_me] y.1 [wX9 h_me q_me k_me y.2] := by
  refine CC_of (by decide) (Nat.le_of_ble_eq_true rfl) ?_
  intro p e s m below meth c A ls hx hb hml hr hlk hnm hown hts hX hK hP hD hA hl
  have hl : lv_has ls 2 [(0, .ref h_me), (1, .int p0)] := hl
  have hown : s.vm.findClass RX9 = some m.cls := hown
  have hw : Wd dC dI A s.heap [wX9 h_me q_me k_me o_me] s.heap [] := ⟨hP, hD, va_S.rf⟩
  generalize hQz : (MQ below (QI dC dI (fun r (_ : Unit) => r = y.1) (fun _ => Jn [wX9 h_me q_me k_me y.2]) (fun _ => Jt [tX9 k_me]) A) ([.ref h_me, .int p0] : List Value).toArray s 0 0 A) = Qz
  clear hP hD hnm
  have bk_10_0 : ∀ (v1 : Int32) (s0 : Int32) (o_me : Ob) (H : Heap) (locs : List Loc) (ls : Array Slot), bk_X9_tell_10   v1 s0 o_me = some y → Wd dC dI A s.heap [wX9 h_me q_me k_me o_me] H locs → lv_has ls 2 [(0, .ref h_me), (1, .int v1)] → W p l e ({ frames := 0, cells := 0, slots := 0, locals := 0 } : Room) s m ([.ref h_me, .int p0] : List Value).toArray below meth c H locs 0 0 Qz (F0 m 10 ls [.int s0, .ref h_me]) := by
    intro v1 s0 o_me H locs ls h hw hl
    unfold bk_X9_tell_10 at h
    refine fpX9_1 hx hb hts hown hK hw 0 rfl kw1177 dX9_tell_10 (fun H locs hw => ?_)
    obtain ⟨o1, eo1, h⟩ := z_lt h
    have hw : Wd dC dI A s.heap [wX9 h_me q_me k_me o1] H locs := by rw [eo1]; exact hw
    refine lv_iload_n hx hb dX9_tell_13 rfl (lv_at hl 1 rfl) ?_
    refine lv_if_ge (tgt := 28) hx hb dX9_tell_14 (by decide) (fun c => ?_) (fun c => ?_)
    · have h := z_t h c
      refine lv_iload_n hx hb dX9_tell_28 rfl (lv_at hl 1 rfl) ?_
      have hy := Option.some.inj h
      rw [← hQz, ← hy]
      exact xr_i (v := v1) hx hb hr rfl hlk hK hw dX9_tell_29
    · have h := z_f h c
      refine lv_aload_n hx hb dX9_tell_17 rfl (lv_at hl 0 rfl) ?_
      refine fgX9_2 hx hb hts hown hK hw 0 rfl kw1178 dX9_tell_18 ?_
      refine lv_iload_n hx hb dX9_tell_21 rfl (lv_at hl 1 rfl) ?_
      refine lv_ineg hx hb dX9_tell_22 ?_
      obtain ⟨x2, ex2, h⟩ := z_lt h
      refine lv_fi (v := x2) ex2.symm ?_
      refine lv_dup2_11 hx hb dX9_tell_23 rfl rfl ?_
      obtain ⟨g3, h⟩ := z_gd h
      refine faX9_2 hx hb hK hw 0 rfl rfl g3 dX9_tell_24 ?_
      refine lv_iconst (v := 1) hx hb dX9_tell_25 (by decide) ?_
      refine lv_iadd hx hb dX9_tell_26 ?_
      obtain ⟨g4, h⟩ := z_gd h
      refine fbX9_2 hx hb hK hw 0 rfl rfl g4 dX9_tell_27 (fun H locs hw => ?_)
      obtain ⟨o5, eo5, h⟩ := z_lt h
      have hw : Wd dC dI A s.heap [wX9 h_me q_me k_me o5] H locs := by rw [eo5]; exact hw
      refine lv_iload_n hx hb dX9_tell_28 rfl (lv_at hl 1 rfl) ?_
      have hy := Option.some.inj h
      rw [← hQz, ← hy]
      exact xr_i (v := v1) hx hb hr rfl hlk hK hw dX9_tell_29
  unfold f_X9_tell at h
  refine lv_aload_n hx hb dX9_tell_0 rfl (lv_at hl 0 rfl) ?_
  refine lv_iload_n hx hb dX9_tell_1 rfl (lv_at hl 1 rfl) ?_
  refine lv_if_ge (tgt := 9) hx hb dX9_tell_2 (by decide) (fun c => ?_) (fun c => ?_)
  · have h := z_t h c
    refine lv_iconst (v := 0) hx hb dX9_tell_9 (by decide) ?_
    exact bk_10_0  p0 (0 : Int32) o_me _ _ _ h hw (lv_sub hl [0, 1] rfl)
  · have h := z_f h c
    refine lv_iload_n hx hb dX9_tell_5 rfl (lv_at hl 1 rfl) ?_
    refine lv_goto (tgt := 10) hx hb dX9_tell_6 (by decide) ?_
    exact bk_10_0  p0 p0 o_me _ _ _ h hw (lv_sub hl [0, 1] rfl)

def bk_X9_settled_13   (v1 : Int32) (s0 : Int32) (o_me : Ob) : Option (Int32 × Ob) :=
  zlt (sI o_me 8 s0) fun o1 =>
  (f_X9_tell o1 v1).bind fun z2 =>
  some (z2.1, z2.2)
def f_X9_settled (o_me : Ob) (p0 : Int32) : Option (Int32 × Ob) :=
  if (0 : Int32) ≤ p0 then
  (bk_X9_settled_13   p0 (0 : Int32) o_me)
  else
  (bk_X9_settled_13   p0 (gI o_me 8) o_me)
set_option maxHeartbeats 4000000 in
set_option maxRecDepth 100000 in
theorem m_X9_settled (l : Launch) (dC : Nat → ClassId) (dI : Nat → Nat → Nat) (sz : Nat) (h_me : Nat) (q_me : Nat → Nat) (k_me : Nat → ClassId) (o_me : Ob) (p0 : Int32) (y : Int32 × Ob) (h : f_X9_settled o_me p0 = some y) : CI l yX9_settled cX9_settled 2 (some .int) ({ frames := 1, cells := 0, slots := 0, locals := 21 } : Room) dC dI sz [.ref h_me, .int p0] [wX9 h_me q_me k_me o_me] [tX9 k_me] y.1 [wX9 h_me q_me k_me y.2] := by
  refine CC_of (by decide) (Nat.le_of_ble_eq_true rfl) ?_
  intro p e s m below meth c A ls hx hb hml hr hlk hnm hown hts hX hK hP hD hA hl
  have hl : lv_has ls 2 [(0, .ref h_me), (1, .int p0)] := hl
  have hown : s.vm.findClass RX9 = some m.cls := hown
  have hw : Wd dC dI A s.heap [wX9 h_me q_me k_me o_me] s.heap [] := ⟨hP, hD, va_S.rf⟩
  generalize hQz : (MQ below (QI dC dI (fun r (_ : Unit) => r = y.1) (fun _ => Jn [wX9 h_me q_me k_me y.2]) (fun _ => Jt [tX9 k_me]) A) ([.ref h_me, .int p0] : List Value).toArray s 0 0 A) = Qz
  clear hP hD hnm
  have bk_13_0 : ∀ (v1 : Int32) (s0 : Int32) (o_me : Ob) (H : Heap) (locs : List Loc) (ls : Array Slot), bk_X9_settled_13   v1 s0 o_me = some y → Wd dC dI A s.heap [wX9 h_me q_me k_me o_me] H locs → lv_has ls 2 [(0, .ref h_me), (1, .int v1)] → W p l e ({ frames := 1, cells := 0, slots := 0, locals := 21 } : Room) s m ([.ref h_me, .int p0] : List Value).toArray below meth c H locs 0 0 Qz (F0 m 13 ls [.int s0, .ref h_me]) := by
    intro v1 s0 o_me H locs ls h hw hl
    unfold bk_X9_settled_13 at h
    refine fpX9_8 hx hb hts hown hK hw 0 rfl kw1184 dX9_settled_13 (fun H locs hw => ?_)
    obtain ⟨o1, eo1, h⟩ := z_lt h
    have hw : Wd dC dI A s.heap [wX9 h_me q_me k_me o1] H locs := by rw [eo1]; exact hw
    refine lv_aload_n hx hb dX9_settled_16 rfl (lv_at hl 0 rfl) ?_
    refine lv_iload_n hx hb dX9_settled_17 rfl (lv_at hl 1 rfl) ?_
    obtain ⟨z2, ez2, h⟩ := z_bd h
    refine xj_i (xrV (As := [.int v1]) (rest := []) ⟨hx, hb, hml, hown, hts⟩ (m_X9_tell l dC dI _ h_me q_me k_me o1 v1 z2 ez2) kw1374 kw1371 kw1373 kw39 kw120 hd_X9_tell ⟨rfl, rfl⟩ rfl rfl ⟨rfl, rfl⟩ hX hK hw [0] (by decide) rfl rfl rfl rfl rfl hl.1 rfl rfl dX9_settled_18) hw hA [0] (by decide) rfl rfl (fun H locs hw => ?_)
    have hw : Wd dC dI A s.heap [wX9 h_me q_me k_me z2.2] H locs := hw
    have hy := Option.some.inj h
    rw [← hQz, ← hy]
    exact xr_i (v := z2.1) hx hb hr rfl hlk hK hw dX9_settled_21
  unfold f_X9_settled at h
  refine lv_aload_n hx hb dX9_settled_0 rfl (lv_at hl 0 rfl) ?_
  refine lv_iload_n hx hb dX9_settled_1 rfl (lv_at hl 1 rfl) ?_
  refine lv_if_ge (tgt := 12) hx hb dX9_settled_2 (by decide) (fun c => ?_) (fun c => ?_)
  · have h := z_t h c
    refine lv_iconst (v := 0) hx hb dX9_settled_12 (by decide) ?_
    exact bk_13_0  p0 (0 : Int32) o_me _ _ _ h hw (lv_sub hl [0, 1] rfl)
  · have h := z_f h c
    refine lv_aload_n hx hb dX9_settled_5 rfl (lv_at hl 0 rfl) ?_
    refine fgX9_8 hx hb hts hown hK hw 0 rfl kw1184 dX9_settled_6 ?_
    refine lv_goto (tgt := 13) hx hb dX9_settled_9 (by decide) ?_
    exact bk_13_0  p0 (gI o_me 8) o_me _ _ _ h hw (lv_sub hl [0, 1] rfl)

def lb_X9_back_39   (rec_39_0 : Int32 × Int32 × Ob → Option (Int32 × Ob)) (v1 : Int32) (v2 : Int32) (o_me : Ob) : Option (Int32 × Ob) :=
  if (5484 : Int32) ≤ v2 then
  ((f_X9_settled o_me (0 : Int32)).bind fun z4 =>
  some (z4.1, z4.2))
  else
  (zgd (zin (((5484 : Int32) * v1) + v2) 10968) <|
  zgd (zin v2 5484) <|
  zlt (tA o_me 3 v2.toNatClampNeg (gA o_me 4 (((5484 : Int32) * v1) + v2).toNatClampNeg)) fun o7 =>
  zlt (v2 + (1 : Int32)) fun x8 =>
  rec_39_0 (v1, x8, o7))
def lp_X9_back_39   : Nat → (Int32 × Int32 × Ob) → Option (Int32 × Ob) := zit (fun rec a => lb_X9_back_39   rec a.1 a.2.1 a.2.2)
def f_X9_back (o_me : Ob) (p0 : Int32) : Option (Int32 × Ob) :=
  zlt (sI o_me 0 (0 : Int32)) fun o1 =>
  (f_X9_in p0.toInt64 (0 : Int64) (1 : Int64)).bind fun z2 =>
  if z2 = (0 : Int32) then
  ((f_X9_tell o1 (-1 : Int32)).bind fun z10 =>
  some (z10.1, z10.2))
  else
  (zgd (zin p0 2) <|
  if (gA o1 5 p0.toNatClampNeg) = (0 : Int32) then
  ((f_X9_tell o1 (-2 : Int32)).bind fun z9 =>
  some (z9.1, z9.2))
  else
  (lp_X9_back_39   zfu (p0, (0 : Int32), o1)))
set_option maxHeartbeats 4000000 in
set_option maxRecDepth 100000 in
theorem m_X9_back (l : Launch) (dC : Nat → ClassId) (dI : Nat → Nat → Nat) (sz : Nat) (h_me : Nat) (q_me : Nat → Nat) (k_me : Nat → ClassId) (o_me : Ob) (p0 : Int32) (y : Int32 × Ob) (h : f_X9_back o_me p0 = some y) : CI l yX9_back cX9_back 3 (some .int) ({ frames := 2, cells := 0, slots := 0, locals := 42 } : Room) dC dI sz [.ref h_me, .int p0] [wX9 h_me q_me k_me o_me] [tX9 k_me] y.1 [wX9 h_me q_me k_me y.2] := by
  refine CC_of (by decide) (Nat.le_of_ble_eq_true rfl) ?_
  intro p e s m below meth c A ls hx hb hml hr hlk hnm hown hts hX hK hP hD hA hl
  have hl : lv_has ls 3 [(0, .ref h_me), (1, .int p0)] := hl
  have hown : s.vm.findClass RX9 = some m.cls := hown
  have hw : Wd dC dI A s.heap [wX9 h_me q_me k_me o_me] s.heap [] := ⟨hP, hD, va_S.rf⟩
  generalize hQz : (MQ below (QI dC dI (fun r (_ : Unit) => r = y.1) (fun _ => Jn [wX9 h_me q_me k_me y.2]) (fun _ => Jt [tX9 k_me]) A) ([.ref h_me, .int p0] : List Value).toArray s 0 0 A) = Qz
  clear hP hD hnm
  have lp_39_0 : ∀ (N : Nat), ∀ (v1 : Int32) (v2 : Int32) (o_me : Ob) (H : Heap) (locs : List Loc) (ls : Array Slot), lp_X9_back_39   N (v1, v2, o_me) = some y → Wd dC dI A s.heap [wX9 h_me q_me k_me o_me] H locs → lv_has ls 3 [(0, .ref h_me), (1, .int v1), (2, .int v2)] → W p l e ({ frames := 2, cells := 0, slots := 0, locals := 42 } : Room) s m ([.ref h_me, .int p0] : List Value).toArray below meth c H locs 0 0 Qz (F0 m 39 ls []) := by
    intro N
    induction N with
    | zero =>
      intro v1 v2 o_me H locs ls h hw hl
      exact absurd (show (none : Option (Int32 × Ob)) = some y from h) (by simp)
    | succ N ih =>
      intro v1 v2 o_me H locs ls h hw hl
      have h : lb_X9_back_39   (lp_X9_back_39   N) v1 v2 o_me = some y := h
      unfold lb_X9_back_39 at h
      refine lv_iload_n hx hb dX9_back_39 rfl (lv_at hl 2 rfl) ?_
      refine lv_sipush (v := 5484) hx hb dX9_back_40 (by decide) ?_
      refine lv_icmp_ge (tgt := 70) hx hb dX9_back_43 (by decide) (fun c => ?_) (fun c => ?_)
      · have h := z_t h c
        refine lv_aload_n hx hb dX9_back_70 rfl (lv_at hl 0 rfl) ?_
        refine lv_iconst (v := 0) hx hb dX9_back_71 (by decide) ?_
        obtain ⟨z4, ez4, h⟩ := z_bd h
        refine xj_i (xrV (As := [.int (0 : Int32)]) (rest := []) ⟨hx, hb, hml, hown, hts⟩ (m_X9_settled l dC dI _ h_me q_me k_me o_me (0 : Int32) z4 ez4) kw1393 kw1390 kw1392 kw41 kw120 hd_X9_settled ⟨rfl, rfl⟩ rfl rfl ⟨rfl, rfl⟩ hX hK hw [0] (by decide) rfl rfl rfl rfl rfl hl.1 rfl rfl dX9_back_72) hw hA [0] (by decide) rfl rfl (fun H locs hw => ?_)
        have hw : Wd dC dI A s.heap [wX9 h_me q_me k_me z4.2] H locs := hw
        have hy := Option.some.inj h
        rw [← hQz, ← hy]
        exact xr_i (v := z4.1) hx hb hr rfl hlk hK hw dX9_back_75
      · have h := z_f h c
        refine lv_aload_n hx hb dX9_back_46 rfl (lv_at hl 0 rfl) ?_
        refine fgX9_3 hx hb hts hown hK hw 0 rfl kw1179 dX9_back_47 ?_
        refine lv_iload_n hx hb dX9_back_50 rfl (lv_at hl 2 rfl) ?_
        refine lv_aload_n hx hb dX9_back_51 rfl (lv_at hl 0 rfl) ?_
        refine fgX9_4 hx hb hts hown hK hw 0 rfl kw1180 dX9_back_52 ?_
        refine lv_sipush (v := 5484) hx hb dX9_back_55 (by decide) ?_
        refine lv_iload_n hx hb dX9_back_58 rfl (lv_at hl 1 rfl) ?_
        refine lv_imul hx hb dX9_back_59 ?_
        refine lv_iload_n hx hb dX9_back_60 rfl (lv_at hl 2 rfl) ?_
        refine lv_iadd hx hb dX9_back_61 ?_
        obtain ⟨g5, h⟩ := z_gd h
        refine faX9_4 hx hb hK hw 0 rfl rfl g5 dX9_back_62 ?_
        obtain ⟨g6, h⟩ := z_gd h
        refine fbX9_3 hx hb hK hw 0 rfl rfl g6 dX9_back_63 (fun H locs hw => ?_)
        obtain ⟨o7, eo7, h⟩ := z_lt h
        have hw : Wd dC dI A s.heap [wX9 h_me q_me k_me o7] H locs := by rw [eo7]; exact hw
        obtain ⟨x8, ex8, h⟩ := z_lt h
        refine lv_iinc (v := x8) (lv' := [(2, .int x8), (0, .ref h_me), (1, .int v1)]) hx hb dX9_back_64 hl (k := 2) rfl ((congrArg (v2 + ·) (show Int32.ofInt 1 = (1 : Int32) from by decide)).trans ex8.symm) (by decide) rfl (fun ls hl => ?_)
        refine lv_goto (tgt := 39) hx hb dX9_back_67 (by decide) ?_
        exact ih v1 x8 o7 _ _ _ h hw (lv_sub hl [1, 2, 0] rfl)
  unfold f_X9_back at h
  refine lv_aload_n hx hb dX9_back_0 rfl (lv_at hl 0 rfl) ?_
  refine lv_iconst (v := 0) hx hb dX9_back_1 (by decide) ?_
  refine fpX9_0 hx hb hts hown hK hw 0 rfl kw1176 dX9_back_2 (fun H locs hw => ?_)
  obtain ⟨o1, eo1, h⟩ := z_lt h
  have hw : Wd dC dI A s.heap [wX9 h_me q_me k_me o1] H locs := by rw [eo1]; exact hw
  refine lv_iload_n hx hb dX9_back_5 rfl (lv_at hl 1 rfl) ?_
  refine lv_i2l hx hb dX9_back_6 rfl ?_
  refine lv_lconst (v := 0) hx hb dX9_back_7 (by decide) ?_
  refine lv_lconst (v := 1) hx hb dX9_back_8 (by decide) ?_
  obtain ⟨z2, ez2, h⟩ := z_bd h
  refine xj_i (xrS (As := [.long p0.toInt64, .long (0 : Int64), .long (1 : Int64)]) (rest := []) ⟨hx, hb, hml, hown, hts⟩ (m_X9_in l dC dI _  p0.toInt64 (0 : Int64) (1 : Int64) z2 ez2) kw1385 kw1383 kw1384 kw120 hd_X9_in ⟨rfl, rfl⟩ rfl rfl ⟨rfl, rfl⟩ hX hK hw [] (by decide) rfl rfl hl.1 rfl rfl dX9_back_9) hw hA [] (by decide) rfl rfl (fun H locs hw => ?_)
  refine lv_if_ne (tgt := 21) hx hb dX9_back_12 (by decide) (fun c => ?_) (fun c => ?_)
  · have h := z_f h c
    refine lv_aload_n hx hb dX9_back_21 rfl (lv_at hl 0 rfl) ?_
    refine fgX9_5 hx hb hts hown hK hw 0 rfl kw1181 dX9_back_22 ?_
    refine lv_iload_n hx hb dX9_back_25 rfl (lv_at hl 1 rfl) ?_
    obtain ⟨g3, h⟩ := z_gd h
    refine faX9_5 hx hb hK hw 0 rfl rfl g3 dX9_back_26 ?_
    refine lv_if_ne (tgt := 37) hx hb dX9_back_27 (by decide) (fun c => ?_) (fun c => ?_)
    · have h := z_f h c
      refine lv_iconst (v := 0) hx hb dX9_back_37 (by decide) ?_
      refine lv_istore_n (lv' := [(2, .int (0 : Int32)), (0, .ref h_me), (1, .int p0)]) hx hb dX9_back_38 rfl hl (by decide) rfl (fun ls hl => ?_)
      exact lp_39_0  zfu p0 (0 : Int32) o1 _ _ _ h hw (lv_sub hl [1, 2, 0] rfl)
    · have h := z_t h c
      refine lv_aload_n hx hb dX9_back_30 rfl (lv_at hl 0 rfl) ?_
      refine lv_bipush (v := (-2)) hx hb dX9_back_31 (by decide) ?_
      obtain ⟨z9, ez9, h⟩ := z_bd h
      refine xj_i (xrV (As := [.int (-2 : Int32)]) (rest := []) ⟨hx, hb, hml, hown, hts⟩ (m_X9_tell l dC dI _ h_me q_me k_me o1 (-2 : Int32) z9 ez9) kw1374 kw1371 kw1373 kw39 kw120 hd_X9_tell ⟨rfl, rfl⟩ rfl rfl ⟨rfl, rfl⟩ hX hK hw [0] (by decide) rfl rfl rfl rfl rfl hl.1 rfl rfl dX9_back_33) hw hA [0] (by decide) rfl rfl (fun H locs hw => ?_)
      have hw : Wd dC dI A s.heap [wX9 h_me q_me k_me z9.2] H locs := hw
      have hy := Option.some.inj h
      rw [← hQz, ← hy]
      exact xr_i (v := z9.1) hx hb hr rfl hlk hK hw dX9_back_36
  · have h := z_t h c
    refine lv_aload_n hx hb dX9_back_15 rfl (lv_at hl 0 rfl) ?_
    refine lv_iconst (v := (-1)) hx hb dX9_back_16 (by decide) ?_
    obtain ⟨z10, ez10, h⟩ := z_bd h
    refine xj_i (xrV (As := [.int (-1 : Int32)]) (rest := []) ⟨hx, hb, hml, hown, hts⟩ (m_X9_tell l dC dI _ h_me q_me k_me o1 (-1 : Int32) z10 ez10) kw1374 kw1371 kw1373 kw39 kw120 hd_X9_tell ⟨rfl, rfl⟩ rfl rfl ⟨rfl, rfl⟩ hX hK hw [0] (by decide) rfl rfl rfl rfl rfl hl.1 rfl rfl dX9_back_17) hw hA [0] (by decide) rfl rfl (fun H locs hw => ?_)
    have hw : Wd dC dI A s.heap [wX9 h_me q_me k_me z10.2] H locs := hw
    have hy := Option.some.inj h
    rw [← hQz, ← hy]
    exact xr_i (v := z10.1) hx hb hr rfl hlk hK hw dX9_back_20

def lb_X9_layRuns_2   (rec_2_0 : Int32 × Int32 × Ob → Option (Ob)) (v1 : Int32) (v2 : Int32) (o_me : Ob) : Option (Ob) :=
  if (gA o_me 3 (0 : Int32).toNatClampNeg) ≤ v2 then
  (some o_me)
  else
  ((f_X9_runsOf o_me v2 v1).bind fun z1 =>
  zgd (zin v2 7) <|
  zlt (tA z1.2 41 v2.toNatClampNeg z1.1) fun o3 =>
  (f_X9_isBarred o3 v2 v1).bind fun z4 =>
  zgd (zin v2 7) <|
  zlt (tA z4.2 44 v2.toNatClampNeg (vp_nar .boolean z4.1)) fun o6 =>
  zlt (v2 + (1 : Int32)) fun x7 =>
  rec_2_0 (v1, x7, o6))
def lp_X9_layRuns_2   : Nat → (Int32 × Int32 × Ob) → Option (Ob) := zit (fun rec a => lb_X9_layRuns_2   rec a.1 a.2.1 a.2.2)
def f_X9_layRuns (o_me : Ob) (p0 : Int32) : Option (Ob) :=
  lp_X9_layRuns_2   zfu (p0, (0 : Int32), o_me)
set_option maxHeartbeats 4000000 in
set_option maxRecDepth 100000 in
theorem m_X9_layRuns (l : Launch) (dC : Nat → ClassId) (dI : Nat → Nat → Nat) (sz : Nat) (h_me : Nat) (q_me : Nat → Nat) (k_me : Nat → ClassId) (o_me : Ob) (p0 : Int32) (y : Ob) (h : f_X9_layRuns o_me p0 = some y) : CV l yX9_layRuns cX9_layRuns 3 none ({ frames := 6, cells := 0, slots := 0, locals := 145 } : Room) dC dI sz [.ref h_me, .int p0] [wX9 h_me q_me k_me o_me] [tX9 k_me] [wX9 h_me q_me k_me y] := by
  refine CC_of (by decide) (Nat.le_of_ble_eq_true rfl) ?_
  intro p e s m below meth c A ls hx hb hml hr hlk hnm hown hts hX hK hP hD hA hl
  have hl : lv_has ls 3 [(0, .ref h_me), (1, .int p0)] := hl
  have hown : s.vm.findClass RX9 = some m.cls := hown
  have hw : Wd dC dI A s.heap [wX9 h_me q_me k_me o_me] s.heap [] := ⟨hP, hD, va_S.rf⟩
  generalize hQz : (MQ below (QV dC dI (fun (_ : Unit) => True) (fun _ => Jn [wX9 h_me q_me k_me y]) (fun _ => Jt [tX9 k_me]) A) ([.ref h_me, .int p0] : List Value).toArray s 0 0 A) = Qz
  clear hP hD hnm
  have lp_2_0 : ∀ (N : Nat), ∀ (v1 : Int32) (v2 : Int32) (o_me : Ob) (H : Heap) (locs : List Loc) (ls : Array Slot), lp_X9_layRuns_2   N (v1, v2, o_me) = some y → Wd dC dI A s.heap [wX9 h_me q_me k_me o_me] H locs → lv_has ls 3 [(0, .ref h_me), (1, .int v1), (2, .int v2)] → W p l e ({ frames := 6, cells := 0, slots := 0, locals := 145 } : Room) s m ([.ref h_me, .int p0] : List Value).toArray below meth c H locs 0 0 Qz (F0 m 2 ls []) := by
    intro N
    induction N with
    | zero =>
      intro v1 v2 o_me H locs ls h hw hl
      exact absurd (show (none : Option (Ob)) = some y from h) (by simp)
    | succ N ih =>
      intro v1 v2 o_me H locs ls h hw hl
      have h : lb_X9_layRuns_2   (lp_X9_layRuns_2   N) v1 v2 o_me = some y := h
      unfold lb_X9_layRuns_2 at h
      refine lv_iload_n hx hb dX9_layRuns_2 rfl (lv_at hl 2 rfl) ?_
      refine lv_aload_n hx hb dX9_layRuns_3 rfl (lv_at hl 0 rfl) ?_
      refine fgX9_3 hx hb hts hown hK hw 0 rfl kw1179 dX9_layRuns_4 ?_
      refine lv_iconst (v := 0) hx hb dX9_layRuns_7 (by decide) ?_
      refine faX9_3 hx hb hK hw 0 rfl rfl (by decide) dX9_layRuns_8 ?_
      refine lv_icmp_ge (tgt := 42) hx hb dX9_layRuns_9 (by decide) (fun c => ?_) (fun c => ?_)
      · have h := z_t h c
        have hy := Option.some.inj h
        rw [← hQz, ← hy]
        exact xr_v hx hb hr hlk hK hw dX9_layRuns_42
      · have h := z_f h c
        refine lv_aload_n hx hb dX9_layRuns_12 rfl (lv_at hl 0 rfl) ?_
        refine fgX9_41 hx hb hts hown hK hw 0 rfl kw1217 dX9_layRuns_13 ?_
        refine lv_iload_n hx hb dX9_layRuns_16 rfl (lv_at hl 2 rfl) ?_
        refine lv_aload_n hx hb dX9_layRuns_17 rfl (lv_at hl 0 rfl) ?_
        refine lv_iload_n hx hb dX9_layRuns_18 rfl (lv_at hl 2 rfl) ?_
        refine lv_iload_n hx hb dX9_layRuns_19 rfl (lv_at hl 1 rfl) ?_
        obtain ⟨z1, ez1, h⟩ := z_bd h
        refine xj_i (xrV (As := [.int v2, .int v1]) (rest := [.int v2, .ref (q_me 41)]) ⟨hx, hb, hml, hown, hts⟩ (m_X9_runsOf l dC dI _ h_me q_me k_me o_me v2 v1 z1 ez1) kw1411 kw1408 kw1410 kw43 kw120 hd_X9_runsOf ⟨rfl, rfl⟩ rfl rfl ⟨rfl, rfl⟩ hX hK hw [0] (by decide) rfl rfl rfl rfl rfl hl.1 rfl rfl dX9_layRuns_20) hw hA [0] (by decide) rfl rfl (fun H locs hw => ?_)
        have hw : Wd dC dI A s.heap [wX9 h_me q_me k_me z1.2] H locs := hw
        obtain ⟨g2, h⟩ := z_gd h
        refine fbX9_41 hx hb hK hw 0 rfl rfl g2 dX9_layRuns_23 (fun H locs hw => ?_)
        obtain ⟨o3, eo3, h⟩ := z_lt h
        have hw : Wd dC dI A s.heap [wX9 h_me q_me k_me o3] H locs := by rw [eo3]; exact hw
        refine lv_aload_n hx hb dX9_layRuns_24 rfl (lv_at hl 0 rfl) ?_
        refine fgX9_44 hx hb hts hown hK hw 0 rfl kw1220 dX9_layRuns_25 ?_
        refine lv_iload_n hx hb dX9_layRuns_28 rfl (lv_at hl 2 rfl) ?_
        refine lv_aload_n hx hb dX9_layRuns_29 rfl (lv_at hl 0 rfl) ?_
        refine lv_iload_n hx hb dX9_layRuns_30 rfl (lv_at hl 2 rfl) ?_
        refine lv_iload_n hx hb dX9_layRuns_31 rfl (lv_at hl 1 rfl) ?_
        obtain ⟨z4, ez4, h⟩ := z_bd h
        refine xj_i (xrV (As := [.int v2, .int v1]) (rest := [.int v2, .ref (q_me 44)]) ⟨hx, hb, hml, hown, hts⟩ (m_X9_isBarred l dC dI _ h_me q_me k_me o3 v2 v1 z4 ez4) kw1437 kw1434 kw1436 kw48 kw120 hd_X9_isBarred ⟨rfl, rfl⟩ rfl rfl ⟨rfl, rfl⟩ hX hK hw [0] (by decide) rfl rfl rfl rfl rfl hl.1 rfl rfl dX9_layRuns_32) hw hA [0] (by decide) rfl rfl (fun H locs hw => ?_)
        have hw : Wd dC dI A s.heap [wX9 h_me q_me k_me z4.2] H locs := hw
        obtain ⟨g5, h⟩ := z_gd h
        refine fbX9_44 hx hb hK hw 0 rfl rfl g5 dX9_layRuns_35 (fun H locs hw => ?_)
        obtain ⟨o6, eo6, h⟩ := z_lt h
        have hw : Wd dC dI A s.heap [wX9 h_me q_me k_me o6] H locs := by rw [eo6]; exact hw
        obtain ⟨x7, ex7, h⟩ := z_lt h
        refine lv_iinc (v := x7) (lv' := [(2, .int x7), (0, .ref h_me), (1, .int v1)]) hx hb dX9_layRuns_36 hl (k := 2) rfl ((congrArg (v2 + ·) (show Int32.ofInt 1 = (1 : Int32) from by decide)).trans ex7.symm) (by decide) rfl (fun ls hl => ?_)
        refine lv_goto (tgt := 2) hx hb dX9_layRuns_39 (by decide) ?_
        exact ih v1 x7 o6 _ _ _ h hw (lv_sub hl [1, 2, 0] rfl)
  unfold f_X9_layRuns at h
  refine lv_iconst (v := 0) hx hb dX9_layRuns_0 (by decide) ?_
  refine lv_istore_n (lv' := [(2, .int (0 : Int32)), (0, .ref h_me), (1, .int p0)]) hx hb dX9_layRuns_1 rfl hl (by decide) rfl (fun ls hl => ?_)
  exact lp_2_0  zfu p0 (0 : Int32) o_me _ _ _ h hw (lv_sub hl [1, 2, 0] rfl)

