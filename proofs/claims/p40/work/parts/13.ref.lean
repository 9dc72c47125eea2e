def f_X9_pass (o_me : Ob) : Option (Int32 × Ob) :=
  zlt (sI o_me 0 (0 : Int32)) fun o1 =>
  (f_X9_passNow o1).bind fun z2 =>
  (f_X9_tell z2.2 z2.1).bind fun z3 =>
  some (z3.1, z3.2)
set_option maxHeartbeats 4000000 in
set_option maxRecDepth 100000 in
theorem m_X9_pass (l : Launch) (dC : Nat → ClassId) (dI : Nat → Nat → Nat) (sz : Nat) (h_me : Nat) (q_me : Nat → Nat) (k_me : Nat → ClassId) (o_me : Ob) (y : Int32 × Ob) (h : f_X9_pass o_me = some y) : CI l yX9_pass cX9_pass 1 (some .int) ({ frames := 8, cells := 0, slots := 0, locals := 187 } : Room) dC dI sz [.ref h_me] [wX9 h_me q_me k_me o_me] [tX9 k_me] y.1 [wX9 h_me q_me k_me y.2] := by
  refine CC_of (by decide) (Nat.le_of_ble_eq_true rfl) ?_
  intro p e s m below meth c A ls hx hb hml hr hlk hnm hown hts hX hK hP hD hA hl
  have hl : lv_has ls 1 [(0, .ref h_me)] := hl
  have hown : s.vm.findClass RX9 = some m.cls := hown
  have hw : Wd dC dI A s.heap [wX9 h_me q_me k_me o_me] s.heap [] := ⟨hP, hD, va_S.rf⟩
  generalize hQz : (MQ below (QI dC dI (fun r (_ : Unit) => r = y.1) (fun _ => Jn [wX9 h_me q_me k_me y.2]) (fun _ => Jt [tX9 k_me]) A) ([.ref h_me] : List Value).toArray s 0 0 A) = Qz
  clear hP hD hnm
  unfold f_X9_pass at h
  refine lv_aload_n hx hb dX9_pass_0 rfl (lv_at hl 0 rfl) ?_
  refine lv_iconst (v := 0) hx hb dX9_pass_1 (by decide) ?_
  refine fpX9_0 hx hb hts hown hK hw 0 rfl kw1176 dX9_pass_2 (fun H locs hw => ?_)
  obtain ⟨o1, eo1, h⟩ := z_lt h
  have hw : Wd dC dI A s.heap [wX9 h_me q_me k_me o1] H locs := by rw [eo1]; exact hw
  refine lv_aload_n hx hb dX9_pass_5 rfl (lv_at hl 0 rfl) ?_
  refine lv_aload_n hx hb dX9_pass_6 rfl (lv_at hl 0 rfl) ?_
  obtain ⟨z2, ez2, h⟩ := z_bd h
  refine xj_i (xrV (As := []) (rest := [.ref h_me]) ⟨hx, hb, hml, hown, hts⟩ (m_X9_passNow l dC dI _ h_me q_me k_me o1 z2 ez2) kw1680 kw1677 kw1679 kw86 kw120 hd_X9_passNow ⟨rfl, rfl⟩ rfl rfl ⟨rfl, rfl⟩ hX hK hw [0] (by decide) rfl rfl rfl rfl rfl hl.1 rfl rfl dX9_pass_7) hw hA [0] (by decide) rfl rfl (fun H locs hw => ?_)
  have hw : Wd dC dI A s.heap [wX9 h_me q_me k_me z2.2] H locs := hw
  obtain ⟨z3, ez3, h⟩ := z_bd h
  refine xj_i (xrV (As := [.int z2.1]) (rest := []) ⟨hx, hb, hml, hown, hts⟩ (m_X9_tell l dC dI _ h_me q_me k_me z2.2 z2.1 z3 ez3) kw1374 kw1371 kw1373 kw39 kw120 hd_X9_tell ⟨rfl, rfl⟩ rfl rfl ⟨rfl, rfl⟩ hX hK hw [0] (by decide) rfl rfl rfl rfl rfl hl.1 rfl rfl dX9_pass_10) hw hA [0] (by decide) rfl rfl (fun H locs hw => ?_)
  have hw : Wd dC dI A s.heap [wX9 h_me q_me k_me z3.2] H locs := hw
  have hy := Option.some.inj h
  rw [← hQz, ← hy]
  exact xr_i (v := z3.1) hx hb hr rfl hlk hK hw dX9_pass_13

def bk_X9_person_30   (o_me : Ob) : Option (Int32 × Ob) :=
  (f_X9_tell o_me (-1 : Int32)).bind fun z3 =>
  some (z3.1, z3.2)
def lb_X9_person_109   (rec_109_2 : Int32 × Int32 × Ob → Option (Int32 × Ob)) (v3 : Int32) (v4 : Int32) (o_me : Ob) : Option (Int32 × Ob) :=
  if (4 : Int32) ≤ v4 then
  (zlt (tA o_me 3 (0 : Int32).toNatClampNeg ((gA o_me 3 (0 : Int32).toNatClampNeg) + (1 : Int32))) fun o15 =>
  (f_X9_settled o15 v3).bind fun z16 =>
  some (z16.1, z16.2))
  else
  (zgd (zin (((36 : Int32) + ((4 : Int32) * v3)) + v4) 5484) <|
  zlt (tA o_me 3 (((36 : Int32) + ((4 : Int32) * v3)) + v4).toNatClampNeg (0 : Int32)) fun o18 =>
  zlt (v4 + (1 : Int32)) fun x19 =>
  rec_109_2 (v3, x19, o18))
def lp_X9_person_109   : Nat → (Int32 × Int32 × Ob) → Option (Int32 × Ob) := zit (fun rec a => lb_X9_person_109   rec a.1 a.2.1 a.2.2)
def bk_X9_person_36   (v1 : Int32) (v2 : Int32) (o_me : Ob) : Option (Int32 × Ob) :=
  zlt (gA o_me 3 (0 : Int32).toNatClampNeg) fun x4 =>
  if x4 = (7 : Int32) then
  ((f_X9_tell o_me (-5 : Int32)).bind fun z20 =>
  some (z20.1, z20.2))
  else
  (zgd (zin ((8 : Int32) + x4) 5484) <|
  zlt (tA o_me 3 ((8 : Int32) + x4).toNatClampNeg v1) fun o6 =>
  zgd (zin ((15 : Int32) + x4) 5484) <|
  zlt (tA o6 3 ((15 : Int32) + x4).toNatClampNeg (0 : Int32)) fun o8 =>
  zgd (zin ((22 : Int32) + x4) 5484) <|
  zlt (tA o8 3 ((22 : Int32) + x4).toNatClampNeg (0 : Int32)) fun o10 =>
  zgd (zin ((29 : Int32) + x4) 5484) <|
  zlt (tA o10 3 ((29 : Int32) + x4).toNatClampNeg v2) fun o12 =>
  zgd (zin ((64 : Int32) + x4) 5484) <|
  zlt (tA o12 3 ((64 : Int32) + x4).toNatClampNeg (0 : Int32)) fun o14 =>
  lp_X9_person_109   zfu (x4, (0 : Int32), o14))
def f_X9_person (o_me : Ob) (p0 : Int32) (p1 : Int32) : Option (Int32 × Ob) :=
  zlt (sI o_me 0 (0 : Int32)) fun o1 =>
  (f_X9_in p0.toInt64 (0 : Int64) (9 : Int64)).bind fun z2 =>
  if z2 = (0 : Int32) then
  (bk_X9_person_30   o1)
  else
  (if p1 = (-1 : Int32) then
  (bk_X9_person_36   p0 p1 o1)
  else
  ((f_X9_isPerson o1 p1).bind fun z21 =>
  if z21 = (0 : Int32) then
  (bk_X9_person_30   o1)
  else
  (bk_X9_person_36   p0 p1 o1)))
set_option maxHeartbeats 4000000 in
set_option maxRecDepth 100000 in
theorem m_X9_person (l : Launch) (dC : Nat → ClassId) (dI : Nat → Nat → Nat) (sz : Nat) (h_me : Nat) (q_me : Nat → Nat) (k_me : Nat → ClassId) (o_me : Ob) (p0 : Int32) (p1 : Int32) (y : Int32 × Ob) (h : f_X9_person o_me p0 p1 = some y) : CI l yX9_person cX9_person 5 (some .int) ({ frames := 2, cells := 0, slots := 0, locals := 46 } : Room) dC dI sz [.ref h_me, .int p0, .int p1] [wX9 h_me q_me k_me o_me] [tX9 k_me] y.1 [wX9 h_me q_me k_me y.2] := by
  refine CC_of (by decide) (Nat.le_of_ble_eq_true rfl) ?_
  intro p e s m below meth c A ls hx hb hml hr hlk hnm hown hts hX hK hP hD hA hl
  have hl : lv_has ls 5 [(0, .ref h_me), (1, .int p0), (2, .int p1)] := hl
  have hown : s.vm.findClass RX9 = some m.cls := hown
  have hw : Wd dC dI A s.heap [wX9 h_me q_me k_me o_me] s.heap [] := ⟨hP, hD, va_S.rf⟩
  generalize hQz : (MQ below (QI dC dI (fun r (_ : Unit) => r = y.1) (fun _ => Jn [wX9 h_me q_me k_me y.2]) (fun _ => Jt [tX9 k_me]) A) ([.ref h_me, .int p0, .int p1] : List Value).toArray s 0 0 A) = Qz
  clear hP hD hnm
  have bk_30_0 : ∀ (o_me : Ob) (H : Heap) (locs : List Loc) (ls : Array Slot), bk_X9_person_30   o_me = some y → Wd dC dI A s.heap [wX9 h_me q_me k_me o_me] H locs → lv_has ls 5 [(0, .ref h_me)] → W p l e ({ frames := 2, cells := 0, slots := 0, locals := 46 } : Room) s m ([.ref h_me, .int p0, .int p1] : List Value).toArray below meth c H locs 0 0 Qz (F0 m 30 ls []) := by
    intro o_me H locs ls h hw hl
    unfold bk_X9_person_30 at h
    refine lv_aload_n hx hb dX9_person_30 rfl (lv_at hl 0 rfl) ?_
    refine lv_iconst (v := (-1)) hx hb dX9_person_31 (by decide) ?_
    obtain ⟨z3, ez3, h⟩ := z_bd h
    refine xj_i (xrV (As := [.int (-1 : Int32)]) (rest := []) ⟨hx, hb, hml, hown, hts⟩ (m_X9_tell l dC dI _ h_me q_me k_me o_me (-1 : Int32) z3 ez3) kw1374 kw1371 kw1373 kw39 kw120 hd_X9_tell ⟨rfl, rfl⟩ rfl rfl ⟨rfl, rfl⟩ hX hK hw [0] (by decide) rfl rfl rfl rfl rfl hl.1 rfl rfl dX9_person_32) hw hA [0] (by decide) rfl rfl (fun H locs hw => ?_)
    have hw : Wd dC dI A s.heap [wX9 h_me q_me k_me z3.2] H locs := hw
    have hy := Option.some.inj h
    rw [← hQz, ← hy]
    exact xr_i (v := z3.1) hx hb hr rfl hlk hK hw dX9_person_35
  have lp_109_2 : ∀ (N : Nat), ∀ (v3 : Int32) (v4 : Int32) (o_me : Ob) (H : Heap) (locs : List Loc) (ls : Array Slot), lp_X9_person_109   N (v3, v4, o_me) = some y → Wd dC dI A s.heap [wX9 h_me q_me k_me o_me] H locs → lv_has ls 5 [(0, .ref h_me), (3, .int v3), (4, .int v4)] → W p l e ({ frames := 2, cells := 0, slots := 0, locals := 46 } : Room) s m ([.ref h_me, .int p0, .int p1] : List Value).toArray below meth c H locs 0 0 Qz (F0 m 109 ls []) := by
    intro N
    induction N with
    | zero =>
      intro v3 v4 o_me H locs ls h hw hl
      exact absurd (show (none : Option (Int32 × Ob)) = some y from h) (by simp)
    | succ N ih =>
      intro v3 v4 o_me H locs ls h hw hl
      have h : lb_X9_person_109   (lp_X9_person_109   N) v3 v4 o_me = some y := h
      unfold lb_X9_person_109 at h
      refine lv_iload hx hb dX9_person_109 (lv_at hl 2 rfl) ?_
      refine lv_iconst (v := 4) hx hb dX9_person_111 (by decide) ?_
      refine lv_icmp_ge (tgt := 136) hx hb dX9_person_112 (by decide) (fun c => ?_) (fun c => ?_)
      · have h := z_t h c
        refine lv_aload_n hx hb dX9_person_136 rfl (lv_at hl 0 rfl) ?_
        refine fgX9_3 hx hb hts hown hK hw 0 rfl kw1179 dX9_person_137 ?_
        refine lv_iconst (v := 0) hx hb dX9_person_140 (by decide) ?_
        refine lv_dup2_11 hx hb dX9_person_141 rfl rfl ?_
        refine faX9_3 hx hb hK hw 0 rfl rfl (by decide) dX9_person_142 ?_
        refine lv_iconst (v := 1) hx hb dX9_person_143 (by decide) ?_
        refine lv_iadd hx hb dX9_person_144 ?_
        refine fbX9_3 hx hb hK hw 0 rfl rfl (by decide) dX9_person_145 (fun H locs hw => ?_)
        obtain ⟨o15, eo15, h⟩ := z_lt h
        have hw : Wd dC dI A s.heap [wX9 h_me q_me k_me o15] H locs := by rw [eo15]; exact hw
        refine lv_aload_n hx hb dX9_person_146 rfl (lv_at hl 0 rfl) ?_
        refine lv_iload_n hx hb dX9_person_147 rfl (lv_at hl 1 rfl) ?_
        obtain ⟨z16, ez16, h⟩ := z_bd h
        refine xj_i (xrV (As := [.int v3]) (rest := []) ⟨hx, hb, hml, hown, hts⟩ (m_X9_settled l dC dI _ h_me q_me k_me o15 v3 z16 ez16) kw1393 kw1390 kw1392 kw41 kw120 hd_X9_settled ⟨rfl, rfl⟩ rfl rfl ⟨rfl, rfl⟩ hX hK hw [0] (by decide) rfl rfl rfl rfl rfl hl.1 rfl rfl dX9_person_148) hw hA [0] (by decide) rfl rfl (fun H locs hw => ?_)
        have hw : Wd dC dI A s.heap [wX9 h_me q_me k_me z16.2] H locs := hw
        have hy := Option.some.inj h
        rw [← hQz, ← hy]
        exact xr_i (v := z16.1) hx hb hr rfl hlk hK hw dX9_person_151
      · have h := z_f h c
        refine lv_aload_n hx hb dX9_person_115 rfl (lv_at hl 0 rfl) ?_
        refine fgX9_3 hx hb hts hown hK hw 0 rfl kw1179 dX9_person_116 ?_
        refine lv_bipush (v := 36) hx hb dX9_person_119 (by decide) ?_
        refine lv_iconst (v := 4) hx hb dX9_person_121 (by decide) ?_
        refine lv_iload_n hx hb dX9_person_122 rfl (lv_at hl 1 rfl) ?_
        refine lv_imul hx hb dX9_person_123 ?_
        refine lv_iadd hx hb dX9_person_124 ?_
        refine lv_iload hx hb dX9_person_125 (lv_at hl 2 rfl) ?_
        refine lv_iadd hx hb dX9_person_127 ?_
        refine lv_iconst (v := 0) hx hb dX9_person_128 (by decide) ?_
        obtain ⟨g17, h⟩ := z_gd h
        refine fbX9_3 hx hb hK hw 0 rfl rfl g17 dX9_person_129 (fun H locs hw => ?_)
        obtain ⟨o18, eo18, h⟩ := z_lt h
        have hw : Wd dC dI A s.heap [wX9 h_me q_me k_me o18] H locs := by rw [eo18]; exact hw
        obtain ⟨x19, ex19, h⟩ := z_lt h
        refine lv_iinc (v := x19) (lv' := [(4, .int x19), (0, .ref h_me), (3, .int v3)]) hx hb dX9_person_130 hl (k := 2) rfl ((congrArg (v4 + ·) (show Int32.ofInt 1 = (1 : Int32) from by decide)).trans ex19.symm) (by decide) rfl (fun ls hl => ?_)
        refine lv_goto (tgt := 109) hx hb dX9_person_133 (by decide) ?_
        exact ih v3 x19 o18 _ _ _ h hw (lv_sub hl [1, 2, 0] rfl)
  have bk_36_1 : ∀ (v1 : Int32) (v2 : Int32) (o_me : Ob) (H : Heap) (locs : List Loc) (ls : Array Slot), bk_X9_person_36   v1 v2 o_me = some y → Wd dC dI A s.heap [wX9 h_me q_me k_me o_me] H locs → lv_has ls 5 [(0, .ref h_me), (1, .int v1), (2, .int v2)] → W p l e ({ frames := 2, cells := 0, slots := 0, locals := 46 } : Room) s m ([.ref h_me, .int p0, .int p1] : List Value).toArray below meth c H locs 0 0 Qz (F0 m 36 ls []) := by
    intro v1 v2 o_me H locs ls h hw hl
    unfold bk_X9_person_36 at h
    refine lv_aload_n hx hb dX9_person_36 rfl (lv_at hl 0 rfl) ?_
    refine fgX9_3 hx hb hts hown hK hw 0 rfl kw1179 dX9_person_37 ?_
    refine lv_iconst (v := 0) hx hb dX9_person_40 (by decide) ?_
    refine faX9_3 hx hb hK hw 0 rfl rfl (by decide) dX9_person_41 ?_
    obtain ⟨x4, ex4, h⟩ := z_lt h
    refine lv_fi (v := x4) ex4.symm ?_
    refine lv_istore_n (lv' := [(3, .int x4), (0, .ref h_me), (1, .int v1), (2, .int v2)]) hx hb dX9_person_42 rfl hl (by decide) rfl (fun ls hl => ?_)
    refine lv_iload_n hx hb dX9_person_43 rfl (lv_at hl 0 rfl) ?_
    refine lv_bipush (v := 7) hx hb dX9_person_44 (by decide) ?_
    refine lv_icmp_ne (tgt := 56) hx hb dX9_person_46 (by decide) (fun c => ?_) (fun c => ?_)
    · have h := z_f h c
      refine lv_aload_n hx hb dX9_person_56 rfl (lv_at hl 1 rfl) ?_
      refine fgX9_3 hx hb hts hown hK hw 0 rfl kw1179 dX9_person_57 ?_
      refine lv_bipush (v := 8) hx hb dX9_person_60 (by decide) ?_
      refine lv_iload_n hx hb dX9_person_62 rfl (lv_at hl 0 rfl) ?_
      refine lv_iadd hx hb dX9_person_63 ?_
      refine lv_iload_n hx hb dX9_person_64 rfl (lv_at hl 2 rfl) ?_
      obtain ⟨g5, h⟩ := z_gd h
      refine fbX9_3 hx hb hK hw 0 rfl rfl g5 dX9_person_65 (fun H locs hw => ?_)
      obtain ⟨o6, eo6, h⟩ := z_lt h
      have hw : Wd dC dI A s.heap [wX9 h_me q_me k_me o6] H locs := by rw [eo6]; exact hw
      refine lv_aload_n hx hb dX9_person_66 rfl (lv_at hl 1 rfl) ?_
      refine fgX9_3 hx hb hts hown hK hw 0 rfl kw1179 dX9_person_67 ?_
      refine lv_bipush (v := 15) hx hb dX9_person_70 (by decide) ?_
      refine lv_iload_n hx hb dX9_person_72 rfl (lv_at hl 0 rfl) ?_
      refine lv_iadd hx hb dX9_person_73 ?_
      refine lv_iconst (v := 0) hx hb dX9_person_74 (by decide) ?_
      obtain ⟨g7, h⟩ := z_gd h
      refine fbX9_3 hx hb hK hw 0 rfl rfl g7 dX9_person_75 (fun H locs hw => ?_)
      obtain ⟨o8, eo8, h⟩ := z_lt h
      have hw : Wd dC dI A s.heap [wX9 h_me q_me k_me o8] H locs := by rw [eo8]; exact hw
      refine lv_aload_n hx hb dX9_person_76 rfl (lv_at hl 1 rfl) ?_
      refine fgX9_3 hx hb hts hown hK hw 0 rfl kw1179 dX9_person_77 ?_
      refine lv_bipush (v := 22) hx hb dX9_person_80 (by decide) ?_
      refine lv_iload_n hx hb dX9_person_82 rfl (lv_at hl 0 rfl) ?_
      refine lv_iadd hx hb dX9_person_83 ?_
      refine lv_iconst (v := 0) hx hb dX9_person_84 (by decide) ?_
      obtain ⟨g9, h⟩ := z_gd h
      refine fbX9_3 hx hb hK hw 0 rfl rfl g9 dX9_person_85 (fun H locs hw => ?_)
      obtain ⟨o10, eo10, h⟩ := z_lt h
      have hw : Wd dC dI A s.heap [wX9 h_me q_me k_me o10] H locs := by rw [eo10]; exact hw
      refine lv_aload_n hx hb dX9_person_86 rfl (lv_at hl 1 rfl) ?_
      refine fgX9_3 hx hb hts hown hK hw 0 rfl kw1179 dX9_person_87 ?_
      refine lv_bipush (v := 29) hx hb dX9_person_90 (by decide) ?_
      refine lv_iload_n hx hb dX9_person_92 rfl (lv_at hl 0 rfl) ?_
      refine lv_iadd hx hb dX9_person_93 ?_
      refine lv_iload_n hx hb dX9_person_94 rfl (lv_at hl 3 rfl) ?_
      obtain ⟨g11, h⟩ := z_gd h
      refine fbX9_3 hx hb hK hw 0 rfl rfl g11 dX9_person_95 (fun H locs hw => ?_)
      obtain ⟨o12, eo12, h⟩ := z_lt h
      have hw : Wd dC dI A s.heap [wX9 h_me q_me k_me o12] H locs := by rw [eo12]; exact hw
      refine lv_aload_n hx hb dX9_person_96 rfl (lv_at hl 1 rfl) ?_
      refine fgX9_3 hx hb hts hown hK hw 0 rfl kw1179 dX9_person_97 ?_
      refine lv_bipush (v := 64) hx hb dX9_person_100 (by decide) ?_
      refine lv_iload_n hx hb dX9_person_102 rfl (lv_at hl 0 rfl) ?_
      refine lv_iadd hx hb dX9_person_103 ?_
      refine lv_iconst (v := 0) hx hb dX9_person_104 (by decide) ?_
      obtain ⟨g13, h⟩ := z_gd h
      refine fbX9_3 hx hb hK hw 0 rfl rfl g13 dX9_person_105 (fun H locs hw => ?_)
      obtain ⟨o14, eo14, h⟩ := z_lt h
      have hw : Wd dC dI A s.heap [wX9 h_me q_me k_me o14] H locs := by rw [eo14]; exact hw
      refine lv_iconst (v := 0) hx hb dX9_person_106 (by decide) ?_
      refine lv_istore (lv' := [(4, .int (0 : Int32)), (3, .int x4), (0, .ref h_me), (1, .int v1), (2, .int v2)]) hx hb dX9_person_107 hl (by decide) rfl (fun ls hl => ?_)
      exact lp_109_2  zfu x4 (0 : Int32) o14 _ _ _ h hw (lv_sub hl [2, 1, 0] rfl)
    · have h := z_t h c
      refine lv_aload_n hx hb dX9_person_49 rfl (lv_at hl 1 rfl) ?_
      refine lv_bipush (v := (-5)) hx hb dX9_person_50 (by decide) ?_
      obtain ⟨z20, ez20, h⟩ := z_bd h
      refine xj_i (xrV (As := [.int (-5 : Int32)]) (rest := []) ⟨hx, hb, hml, hown, hts⟩ (m_X9_tell l dC dI _ h_me q_me k_me o_me (-5 : Int32) z20 ez20) kw1374 kw1371 kw1373 kw39 kw120 hd_X9_tell ⟨rfl, rfl⟩ rfl rfl ⟨rfl, rfl⟩ hX hK hw [0] (by decide) rfl rfl rfl rfl rfl hl.1 rfl rfl dX9_person_52) hw hA [0] (by decide) rfl rfl (fun H locs hw => ?_)
      have hw : Wd dC dI A s.heap [wX9 h_me q_me k_me z20.2] H locs := hw
      have hy := Option.some.inj h
      rw [← hQz, ← hy]
      exact xr_i (v := z20.1) hx hb hr rfl hlk hK hw dX9_person_55
  unfold f_X9_person at h
  refine lv_aload_n hx hb dX9_person_0 rfl (lv_at hl 0 rfl) ?_
  refine lv_iconst (v := 0) hx hb dX9_person_1 (by decide) ?_
  refine fpX9_0 hx hb hts hown hK hw 0 rfl kw1176 dX9_person_2 (fun H locs hw => ?_)
  obtain ⟨o1, eo1, h⟩ := z_lt h
  have hw : Wd dC dI A s.heap [wX9 h_me q_me k_me o1] H locs := by rw [eo1]; exact hw
  refine lv_iload_n hx hb dX9_person_5 rfl (lv_at hl 1 rfl) ?_
  refine lv_i2l hx hb dX9_person_6 rfl ?_
  refine lv_lconst (v := 0) hx hb dX9_person_7 (by decide) ?_
  refine lv_ldc2 (v := 9) hx hb hown (hts _ kw1398) dX9_person_8 ?_
  obtain ⟨z2, ez2, h⟩ := z_bd h
  refine xj_i (xrS (As := [.long p0.toInt64, .long (0 : Int64), .long (9 : Int64)]) (rest := []) ⟨hx, hb, hml, hown, hts⟩ (m_X9_in l dC dI _  p0.toInt64 (0 : Int64) (9 : Int64) z2 ez2) kw1385 kw1383 kw1384 kw120 hd_X9_in ⟨rfl, rfl⟩ rfl rfl ⟨rfl, rfl⟩ hX hK hw [] (by decide) rfl rfl hl.1 rfl rfl dX9_person_11) hw hA [] (by decide) rfl rfl (fun H locs hw => ?_)
  refine lv_if_eq (tgt := 30) hx hb dX9_person_14 (by decide) (fun c => ?_) (fun c => ?_)
  · have h := z_t h c
    exact bk_30_0  o1 _ _ _ h hw (lv_sub hl [0] rfl)
  · have h := z_f h c
    refine lv_iload_n hx hb dX9_person_17 rfl (lv_at hl 2 rfl) ?_
    refine lv_iconst (v := (-1)) hx hb dX9_person_18 (by decide) ?_
    refine lv_icmp_eq (tgt := 36) hx hb dX9_person_19 (by decide) (fun c => ?_) (fun c => ?_)
    · have h := z_t h c
      exact bk_36_1  p0 p1 o1 _ _ _ h hw (lv_sub hl [0, 1, 2] rfl)
    · have h := z_f h c
      refine lv_aload_n hx hb dX9_person_22 rfl (lv_at hl 0 rfl) ?_
      refine lv_iload_n hx hb dX9_person_23 rfl (lv_at hl 2 rfl) ?_
      obtain ⟨z21, ez21, h⟩ := z_bd h
      refine xj_i (xrV (As := [.int p1]) (rest := []) ⟨hx, hb, hml, hown, hts⟩ (m_X9_isPerson l dC dI _ h_me q_me k_me o1 p1 z21 ez21) kw1402 kw1399 kw1401 kw42 kw120 hd_X9_isPerson ⟨rfl, rfl⟩ rfl rfl ⟨rfl, rfl⟩ hX hK hw [0] (by decide) rfl rfl rfl rfl rfl hl.1 rfl rfl dX9_person_24) hw hA [0] (by decide) rfl rfl (fun H locs hw => ?_)
      have hw : Wd dC dI A s.heap [wX9 h_me q_me k_me o1] H locs := hw
      refine lv_if_ne (tgt := 36) hx hb dX9_person_27 (by decide) (fun c => ?_) (fun c => ?_)
      · have h := z_f h c
        exact bk_36_1  p0 p1 o1 _ _ _ h hw (lv_sub hl [0, 1, 2] rfl)
      · have h := z_t h c
        exact bk_30_0  o1 _ _ _ h hw (lv_sub hl [0] rfl)

def f_X9_placed (o_me : Ob) (p0 : Int32) (p1 : Int32) : Option (Int32 × Ob) :=
  zlt (sI o_me 0 (0 : Int32)) fun o1 =>
  (f_X9_isRace p0).bind fun z2 =>
  if z2 = (0 : Int32) then
  (some ((-1 : Int32), o1))
  else
  ((f_X9_in p1.toInt64 (0 : Int64) (7 : Int64)).bind fun z3 =>
  if z3 = (0 : Int32) then
  (some ((-1 : Int32), o1))
  else
  ((f_X9_layPlaces o1 p0).bind fun z4 =>
  if p1 = (0 : Int32) then
  (some (gI z4 43, z4))
  else
  (if (gI z4 43) < p1 then
  (some ((-1 : Int32), z4))
  else
  (zgd (zin (p1 - (1 : Int32)) 7) <|
  some (gA z4 42 (p1 - (1 : Int32)).toNatClampNeg, z4)))))
set_option maxHeartbeats 4000000 in
set_option maxRecDepth 100000 in
theorem m_X9_placed (l : Launch) (dC : Nat → ClassId) (dI : Nat → Nat → Nat) (sz : Nat) (h_me : Nat) (q_me : Nat → Nat) (k_me : Nat → ClassId) (o_me : Ob) (p0 : Int32) (p1 : Int32) (y : Int32 × Ob) (h : f_X9_placed o_me p0 p1 = some y) : CI l yX9_placed cX9_placed 3 (some .int) ({ frames := 7, cells := 0, slots := 0, locals := 168 } : Room) dC dI sz [.ref h_me, .int p0, .int p1] [wX9 h_me q_me k_me o_me] [tX9 k_me] y.1 [wX9 h_me q_me k_me y.2] := by
  refine CC_of (by decide) (Nat.le_of_ble_eq_true rfl) ?_
  intro p e s m below meth c A ls hx hb hml hr hlk hnm hown hts hX hK hP hD hA hl
  have hl : lv_has ls 3 [(0, .ref h_me), (1, .int p0), (2, .int p1)] := hl
  have hown : s.vm.findClass RX9 = some m.cls := hown
  have hw : Wd dC dI A s.heap [wX9 h_me q_me k_me o_me] s.heap [] := ⟨hP, hD, va_S.rf⟩
  generalize hQz : (MQ below (QI dC dI (fun r (_ : Unit) => r = y.1) (fun _ => Jn [wX9 h_me q_me k_me y.2]) (fun _ => Jt [tX9 k_me]) A) ([.ref h_me, .int p0, .int p1] : List Value).toArray s 0 0 A) = Qz
  clear hP hD hnm
  unfold f_X9_placed at h
  refine lv_aload_n hx hb dX9_placed_0 rfl (lv_at hl 0 rfl) ?_
  refine lv_iconst (v := 0) hx hb dX9_placed_1 (by decide) ?_
  refine fpX9_0 hx hb hts hown hK hw 0 rfl kw1176 dX9_placed_2 (fun H locs hw => ?_)
  obtain ⟨o1, eo1, h⟩ := z_lt h
  have hw : Wd dC dI A s.heap [wX9 h_me q_me k_me o1] H locs := by rw [eo1]; exact hw
  refine lv_iload_n hx hb dX9_placed_5 rfl (lv_at hl 1 rfl) ?_
  obtain ⟨z2, ez2, h⟩ := z_bd h
  refine xj_i (xrS (As := [.int p0]) (rest := []) ⟨hx, hb, hml, hown, hts⟩ (m_X9_isRace l dC dI _  p0 z2 ez2) kw1444 kw1442 kw1443 kw120 hd_X9_isRace ⟨rfl, rfl⟩ rfl rfl ⟨rfl, rfl⟩ hX hK hw [] (by decide) rfl rfl hl.1 rfl rfl dX9_placed_6) hw hA [] (by decide) rfl rfl (fun H locs hw => ?_)
  refine lv_if_eq (tgt := 24) hx hb dX9_placed_9 (by decide) (fun c => ?_) (fun c => ?_)
  · have h := z_t h c
    refine lv_iconst (v := (-1)) hx hb dX9_placed_24 (by decide) ?_
    have hy := Option.some.inj h
    rw [← hQz, ← hy]
    exact xr_i (v := (-1 : Int32)) hx hb hr rfl hlk hK hw dX9_placed_25
  · have h := z_f h c
    refine lv_iload_n hx hb dX9_placed_12 rfl (lv_at hl 2 rfl) ?_
    refine lv_i2l hx hb dX9_placed_13 rfl ?_
    refine lv_lconst (v := 0) hx hb dX9_placed_14 (by decide) ?_
    refine lv_ldc2 (v := 7) hx hb hown (hts _ kw1458) dX9_placed_15 ?_
    obtain ⟨z3, ez3, h⟩ := z_bd h
    refine xj_i (xrS (As := [.long p1.toInt64, .long (0 : Int64), .long (7 : Int64)]) (rest := []) ⟨hx, hb, hml, hown, hts⟩ (m_X9_in l dC dI _  p1.toInt64 (0 : Int64) (7 : Int64) z3 ez3) kw1385 kw1383 kw1384 kw120 hd_X9_in ⟨rfl, rfl⟩ rfl rfl ⟨rfl, rfl⟩ hX hK hw [] (by decide) rfl rfl hl.1 rfl rfl dX9_placed_18) hw hA [] (by decide) rfl rfl (fun H locs hw => ?_)
    refine lv_if_ne (tgt := 26) hx hb dX9_placed_21 (by decide) (fun c => ?_) (fun c => ?_)
    · have h := z_f h c
      refine lv_aload_n hx hb dX9_placed_26 rfl (lv_at hl 0 rfl) ?_
      refine lv_iload_n hx hb dX9_placed_27 rfl (lv_at hl 1 rfl) ?_
      obtain ⟨z4, ez4, h⟩ := z_bd h
      refine xj_v (xrV (As := [.int p0]) (rest := []) ⟨hx, hb, hml, hown, hts⟩ (m_X9_layPlaces l dC dI _ h_me q_me k_me o1 p0 z4 ez4) kw1462 kw1459 kw1461 kw50 kw120 hd_X9_layPlaces ⟨rfl, rfl⟩ rfl rfl ⟨rfl, rfl⟩ hX hK hw [0] (by decide) rfl rfl rfl rfl rfl hl.1 rfl rfl dX9_placed_28) hw hA [0] (by decide) rfl rfl (fun H locs hw => ?_)
      have hw : Wd dC dI A s.heap [wX9 h_me q_me k_me z4] H locs := hw
      refine lv_iload_n hx hb dX9_placed_31 rfl (lv_at hl 2 rfl) ?_
      refine lv_if_ne (tgt := 42) hx hb dX9_placed_32 (by decide) (fun c => ?_) (fun c => ?_)
      · have h := z_f h c
        refine lv_iload_n hx hb dX9_placed_42 rfl (lv_at hl 2 rfl) ?_
        refine lv_aload_n hx hb dX9_placed_43 rfl (lv_at hl 0 rfl) ?_
        refine fgX9_43 hx hb hts hown hK hw 0 rfl kw1219 dX9_placed_44 ?_
        refine lv_icmp_gt (tgt := 61) hx hb dX9_placed_47 (by decide) (fun c => ?_) (fun c => ?_)
        · have h := z_t h c
          refine lv_iconst (v := (-1)) hx hb dX9_placed_61 (by decide) ?_
          have hy := Option.some.inj h
          rw [← hQz, ← hy]
          exact xr_i (v := (-1 : Int32)) hx hb hr rfl hlk hK hw dX9_placed_62
        · have h := z_f h c
          refine lv_aload_n hx hb dX9_placed_50 rfl (lv_at hl 0 rfl) ?_
          refine fgX9_42 hx hb hts hown hK hw 0 rfl kw1218 dX9_placed_51 ?_
          refine lv_iload_n hx hb dX9_placed_54 rfl (lv_at hl 2 rfl) ?_
          refine lv_iconst (v := 1) hx hb dX9_placed_55 (by decide) ?_
          refine lv_isub hx hb dX9_placed_56 ?_
          obtain ⟨g5, h⟩ := z_gd h
          refine faX9_42 hx hb hK hw 0 rfl rfl g5 dX9_placed_57 ?_
          refine lv_goto (tgt := 62) hx hb dX9_placed_58 (by decide) ?_
          have hy := Option.some.inj h
          rw [← hQz, ← hy]
          exact xr_i (v := gA z4 42 (p1 - (1 : Int32)).toNatClampNeg) hx hb hr rfl hlk hK hw dX9_placed_62
      · have h := z_t h c
        refine lv_aload_n hx hb dX9_placed_35 rfl (lv_at hl 0 rfl) ?_
        refine fgX9_43 hx hb hts hown hK hw 0 rfl kw1219 dX9_placed_36 ?_
        refine lv_goto (tgt := 62) hx hb dX9_placed_39 (by decide) ?_
        have hy := Option.some.inj h
        rw [← hQz, ← hy]
        exact xr_i (v := gI z4 43) hx hb hr rfl hlk hK hw dX9_placed_62
    · have h := z_t h c
      refine lv_iconst (v := (-1)) hx hb dX9_placed_24 (by decide) ?_
      have hy := Option.some.inj h
      rw [← hQz, ← hy]
      exact xr_i (v := (-1 : Int32)) hx hb hr rfl hlk hK hw dX9_placed_25

def f_X9_race (o_me : Ob) (p0 : Int32) : Option (Int32 × Ob) :=
  zlt (sI o_me 0 (0 : Int32)) fun o1 =>
  (f_X9_raceNow o1 p0).bind fun z2 =>
  (f_X9_tell z2.2 z2.1).bind fun z3 =>
  some (z3.1, z3.2)
set_option maxHeartbeats 4000000 in
set_option maxRecDepth 100000 in
theorem m_X9_race (l : Launch) (dC : Nat → ClassId) (dI : Nat → Nat → Nat) (sz : Nat) (h_me : Nat) (q_me : Nat → Nat) (k_me : Nat → ClassId) (o_me : Ob) (p0 : Int32) (y : Int32 × Ob) (h : f_X9_race o_me p0 = some y) : CI l yX9_race cX9_race 2 (some .int) ({ frames := 8, cells := 0, slots := 0, locals := 194 } : Room) dC dI sz [.ref h_me, .int p0] [wX9 h_me q_me k_me o_me] [tX9 k_me] y.1 [wX9 h_me q_me k_me y.2] := by
  refine CC_of (by decide) (Nat.le_of_ble_eq_true rfl) ?_
  intro p e s m below meth c A ls hx hb hml hr hlk hnm hown hts hX hK hP hD hA hl
  have hl : lv_has ls 2 [(0, .ref h_me), (1, .int p0)] := hl
  have hown : s.vm.findClass RX9 = some m.cls := hown
  have hw : Wd dC dI A s.heap [wX9 h_me q_me k_me o_me] s.heap [] := ⟨hP, hD, va_S.rf⟩
  generalize hQz : (MQ below (QI dC dI (fun r (_ : Unit) => r = y.1) (fun _ => Jn [wX9 h_me q_me k_me y.2]) (fun _ => Jt [tX9 k_me]) A) ([.ref h_me, .int p0] : List Value).toArray s 0 0 A) = Qz
  clear hP hD hnm
  unfold f_X9_race at h
  refine lv_aload_n hx hb dX9_race_0 rfl (lv_at hl 0 rfl) ?_
  refine lv_iconst (v := 0) hx hb dX9_race_1 (by decide) ?_
  refine fpX9_0 hx hb hts hown hK hw 0 rfl kw1176 dX9_race_2 (fun H locs hw => ?_)
  obtain ⟨o1, eo1, h⟩ := z_lt h
  have hw : Wd dC dI A s.heap [wX9 h_me q_me k_me o1] H locs := by rw [eo1]; exact hw
  refine lv_aload_n hx hb dX9_race_5 rfl (lv_at hl 0 rfl) ?_
  refine lv_aload_n hx hb dX9_race_6 rfl (lv_at hl 0 rfl) ?_
  refine lv_iload_n hx hb dX9_race_7 rfl (lv_at hl 1 rfl) ?_
  obtain ⟨z2, ez2, h⟩ := z_bd h
  refine xj_i (xrV (As := [.int p0]) (rest := [.ref h_me]) ⟨hx, hb, hml, hown, hts⟩ (m_X9_raceNow l dC dI _ h_me q_me k_me o1 p0 z2 ez2) kw1631 kw1628 kw1630 kw77 kw120 hd_X9_raceNow ⟨rfl, rfl⟩ rfl rfl ⟨rfl, rfl⟩ hX hK hw [0] (by decide) rfl rfl rfl rfl rfl hl.1 rfl rfl dX9_race_8) hw hA [0] (by decide) rfl rfl (fun H locs hw => ?_)
  have hw : Wd dC dI A s.heap [wX9 h_me q_me k_me z2.2] H locs := hw
  obtain ⟨z3, ez3, h⟩ := z_bd h
  refine xj_i (xrV (As := [.int z2.1]) (rest := []) ⟨hx, hb, hml, hown, hts⟩ (m_X9_tell l dC dI _ h_me q_me k_me z2.2 z2.1 z3 ez3) kw1374 kw1371 kw1373 kw39 kw120 hd_X9_tell ⟨rfl, rfl⟩ rfl rfl ⟨rfl, rfl⟩ hX hK hw [0] (by decide) rfl rfl rfl rfl rfl hl.1 rfl rfl dX9_race_11) hw hA [0] (by decide) rfl rfl (fun H locs hw => ?_)
  have hw : Wd dC dI A s.heap [wX9 h_me q_me k_me z3.2] H locs := hw
  have hy := Option.some.inj h
  rw [← hQz, ← hy]
  exact xr_i (v := z3.1) hx hb hr rfl hlk hK hw dX9_race_14

def lb_X9_ranking_47  (rec_39_0 : Int32 × Int32 × Int32 × Int32 × Ob → Option (Int32 × Ob)) (rec_47_1 : Int32 × Int32 × Int32 × Int32 × Ob → Option (Int32 × Ob)) (v1 : Int32) (v2 : Int32) (v3 : Int32) (v4 : Int32) (o_me : Ob) : Option (Int32 × Ob) :=
  (f_X9_leftBy o_me v2 v3).bind fun z5 =>
  zgd (zin v2 128) <|
  if z5 = (gA o_me 46 v2.toNatClampNeg) then
  (zlt (v2 ||| ((1 : Int32) <<< (v3 &&& 31))) fun x7 =>
  zlt (v4 + (1 : Int32)) fun x8 =>
  rec_39_0 (v1, x7, v3, x8, o_me))
  else
  (zlt (v3 + (1 : Int32)) fun x9 =>
  rec_47_1 (v1, v2, x9, v4, o_me))
def lp_X9_ranking_47  (rec_39_0 : Int32 × Int32 × Int32 × Int32 × Ob → Option (Int32 × Ob)) : Nat → (Int32 × Int32 × Int32 × Int32 × Ob) → Option (Int32 × Ob) := zit (fun rec a => lb_X9_ranking_47  rec_39_0 rec a.1 a.2.1 a.2.2.1 a.2.2.2.1 a.2.2.2.2)
def lb_X9_ranking_39   (rec_39_0 : Int32 × Int32 × Int32 × Int32 × Ob → Option (Int32 × Ob)) (v1 : Int32) (v2 : Int32) (v3 : Int32) (v4 : Int32) (o_me : Ob) : Option (Int32 × Ob) :=
  if v1 ≤ v4 then
  (some (v3, o_me))
  else
  (lp_X9_ranking_47  rec_39_0 zfu (v1, v2, (0 : Int32), v4, o_me))
def lp_X9_ranking_39   : Nat → (Int32 × Int32 × Int32 × Int32 × Ob) → Option (Int32 × Ob) := zit (fun rec a => lb_X9_ranking_39   rec a.1 a.2.1 a.2.2.1 a.2.2.2.1 a.2.2.2.2)
def f_X9_ranking (o_me : Ob) (p0 : Int32) : Option (Int32 × Ob) :=
  zlt (sI o_me 0 (0 : Int32)) fun o1 =>
  (f_X9_in p0.toInt64 (0 : Int64) ((gA o1 3 (0 : Int32).toNatClampNeg).toInt64)).bind fun z2 =>
  if z2 = (0 : Int32) then
  (some ((-1 : Int32), o1))
  else
  ((f_X9_layLeft o1).bind fun z3 =>
  zlt (gA z3 46 (0 : Int32).toNatClampNeg) fun x4 =>
  lp_X9_ranking_39   zfu (p0, (0 : Int32), x4, (0 : Int32), z3))
set_option maxHeartbeats 4000000 in
set_option maxRecDepth 100000 in
theorem m_X9_ranking (l : Launch) (dC : Nat → ClassId) (dI : Nat → Nat → Nat) (sz : Nat) (h_me : Nat) (q_me : Nat → Nat) (k_me : Nat → ClassId) (o_me : Ob) (p0 : Int32) (y : Int32 × Ob) (h : f_X9_ranking o_me p0 = some y) : CI l yX9_ranking cX9_ranking 5 (some .int) ({ frames := 3, cells := 0, slots := 0, locals := 68 } : Room) dC dI sz [.ref h_me, .int p0] [wX9 h_me q_me k_me o_me] [tX9 k_me] y.1 [wX9 h_me q_me k_me y.2] := by
  refine CC_of (by decide) (Nat.le_of_ble_eq_true rfl) ?_
  intro p e s m below meth c A ls hx hb hml hr hlk hnm hown hts hX hK hP hD hA hl
  have hl : lv_has ls 5 [(0, .ref h_me), (1, .int p0)] := hl
  have hown : s.vm.findClass RX9 = some m.cls := hown
  have hw : Wd dC dI A s.heap [wX9 h_me q_me k_me o_me] s.heap [] := ⟨hP, hD, va_S.rf⟩
  generalize hQz : (MQ below (QI dC dI (fun r (_ : Unit) => r = y.1) (fun _ => Jn [wX9 h_me q_me k_me y.2]) (fun _ => Jt [tX9 k_me]) A) ([.ref h_me, .int p0] : List Value).toArray s 0 0 A) = Qz
  clear hP hD hnm
  have lp_47_1 : ∀ (rec_39_0 : Int32 × Int32 × Int32 × Int32 × Ob → Option (Int32 × Ob)) (hrec_39_0 : ∀ (v1 : Int32) (v2 : Int32) (v3 : Int32) (v4 : Int32) (o_me : Ob) (H : Heap) (locs : List Loc) (ls : Array Slot), rec_39_0 (v1, v2, v3, v4, o_me) = some y → Wd dC dI A s.heap [wX9 h_me q_me k_me o_me] H locs → lv_has ls 5 [(0, .ref h_me), (1, .int v1), (2, .int v2), (3, .int v3), (4, .int v4)] → W p l e ({ frames := 3, cells := 0, slots := 0, locals := 68 } : Room) s m ([.ref h_me, .int p0] : List Value).toArray below meth c H locs 0 0 Qz (F0 m 39 ls [])) (N : Nat), ∀ (v1 : Int32) (v2 : Int32) (v3 : Int32) (v4 : Int32) (o_me : Ob) (H : Heap) (locs : List Loc) (ls : Array Slot), lp_X9_ranking_47  rec_39_0 N (v1, v2, v3, v4, o_me) = some y → Wd dC dI A s.heap [wX9 h_me q_me k_me o_me] H locs → lv_has ls 5 [(0, .ref h_me), (1, .int v1), (2, .int v2), (3, .int v3), (4, .int v4)] → W p l e ({ frames := 3, cells := 0, slots := 0, locals := 68 } : Room) s m ([.ref h_me, .int p0] : List Value).toArray below meth c H locs 0 0 Qz (F0 m 47 ls []) := by
    intro rec_39_0 hrec_39_0
    intro N
    induction N with
    | zero =>
      intro v1 v2 v3 v4 o_me H locs ls h hw hl
      exact absurd (show (none : Option (Int32 × Ob)) = some y from h) (by simp)
    | succ N ih =>
      intro v1 v2 v3 v4 o_me H locs ls h hw hl
      have h : lb_X9_ranking_47  rec_39_0 (lp_X9_ranking_47  rec_39_0 N) v1 v2 v3 v4 o_me = some y := h
      unfold lb_X9_ranking_47 at h
      refine lv_aload_n hx hb dX9_ranking_47 rfl (lv_at hl 0 rfl) ?_
      refine lv_iload_n hx hb dX9_ranking_48 rfl (lv_at hl 2 rfl) ?_
      refine lv_iload_n hx hb dX9_ranking_49 rfl (lv_at hl 3 rfl) ?_
      obtain ⟨z5, ez5, h⟩ := z_bd h
      refine xj_i (xrV (As := [.int v2, .int v3]) (rest := []) ⟨hx, hb, hml, hown, hts⟩ (m_X9_leftBy l dC dI _ h_me q_me k_me o_me v2 v3 z5 ez5) kw1743 kw1740 kw1742 kw94 kw120 hd_X9_leftBy ⟨rfl, rfl⟩ rfl rfl ⟨rfl, rfl⟩ hX hK hw [0] (by decide) rfl rfl rfl rfl rfl hl.1 rfl rfl dX9_ranking_50) hw hA [0] (by decide) rfl rfl (fun H locs hw => ?_)
      have hw : Wd dC dI A s.heap [wX9 h_me q_me k_me o_me] H locs := hw
      refine lv_aload_n hx hb dX9_ranking_53 rfl (lv_at hl 0 rfl) ?_
      refine fgX9_46 hx hb hts hown hK hw 0 rfl kw1222 dX9_ranking_54 ?_
      refine lv_iload_n hx hb dX9_ranking_57 rfl (lv_at hl 2 rfl) ?_
      obtain ⟨g6, h⟩ := z_gd h
      refine faX9_46 hx hb hK hw 0 rfl rfl g6 dX9_ranking_58 ?_
      refine lv_icmp_eq (tgt := 68) hx hb dX9_ranking_59 (by decide) (fun c => ?_) (fun c => ?_)
      · have h := z_t h c
        refine lv_iload_n hx hb dX9_ranking_68 rfl (lv_at hl 2 rfl) ?_
        refine lv_iconst (v := 1) hx hb dX9_ranking_69 (by decide) ?_
        refine lv_iload_n hx hb dX9_ranking_70 rfl (lv_at hl 3 rfl) ?_
        refine lv_ishl hx hb dX9_ranking_71 ?_
        refine lv_ior hx hb dX9_ranking_72 ?_
        obtain ⟨x7, ex7, h⟩ := z_lt h
        refine lv_fi (v := x7) ex7.symm ?_
        refine lv_istore_n (lv' := [(2, .int x7), (0, .ref h_me), (1, .int v1), (3, .int v3), (4, .int v4)]) hx hb dX9_ranking_73 rfl hl (by decide) rfl (fun ls hl => ?_)
        obtain ⟨x8, ex8, h⟩ := z_lt h
        refine lv_iinc (v := x8) (lv' := [(4, .int x8), (2, .int x7), (0, .ref h_me), (1, .int v1), (3, .int v3)]) hx hb dX9_ranking_74 hl (k := 4) rfl ((congrArg (v4 + ·) (show Int32.ofInt 1 = (1 : Int32) from by decide)).trans ex8.symm) (by decide) rfl (fun ls hl => ?_)
        refine lv_goto (tgt := 39) hx hb dX9_ranking_77 (by decide) ?_
        exact hrec_39_0 v1 x7 v3 x8 o_me _ _ _ h hw (lv_sub hl [2, 3, 1, 4, 0] rfl)
      · have h := z_f h c
        obtain ⟨x9, ex9, h⟩ := z_lt h
        refine lv_iinc (v := x9) (lv' := [(3, .int x9), (0, .ref h_me), (1, .int v1), (2, .int v2), (4, .int v4)]) hx hb dX9_ranking_62 hl (k := 3) rfl ((congrArg (v3 + ·) (show Int32.ofInt 1 = (1 : Int32) from by decide)).trans ex9.symm) (by decide) rfl (fun ls hl => ?_)
        refine lv_goto (tgt := 47) hx hb dX9_ranking_65 (by decide) ?_
        exact ih v1 v2 x9 v4 o_me _ _ _ h hw (lv_sub hl [1, 2, 3, 0, 4] rfl)
  have lp_39_0 : ∀ (N : Nat), ∀ (v1 : Int32) (v2 : Int32) (v3 : Int32) (v4 : Int32) (o_me : Ob) (H : Heap) (locs : List Loc) (ls : Array Slot), lp_X9_ranking_39   N (v1, v2, v3, v4, o_me) = some y → Wd dC dI A s.heap [wX9 h_me q_me k_me o_me] H locs → lv_has ls 5 [(0, .ref h_me), (1, .int v1), (2, .int v2), (3, .int v3), (4, .int v4)] → W p l e ({ frames := 3, cells := 0, slots := 0, locals := 68 } : Room) s m ([.ref h_me, .int p0] : List Value).toArray below meth c H locs 0 0 Qz (F0 m 39 ls []) := by
    intro N
    induction N with
    | zero =>
      intro v1 v2 v3 v4 o_me H locs ls h hw hl
      exact absurd (show (none : Option (Int32 × Ob)) = some y from h) (by simp)
    | succ N ih =>
      intro v1 v2 v3 v4 o_me H locs ls h hw hl
      have h : lb_X9_ranking_39   (lp_X9_ranking_39   N) v1 v2 v3 v4 o_me = some y := h
      unfold lb_X9_ranking_39 at h
      refine lv_iload hx hb dX9_ranking_39 (lv_at hl 4 rfl) ?_
      refine lv_iload_n hx hb dX9_ranking_41 rfl (lv_at hl 1 rfl) ?_
      refine lv_icmp_ge (tgt := 80) hx hb dX9_ranking_42 (by decide) (fun c => ?_) (fun c => ?_)
      · have h := z_t h c
        refine lv_iload_n hx hb dX9_ranking_80 rfl (lv_at hl 3 rfl) ?_
        have hy := Option.some.inj h
        rw [← hQz, ← hy]
        exact xr_i (v := v3) hx hb hr rfl hlk hK hw dX9_ranking_81
      · have h := z_f h c
        refine lv_iconst (v := 0) hx hb dX9_ranking_45 (by decide) ?_
        refine lv_istore_n (lv' := [(3, .int (0 : Int32)), (0, .ref h_me), (1, .int v1), (2, .int v2), (4, .int v4)]) hx hb dX9_ranking_46 rfl hl (by decide) rfl (fun ls hl => ?_)
        exact lp_47_1 (lp_X9_ranking_39   N) ih zfu v1 v2 (0 : Int32) v4 o_me _ _ _ h hw (lv_sub hl [1, 2, 3, 0, 4] rfl)
  unfold f_X9_ranking at h
  refine lv_aload_n hx hb dX9_ranking_0 rfl (lv_at hl 0 rfl) ?_
  refine lv_iconst (v := 0) hx hb dX9_ranking_1 (by decide) ?_
  refine fpX9_0 hx hb hts hown hK hw 0 rfl kw1176 dX9_ranking_2 (fun H locs hw => ?_)
  obtain ⟨o1, eo1, h⟩ := z_lt h
  have hw : Wd dC dI A s.heap [wX9 h_me q_me k_me o1] H locs := by rw [eo1]; exact hw
  refine lv_iload_n hx hb dX9_ranking_5 rfl (lv_at hl 1 rfl) ?_
  refine lv_i2l hx hb dX9_ranking_6 rfl ?_
  refine lv_lconst (v := 0) hx hb dX9_ranking_7 (by decide) ?_
  refine lv_aload_n hx hb dX9_ranking_8 rfl (lv_at hl 0 rfl) ?_
  refine fgX9_3 hx hb hts hown hK hw 0 rfl kw1179 dX9_ranking_9 ?_
  refine lv_iconst (v := 0) hx hb dX9_ranking_12 (by decide) ?_
  refine faX9_3 hx hb hK hw 0 rfl rfl (by decide) dX9_ranking_13 ?_
  refine lv_i2l hx hb dX9_ranking_14 rfl ?_
  obtain ⟨z2, ez2, h⟩ := z_bd h
  refine xj_i (xrS (As := [.long p0.toInt64, .long (0 : Int64), .long ((gA o1 3 (0 : Int32).toNatClampNeg).toInt64)]) (rest := []) ⟨hx, hb, hml, hown, hts⟩ (m_X9_in l dC dI _  p0.toInt64 (0 : Int64) ((gA o1 3 (0 : Int32).toNatClampNeg).toInt64) z2 ez2) kw1385 kw1383 kw1384 kw120 hd_X9_in ⟨rfl, rfl⟩ rfl rfl ⟨rfl, rfl⟩ hX hK hw [] (by decide) rfl rfl hl.1 rfl rfl dX9_ranking_15) hw hA [] (by decide) rfl rfl (fun H locs hw => ?_)
  refine lv_if_ne (tgt := 23) hx hb dX9_ranking_18 (by decide) (fun c => ?_) (fun c => ?_)
  · have h := z_f h c
    refine lv_aload_n hx hb dX9_ranking_23 rfl (lv_at hl 0 rfl) ?_
    obtain ⟨z3, ez3, h⟩ := z_bd h
    refine xj_v (xrV (As := []) (rest := []) ⟨hx, hb, hml, hown, hts⟩ (m_X9_layLeft l dC dI _ h_me q_me k_me o1 z3 ez3) kw1739 kw1736 kw1738 kw93 kw120 hd_X9_layLeft ⟨rfl, rfl⟩ rfl rfl ⟨rfl, rfl⟩ hX hK hw [0] (by decide) rfl rfl rfl rfl rfl hl.1 rfl rfl dX9_ranking_24) hw hA [0] (by decide) rfl rfl (fun H locs hw => ?_)
    have hw : Wd dC dI A s.heap [wX9 h_me q_me k_me z3] H locs := hw
    refine lv_iconst (v := 0) hx hb dX9_ranking_27 (by decide) ?_
    refine lv_istore_n (lv' := [(2, .int (0 : Int32)), (0, .ref h_me), (1, .int p0)]) hx hb dX9_ranking_28 rfl hl (by decide) rfl (fun ls hl => ?_)
    refine lv_aload_n hx hb dX9_ranking_29 rfl (lv_at hl 1 rfl) ?_
    refine fgX9_46 hx hb hts hown hK hw 0 rfl kw1222 dX9_ranking_30 ?_
    refine lv_iconst (v := 0) hx hb dX9_ranking_33 (by decide) ?_
    refine faX9_46 hx hb hK hw 0 rfl rfl (by decide) dX9_ranking_34 ?_
    obtain ⟨x4, ex4, h⟩ := z_lt h
    refine lv_fi (v := x4) ex4.symm ?_
    refine lv_istore_n (lv' := [(3, .int x4), (2, .int (0 : Int32)), (0, .ref h_me), (1, .int p0)]) hx hb dX9_ranking_35 rfl hl (by decide) rfl (fun ls hl => ?_)
    refine lv_iconst (v := 0) hx hb dX9_ranking_36 (by decide) ?_
    refine lv_istore (lv' := [(4, .int (0 : Int32)), (3, .int x4), (2, .int (0 : Int32)), (0, .ref h_me), (1, .int p0)]) hx hb dX9_ranking_37 hl (by decide) rfl (fun ls hl => ?_)
    exact lp_39_0  zfu p0 (0 : Int32) x4 (0 : Int32) z3 _ _ _ h hw (lv_sub hl [3, 4, 2, 1, 0] rfl)
  · have h := z_t h c
    refine lv_iconst (v := (-1)) hx hb dX9_ranking_21 (by decide) ?_
    have hy := Option.some.inj h
    rw [← hQz, ← hy]
    exact xr_i (v := (-1 : Int32)) hx hb hr rfl hlk hK hw dX9_ranking_22

def bk_X9_row_116  (rec_35_0 : Int32 × Int32 × Int32 × Ob → Option (Int32 × Ob)) (v1 : Int32) (v2 : Int32) (v3 : Int32) (o_me : Ob) : Option (Int32 × Ob) :=
  zlt (v3 + (5 : Int32)) fun x7 =>
  rec_35_0 (v1, v2, x7, o_me)
def bk_X9_row_106  (rec_35_0 : Int32 × Int32 × Int32 × Ob → Option (Int32 × Ob)) (v1 : Int32) (v2 : Int32) (v3 : Int32) (o_me : Ob) : Option (Int32 × Ob) :=
  zlt (sI o_me 11 ((gI o_me 11) + (1 : Int32))) fun o6 =>
  bk_X9_row_116  rec_35_0 v1 v2 v3 o6
def lb_X9_row_58  (rec_35_0 : Int32 × Int32 × Int32 × Ob → Option (Int32 × Ob)) (rec_58_3 : Int32 × Int32 × Int32 × Int32 × Ob → Option (Int32 × Ob)) (v1 : Int32) (v2 : Int32) (v3 : Int32) (v4 : Int32) (o_me : Ob) : Option (Int32 × Ob) :=
  if (4 : Int32) ≤ v4 then
  (zlt (v2 + (1 : Int32)) fun x9 =>
  bk_X9_row_116  rec_35_0 v1 x9 v3 o_me)
  else
  (zgd (zin v3 400) <|
  zgd (zin ((v3 + (1 : Int32)) + v4) 400) <|
  zgd (zin (((36 : Int32) + ((4 : Int32) * (gA o_me 12 v3.toNatClampNeg))) + v4) 5484) <|
  zlt (tA o_me 3 (((36 : Int32) + ((4 : Int32) * (gA o_me 12 v3.toNatClampNeg))) + v4).toNatClampNeg (gA o_me 12 ((v3 + (1 : Int32)) + v4).toNatClampNeg)) fun o13 =>
  zlt (v4 + (1 : Int32)) fun x14 =>
  rec_58_3 (v1, v2, v3, x14, o13))
def lp_X9_row_58  (rec_35_0 : Int32 × Int32 × Int32 × Ob → Option (Int32 × Ob)) : Nat → (Int32 × Int32 × Int32 × Int32 × Ob) → Option (Int32 × Ob) := zit (fun rec a => lb_X9_row_58  rec_35_0 rec a.1 a.2.1 a.2.2.1 a.2.2.2.1 a.2.2.2.2)
def lb_X9_row_35   (rec_35_0 : Int32 × Int32 × Int32 × Ob → Option (Int32 × Ob)) (v1 : Int32) (v2 : Int32) (v3 : Int32) (o_me : Ob) : Option (Int32 × Ob) :=
  if v1 ≤ v3 then
  ((f_X9_tell o_me v2).bind fun z5 =>
  some (z5.1, z5.2))
  else
  (if v1 ≤ (v3 + (4 : Int32)) then
  (bk_X9_row_106  rec_35_0 v1 v2 v3 o_me)
  else
  ((f_X9_isTold o_me v3).bind fun z8 =>
  if z8 = (0 : Int32) then
  (bk_X9_row_106  rec_35_0 v1 v2 v3 o_me)
  else
  (lp_X9_row_58  rec_35_0 zfu (v1, v2, v3, (0 : Int32), o_me))))
def lp_X9_row_35   : Nat → (Int32 × Int32 × Int32 × Ob) → Option (Int32 × Ob) := zit (fun rec a => lb_X9_row_35   rec a.1 a.2.1 a.2.2.1 a.2.2.2)
def f_X9_row (o_me : Ob) : Option (Int32 × Ob) :=
  zlt (sI o_me 0 (0 : Int32)) fun o1 =>
  zlt (gI o1 13) fun x2 =>
  zlt (sI o1 13 (0 : Int32)) fun o3 =>
  if x2 = (0 : Int32) then
  ((f_X9_tell o3 (-6 : Int32)).bind fun z15 =>
  some (z15.1, z15.2))
  else
  (zlt (sI o3 11 (0 : Int32)) fun o4 =>
  lp_X9_row_35   zfu (x2, (0 : Int32), (0 : Int32), o4))
set_option maxHeartbeats 4000000 in
set_option maxRecDepth 100000 in
theorem m_X9_row (l : Launch) (dC : Nat → ClassId) (dI : Nat → Nat → Nat) (sz : Nat) (h_me : Nat) (q_me : Nat → Nat) (k_me : Nat → ClassId) (o_me : Ob) (y : Int32 × Ob) (h : f_X9_row o_me = some y) : CI l yX9_row cX9_row 5 (some .int) ({ frames := 3, cells := 0, slots := 0, locals := 69 } : Room) dC dI sz [.ref h_me] [wX9 h_me q_me k_me o_me] [tX9 k_me] y.1 [wX9 h_me q_me k_me y.2] := by
  refine CC_of (by decide) (Nat.le_of_ble_eq_true rfl) ?_
  intro p e s m below meth c A ls hx hb hml hr hlk hnm hown hts hX hK hP hD hA hl
  have hl : lv_has ls 5 [(0, .ref h_me)] := hl
  have hown : s.vm.findClass RX9 = some m.cls := hown
  have hw : Wd dC dI A s.heap [wX9 h_me q_me k_me o_me] s.heap [] := ⟨hP, hD, va_S.rf⟩
  generalize hQz : (MQ below (QI dC dI (fun r (_ : Unit) => r = y.1) (fun _ => Jn [wX9 h_me q_me k_me y.2]) (fun _ => Jt [tX9 k_me]) A) ([.ref h_me] : List Value).toArray s 0 0 A) = Qz
  clear hP hD hnm
  have bk_116_2 : ∀ (rec_35_0 : Int32 × Int32 × Int32 × Ob → Option (Int32 × Ob)) (hrec_35_0 : ∀ (v1 : Int32) (v2 : Int32) (v3 : Int32) (o_me : Ob) (H : Heap) (locs : List Loc) (ls : Array Slot), rec_35_0 (v1, v2, v3, o_me) = some y → Wd dC dI A s.heap [wX9 h_me q_me k_me o_me] H locs → lv_has ls 5 [(0, .ref h_me), (1, .int v1), (2, .int v2), (3, .int v3)] → W p l e ({ frames := 3, cells := 0, slots := 0, locals := 69 } : Room) s m ([.ref h_me] : List Value).toArray below meth c H locs 0 0 Qz (F0 m 35 ls [])), ∀ (v1 : Int32) (v2 : Int32) (v3 : Int32) (o_me : Ob) (H : Heap) (locs : List Loc) (ls : Array Slot), bk_X9_row_116  rec_35_0 v1 v2 v3 o_me = some y → Wd dC dI A s.heap [wX9 h_me q_me k_me o_me] H locs → lv_has ls 5 [(0, .ref h_me), (1, .int v1), (2, .int v2), (3, .int v3)] → W p l e ({ frames := 3, cells := 0, slots := 0, locals := 69 } : Room) s m ([.ref h_me] : List Value).toArray below meth c H locs 0 0 Qz (F0 m 116 ls []) := by
    intro rec_35_0 hrec_35_0
    intro v1 v2 v3 o_me H locs ls h hw hl
    unfold bk_X9_row_116 at h
    obtain ⟨x7, ex7, h⟩ := z_lt h
    refine lv_iinc (v := x7) (lv' := [(3, .int x7), (0, .ref h_me), (1, .int v1), (2, .int v2)]) hx hb dX9_row_116 hl (k := 3) rfl ((congrArg (v3 + ·) (show Int32.ofInt 5 = (5 : Int32) from by decide)).trans ex7.symm) (by decide) rfl (fun ls hl => ?_)
    refine lv_goto (tgt := 35) hx hb dX9_row_119 (by decide) ?_
    exact hrec_35_0 v1 v2 x7 o_me _ _ _ h hw (lv_sub hl [1, 2, 3, 0] rfl)
  have bk_106_1 : ∀ (rec_35_0 : Int32 × Int32 × Int32 × Ob → Option (Int32 × Ob)) (hrec_35_0 : ∀ (v1 : Int32) (v2 : Int32) (v3 : Int32) (o_me : Ob) (H : Heap) (locs : List Loc) (ls : Array Slot), rec_35_0 (v1, v2, v3, o_me) = some y → Wd dC dI A s.heap [wX9 h_me q_me k_me o_me] H locs → lv_has ls 5 [(0, .ref h_me), (1, .int v1), (2, .int v2), (3, .int v3)] → W p l e ({ frames := 3, cells := 0, slots := 0, locals := 69 } : Room) s m ([.ref h_me] : List Value).toArray below meth c H locs 0 0 Qz (F0 m 35 ls [])), ∀ (v1 : Int32) (v2 : Int32) (v3 : Int32) (o_me : Ob) (H : Heap) (locs : List Loc) (ls : Array Slot), bk_X9_row_106  rec_35_0 v1 v2 v3 o_me = some y → Wd dC dI A s.heap [wX9 h_me q_me k_me o_me] H locs → lv_has ls 5 [(0, .ref h_me), (1, .int v1), (2, .int v2), (3, .int v3)] → W p l e ({ frames := 3, cells := 0, slots := 0, locals := 69 } : Room) s m ([.ref h_me] : List Value).toArray below meth c H locs 0 0 Qz (F0 m 106 ls []) := by
    intro rec_35_0 hrec_35_0
    intro v1 v2 v3 o_me H locs ls h hw hl
    unfold bk_X9_row_106 at h
    refine lv_aload_n hx hb dX9_row_106 rfl (lv_at hl 0 rfl) ?_
    refine lv_dup hx hb dX9_row_107 rfl ?_
    refine fgX9_11 hx hb hts hown hK hw 0 rfl kw1187 dX9_row_108 ?_
    refine lv_iconst (v := 1) hx hb dX9_row_111 (by decide) ?_
    refine lv_iadd hx hb dX9_row_112 ?_
    refine fpX9_11 hx hb hts hown hK hw 0 rfl kw1187 dX9_row_113 (fun H locs hw => ?_)
    obtain ⟨o6, eo6, h⟩ := z_lt h
    have hw : Wd dC dI A s.heap [wX9 h_me q_me k_me o6] H locs := by rw [eo6]; exact hw
    exact bk_116_2 rec_35_0 hrec_35_0 v1 v2 v3 o6 _ _ _ h hw (lv_sub hl [0, 1, 2, 3] rfl)
  have lp_58_3 : ∀ (rec_35_0 : Int32 × Int32 × Int32 × Ob → Option (Int32 × Ob)) (hrec_35_0 : ∀ (v1 : Int32) (v2 : Int32) (v3 : Int32) (o_me : Ob) (H : Heap) (locs : List Loc) (ls : Array Slot), rec_35_0 (v1, v2, v3, o_me) = some y → Wd dC dI A s.heap [wX9 h_me q_me k_me o_me] H locs → lv_has ls 5 [(0, .ref h_me), (1, .int v1), (2, .int v2), (3, .int v3)] → W p l e ({ frames := 3, cells := 0, slots := 0, locals := 69 } : Room) s m ([.ref h_me] : List Value).toArray below meth c H locs 0 0 Qz (F0 m 35 ls [])) (N : Nat), ∀ (v1 : Int32) (v2 : Int32) (v3 : Int32) (v4 : Int32) (o_me : Ob) (H : Heap) (locs : List Loc) (ls : Array Slot), lp_X9_row_58  rec_35_0 N (v1, v2, v3, v4, o_me) = some y → Wd dC dI A s.heap [wX9 h_me q_me k_me o_me] H locs → lv_has ls 5 [(0, .ref h_me), (1, .int v1), (2, .int v2), (3, .int v3), (4, .int v4)] → W p l e ({ frames := 3, cells := 0, slots := 0, locals := 69 } : Room) s m ([.ref h_me] : List Value).toArray below meth c H locs 0 0 Qz (F0 m 58 ls []) := by
    intro rec_35_0 hrec_35_0
    intro N
    induction N with
    | zero =>
      intro v1 v2 v3 v4 o_me H locs ls h hw hl
      exact absurd (show (none : Option (Int32 × Ob)) = some y from h) (by simp)
    | succ N ih =>
      intro v1 v2 v3 v4 o_me H locs ls h hw hl
      have h : lb_X9_row_58  rec_35_0 (lp_X9_row_58  rec_35_0 N) v1 v2 v3 v4 o_me = some y := h
      unfold lb_X9_row_58 at h
      refine lv_iload hx hb dX9_row_58 (lv_at hl 4 rfl) ?_
      refine lv_iconst (v := 4) hx hb dX9_row_60 (by decide) ?_
      refine lv_icmp_ge (tgt := 100) hx hb dX9_row_61 (by decide) (fun c => ?_) (fun c => ?_)
      · have h := z_t h c
        obtain ⟨x9, ex9, h⟩ := z_lt h
        refine lv_iinc (v := x9) (lv' := [(2, .int x9), (0, .ref h_me), (1, .int v1), (3, .int v3), (4, .int v4)]) hx hb dX9_row_100 hl (k := 2) rfl ((congrArg (v2 + ·) (show Int32.ofInt 1 = (1 : Int32) from by decide)).trans ex9.symm) (by decide) rfl (fun ls hl => ?_)
        refine lv_goto (tgt := 116) hx hb dX9_row_103 (by decide) ?_
        exact bk_116_2 rec_35_0 hrec_35_0 v1 x9 v3 o_me _ _ _ h hw (lv_sub hl [1, 2, 0, 3] rfl)
      · have h := z_f h c
        refine lv_aload_n hx hb dX9_row_64 rfl (lv_at hl 0 rfl) ?_
        refine fgX9_3 hx hb hts hown hK hw 0 rfl kw1179 dX9_row_65 ?_
        refine lv_bipush (v := 36) hx hb dX9_row_68 (by decide) ?_
        refine lv_iconst (v := 4) hx hb dX9_row_70 (by decide) ?_
        refine lv_aload_n hx hb dX9_row_71 rfl (lv_at hl 0 rfl) ?_
        refine fgX9_12 hx hb hts hown hK hw 0 rfl kw1188 dX9_row_72 ?_
        refine lv_iload_n hx hb dX9_row_75 rfl (lv_at hl 3 rfl) ?_
        obtain ⟨g10, h⟩ := z_gd h
        refine faX9_12 hx hb hK hw 0 rfl rfl g10 dX9_row_76 ?_
        refine lv_imul hx hb dX9_row_77 ?_
        refine lv_iadd hx hb dX9_row_78 ?_
        refine lv_iload hx hb dX9_row_79 (lv_at hl 4 rfl) ?_
        refine lv_iadd hx hb dX9_row_81 ?_
        refine lv_aload_n hx hb dX9_row_82 rfl (lv_at hl 0 rfl) ?_
        refine fgX9_12 hx hb hts hown hK hw 0 rfl kw1188 dX9_row_83 ?_
        refine lv_iload_n hx hb dX9_row_86 rfl (lv_at hl 3 rfl) ?_
        refine lv_iconst (v := 1) hx hb dX9_row_87 (by decide) ?_
        refine lv_iadd hx hb dX9_row_88 ?_
        refine lv_iload hx hb dX9_row_89 (lv_at hl 4 rfl) ?_
        refine lv_iadd hx hb dX9_row_91 ?_
        obtain ⟨g11, h⟩ := z_gd h
        refine faX9_12 hx hb hK hw 0 rfl rfl g11 dX9_row_92 ?_
        obtain ⟨g12, h⟩ := z_gd h
        refine fbX9_3 hx hb hK hw 0 rfl rfl g12 dX9_row_93 (fun H locs hw => ?_)
        obtain ⟨o13, eo13, h⟩ := z_lt h
        have hw : Wd dC dI A s.heap [wX9 h_me q_me k_me o13] H locs := by rw [eo13]; exact hw
        obtain ⟨x14, ex14, h⟩ := z_lt h
        refine lv_iinc (v := x14) (lv' := [(4, .int x14), (0, .ref h_me), (1, .int v1), (2, .int v2), (3, .int v3)]) hx hb dX9_row_94 hl (k := 4) rfl ((congrArg (v4 + ·) (show Int32.ofInt 1 = (1 : Int32) from by decide)).trans ex14.symm) (by decide) rfl (fun ls hl => ?_)
        refine lv_goto (tgt := 58) hx hb dX9_row_97 (by decide) ?_
        exact ih v1 v2 v3 x14 o13 _ _ _ h hw (lv_sub hl [1, 2, 3, 4, 0] rfl)
  have lp_35_0 : ∀ (N : Nat), ∀ (v1 : Int32) (v2 : Int32) (v3 : Int32) (o_me : Ob) (H : Heap) (locs : List Loc) (ls : Array Slot), lp_X9_row_35   N (v1, v2, v3, o_me) = some y → Wd dC dI A s.heap [wX9 h_me q_me k_me o_me] H locs → lv_has ls 5 [(0, .ref h_me), (1, .int v1), (2, .int v2), (3, .int v3)] → W p l e ({ frames := 3, cells := 0, slots := 0, locals := 69 } : Room) s m ([.ref h_me] : List Value).toArray below meth c H locs 0 0 Qz (F0 m 35 ls []) := by
    intro N
    induction N with
    | zero =>
      intro v1 v2 v3 o_me H locs ls h hw hl
      exact absurd (show (none : Option (Int32 × Ob)) = some y from h) (by simp)
    | succ N ih =>
      intro v1 v2 v3 o_me H locs ls h hw hl
      have h : lb_X9_row_35   (lp_X9_row_35   N) v1 v2 v3 o_me = some y := h
      unfold lb_X9_row_35 at h
      refine lv_iload_n hx hb dX9_row_35 rfl (lv_at hl 3 rfl) ?_
      refine lv_iload_n hx hb dX9_row_36 rfl (lv_at hl 1 rfl) ?_
      refine lv_icmp_ge (tgt := 122) hx hb dX9_row_37 (by decide) (fun c => ?_) (fun c => ?_)
      · have h := z_t h c
        refine lv_aload_n hx hb dX9_row_122 rfl (lv_at hl 0 rfl) ?_
        refine lv_iload_n hx hb dX9_row_123 rfl (lv_at hl 2 rfl) ?_
        obtain ⟨z5, ez5, h⟩ := z_bd h
        refine xj_i (xrV (As := [.int v2]) (rest := []) ⟨hx, hb, hml, hown, hts⟩ (m_X9_tell l dC dI _ h_me q_me k_me o_me v2 z5 ez5) kw1374 kw1371 kw1373 kw39 kw120 hd_X9_tell ⟨rfl, rfl⟩ rfl rfl ⟨rfl, rfl⟩ hX hK hw [0] (by decide) rfl rfl rfl rfl rfl hl.1 rfl rfl dX9_row_124) hw hA [0] (by decide) rfl rfl (fun H locs hw => ?_)
        have hw : Wd dC dI A s.heap [wX9 h_me q_me k_me z5.2] H locs := hw
        have hy := Option.some.inj h
        rw [← hQz, ← hy]
        exact xr_i (v := z5.1) hx hb hr rfl hlk hK hw dX9_row_127
      · have h := z_f h c
        refine lv_iload_n hx hb dX9_row_40 rfl (lv_at hl 3 rfl) ?_
        refine lv_iconst (v := 4) hx hb dX9_row_41 (by decide) ?_
        refine lv_iadd hx hb dX9_row_42 ?_
        refine lv_iload_n hx hb dX9_row_43 rfl (lv_at hl 1 rfl) ?_
        refine lv_icmp_ge (tgt := 106) hx hb dX9_row_44 (by decide) (fun c => ?_) (fun c => ?_)
        · have h := z_t h c
          exact bk_106_1 (lp_X9_row_35   N) ih v1 v2 v3 o_me _ _ _ h hw (lv_sub hl [0, 1, 2, 3] rfl)
        · have h := z_f h c
          refine lv_aload_n hx hb dX9_row_47 rfl (lv_at hl 0 rfl) ?_
          refine lv_iload_n hx hb dX9_row_48 rfl (lv_at hl 3 rfl) ?_
          obtain ⟨z8, ez8, h⟩ := z_bd h
          refine xj_i (xrV (As := [.int v3]) (rest := []) ⟨hx, hb, hml, hown, hts⟩ (m_X9_isTold l dC dI _ h_me q_me k_me o_me v3 z8 ez8) kw1476 kw1473 kw1475 kw51 kw120 hd_X9_isTold ⟨rfl, rfl⟩ rfl rfl ⟨rfl, rfl⟩ hX hK hw [0] (by decide) rfl rfl rfl rfl rfl hl.1 rfl rfl dX9_row_49) hw hA [0] (by decide) rfl rfl (fun H locs hw => ?_)
          have hw : Wd dC dI A s.heap [wX9 h_me q_me k_me o_me] H locs := hw
          refine lv_if_eq (tgt := 106) hx hb dX9_row_52 (by decide) (fun c => ?_) (fun c => ?_)
          · have h := z_t h c
            exact bk_106_1 (lp_X9_row_35   N) ih v1 v2 v3 o_me _ _ _ h hw (lv_sub hl [0, 1, 2, 3] rfl)
          · have h := z_f h c
            refine lv_iconst (v := 0) hx hb dX9_row_55 (by decide) ?_
            refine lv_istore (lv' := [(4, .int (0 : Int32)), (0, .ref h_me), (1, .int v1), (2, .int v2), (3, .int v3)]) hx hb dX9_row_56 hl (by decide) rfl (fun ls hl => ?_)
            exact lp_58_3 (lp_X9_row_35   N) ih zfu v1 v2 v3 (0 : Int32) o_me _ _ _ h hw (lv_sub hl [1, 2, 3, 4, 0] rfl)
  unfold f_X9_row at h
  refine lv_aload_n hx hb dX9_row_0 rfl (lv_at hl 0 rfl) ?_
  refine lv_iconst (v := 0) hx hb dX9_row_1 (by decide) ?_
  refine fpX9_0 hx hb hts hown hK hw 0 rfl kw1176 dX9_row_2 (fun H locs hw => ?_)
  obtain ⟨o1, eo1, h⟩ := z_lt h
  have hw : Wd dC dI A s.heap [wX9 h_me q_me k_me o1] H locs := by rw [eo1]; exact hw
  refine lv_aload_n hx hb dX9_row_5 rfl (lv_at hl 0 rfl) ?_
  refine fgX9_13 hx hb hts hown hK hw 0 rfl kw1189 dX9_row_6 ?_
  obtain ⟨x2, ex2, h⟩ := z_lt h
  refine lv_fi (v := x2) ex2.symm ?_
  refine lv_istore_n (lv' := [(1, .int x2), (0, .ref h_me)]) hx hb dX9_row_9 rfl hl (by decide) rfl (fun ls hl => ?_)
  refine lv_aload_n hx hb dX9_row_10 rfl (lv_at hl 1 rfl) ?_
  refine lv_iconst (v := 0) hx hb dX9_row_11 (by decide) ?_
  refine fpX9_13 hx hb hts hown hK hw 0 rfl kw1189 dX9_row_12 (fun H locs hw => ?_)
  obtain ⟨o3, eo3, h⟩ := z_lt h
  have hw : Wd dC dI A s.heap [wX9 h_me q_me k_me o3] H locs := by rw [eo3]; exact hw
  refine lv_iload_n hx hb dX9_row_15 rfl (lv_at hl 0 rfl) ?_
  refine lv_if_ne (tgt := 26) hx hb dX9_row_16 (by decide) (fun c => ?_) (fun c => ?_)
  · have h := z_f h c
    refine lv_aload_n hx hb dX9_row_26 rfl (lv_at hl 1 rfl) ?_
    refine lv_iconst (v := 0) hx hb dX9_row_27 (by decide) ?_
    refine fpX9_11 hx hb hts hown hK hw 0 rfl kw1187 dX9_row_28 (fun H locs hw => ?_)
    obtain ⟨o4, eo4, h⟩ := z_lt h
    have hw : Wd dC dI A s.heap [wX9 h_me q_me k_me o4] H locs := by rw [eo4]; exact hw
    refine lv_iconst (v := 0) hx hb dX9_row_31 (by decide) ?_
    refine lv_istore_n (lv' := [(2, .int (0 : Int32)), (1, .int x2), (0, .ref h_me)]) hx hb dX9_row_32 rfl hl (by decide) rfl (fun ls hl => ?_)
    refine lv_iconst (v := 0) hx hb dX9_row_33 (by decide) ?_
    refine lv_istore_n (lv' := [(3, .int (0 : Int32)), (2, .int (0 : Int32)), (1, .int x2), (0, .ref h_me)]) hx hb dX9_row_34 rfl hl (by decide) rfl (fun ls hl => ?_)
    exact lp_35_0  zfu x2 (0 : Int32) (0 : Int32) o4 _ _ _ h hw (lv_sub hl [3, 2, 1, 0] rfl)
  · have h := z_t h c
    refine lv_aload_n hx hb dX9_row_19 rfl (lv_at hl 1 rfl) ?_
    refine lv_bipush (v := (-6)) hx hb dX9_row_20 (by decide) ?_
    obtain ⟨z15, ez15, h⟩ := z_bd h
    refine xj_i (xrV (As := [.int (-6 : Int32)]) (rest := []) ⟨hx, hb, hml, hown, hts⟩ (m_X9_tell l dC dI _ h_me q_me k_me o3 (-6 : Int32) z15 ez15) kw1374 kw1371 kw1373 kw39 kw120 hd_X9_tell ⟨rfl, rfl⟩ rfl rfl ⟨rfl, rfl⟩ hX hK hw [0] (by decide) rfl rfl rfl rfl rfl hl.1 rfl rfl dX9_row_22) hw hA [0] (by decide) rfl rfl (fun H locs hw => ?_)
    have hw : Wd dC dI A s.heap [wX9 h_me q_me k_me z15.2] H locs := hw
    have hy := Option.some.inj h
    rw [← hQz, ← hy]
    exact xr_i (v := z15.1) hx hb hr rfl hlk hK hw dX9_row_25

def bk_X9_seen_24   (o_me : Ob) : Option (Int32 × Ob) :=
  (f_X9_tell o_me (-1 : Int32)).bind fun z3 =>
  some (z3.1, z3.2)
def f_X9_seen (o_me : Ob) (p0 : Int32) (p1 : Int32) : Option (Int32 × Ob) :=
  zlt (sI o_me 0 (0 : Int32)) fun o1 =>
  (f_X9_isRace p0).bind fun z2 =>
  if z2 = (0 : Int32) then
  (bk_X9_seen_24   o1)
  else
  ((f_X9_in p1.toInt64 (0 : Int64) (9 : Int64)).bind fun z4 =>
  if z4 = (0 : Int32) then
  (bk_X9_seen_24   o1)
  else
  (zlt (gA o1 3 (1 : Int32).toNatClampNeg) fun x5 =>
  if x5 = (6 : Int32) then
  ((f_X9_tell o1 (-5 : Int32)).bind fun z12 =>
  some (z12.1, z12.2))
  else
  (zgd (zin ((71 : Int32) + ((2 : Int32) * x5)) 5484) <|
  zlt (tA o1 3 ((71 : Int32) + ((2 : Int32) * x5)).toNatClampNeg p0) fun o7 =>
  zgd (zin (((71 : Int32) + ((2 : Int32) * x5)) + (1 : Int32)) 5484) <|
  zlt (tA o7 3 (((71 : Int32) + ((2 : Int32) * x5)) + (1 : Int32)).toNatClampNeg p1) fun o9 =>
  zlt (tA o9 3 (1 : Int32).toNatClampNeg ((gA o9 3 (1 : Int32).toNatClampNeg) + (1 : Int32))) fun o10 =>
  (f_X9_tell o10 (x5 + (1 : Int32))).bind fun z11 =>
  some (z11.1, z11.2))))
set_option maxHeartbeats 4000000 in
set_option maxRecDepth 100000 in
theorem m_X9_seen (l : Launch) (dC : Nat → ClassId) (dI : Nat → Nat → Nat) (sz : Nat) (h_me : Nat) (q_me : Nat → Nat) (k_me : Nat → ClassId) (o_me : Ob) (p0 : Int32) (p1 : Int32) (y : Int32 × Ob) (h : f_X9_seen o_me p0 p1 = some y) : CI l yX9_seen cX9_seen 4 (some .int) ({ frames := 2, cells := 0, slots := 0, locals := 45 } : Room) dC dI sz [.ref h_me, .int p0, .int p1] [wX9 h_me q_me k_me o_me] [tX9 k_me] y.1 [wX9 h_me q_me k_me y.2] := by
  refine CC_of (by decide) (Nat.le_of_ble_eq_true rfl) ?_
  intro p e s m below meth c A ls hx hb hml hr hlk hnm hown hts hX hK hP hD hA hl
  have hl : lv_has ls 4 [(0, .ref h_me), (1, .int p0), (2, .int p1)] := hl
  have hown : s.vm.findClass RX9 = some m.cls := hown
  have hw : Wd dC dI A s.heap [wX9 h_me q_me k_me o_me] s.heap [] := ⟨hP, hD, va_S.rf⟩
  generalize hQz : (MQ below (QI dC dI (fun r (_ : Unit) => r = y.1) (fun _ => Jn [wX9 h_me q_me k_me y.2]) (fun _ => Jt [tX9 k_me]) A) ([.ref h_me, .int p0, .int p1] : List Value).toArray s 0 0 A) = Qz
  clear hP hD hnm
  have bk_24_0 : ∀ (o_me : Ob) (H : Heap) (locs : List Loc) (ls : Array Slot), bk_X9_seen_24   o_me = some y → Wd dC dI A s.heap [wX9 h_me q_me k_me o_me] H locs → lv_has ls 4 [(0, .ref h_me)] → W p l e ({ frames := 2, cells := 0, slots := 0, locals := 45 } : Room) s m ([.ref h_me, .int p0, .int p1] : List Value).toArray below meth c H locs 0 0 Qz (F0 m 24 ls []) := by
    intro o_me H locs ls h hw hl
    unfold bk_X9_seen_24 at h
    refine lv_aload_n hx hb dX9_seen_24 rfl (lv_at hl 0 rfl) ?_
    refine lv_iconst (v := (-1)) hx hb dX9_seen_25 (by decide) ?_
    obtain ⟨z3, ez3, h⟩ := z_bd h
    refine xj_i (xrV (As := [.int (-1 : Int32)]) (rest := []) ⟨hx, hb, hml, hown, hts⟩ (m_X9_tell l dC dI _ h_me q_me k_me o_me (-1 : Int32) z3 ez3) kw1374 kw1371 kw1373 kw39 kw120 hd_X9_tell ⟨rfl, rfl⟩ rfl rfl ⟨rfl, rfl⟩ hX hK hw [0] (by decide) rfl rfl rfl rfl rfl hl.1 rfl rfl dX9_seen_26) hw hA [0] (by decide) rfl rfl (fun H locs hw => ?_)
    have hw : Wd dC dI A s.heap [wX9 h_me q_me k_me z3.2] H locs := hw
    have hy := Option.some.inj h
    rw [← hQz, ← hy]
    exact xr_i (v := z3.1) hx hb hr rfl hlk hK hw dX9_seen_29
  unfold f_X9_seen at h
  refine lv_aload_n hx hb dX9_seen_0 rfl (lv_at hl 0 rfl) ?_
  refine lv_iconst (v := 0) hx hb dX9_seen_1 (by decide) ?_
  refine fpX9_0 hx hb hts hown hK hw 0 rfl kw1176 dX9_seen_2 (fun H locs hw => ?_)
  obtain ⟨o1, eo1, h⟩ := z_lt h
  have hw : Wd dC dI A s.heap [wX9 h_me q_me k_me o1] H locs := by rw [eo1]; exact hw
  refine lv_iload_n hx hb dX9_seen_5 rfl (lv_at hl 1 rfl) ?_
  obtain ⟨z2, ez2, h⟩ := z_bd h
  refine xj_i (xrS (As := [.int p0]) (rest := []) ⟨hx, hb, hml, hown, hts⟩ (m_X9_isRace l dC dI _  p0 z2 ez2) kw1444 kw1442 kw1443 kw120 hd_X9_isRace ⟨rfl, rfl⟩ rfl rfl ⟨rfl, rfl⟩ hX hK hw [] (by decide) rfl rfl hl.1 rfl rfl dX9_seen_6) hw hA [] (by decide) rfl rfl (fun H locs hw => ?_)
  refine lv_if_eq (tgt := 24) hx hb dX9_seen_9 (by decide) (fun c => ?_) (fun c => ?_)
  · have h := z_t h c
    exact bk_24_0  o1 _ _ _ h hw (lv_sub hl [0] rfl)
  · have h := z_f h c
    refine lv_iload_n hx hb dX9_seen_12 rfl (lv_at hl 2 rfl) ?_
    refine lv_i2l hx hb dX9_seen_13 rfl ?_
    refine lv_lconst (v := 0) hx hb dX9_seen_14 (by decide) ?_
    refine lv_ldc2 (v := 9) hx hb hown (hts _ kw1398) dX9_seen_15 ?_
    obtain ⟨z4, ez4, h⟩ := z_bd h
    refine xj_i (xrS (As := [.long p1.toInt64, .long (0 : Int64), .long (9 : Int64)]) (rest := []) ⟨hx, hb, hml, hown, hts⟩ (m_X9_in l dC dI _  p1.toInt64 (0 : Int64) (9 : Int64) z4 ez4) kw1385 kw1383 kw1384 kw120 hd_X9_in ⟨rfl, rfl⟩ rfl rfl ⟨rfl, rfl⟩ hX hK hw [] (by decide) rfl rfl hl.1 rfl rfl dX9_seen_18) hw hA [] (by decide) rfl rfl (fun H locs hw => ?_)
    refine lv_if_ne (tgt := 30) hx hb dX9_seen_21 (by decide) (fun c => ?_) (fun c => ?_)
    · have h := z_f h c
      refine lv_aload_n hx hb dX9_seen_30 rfl (lv_at hl 0 rfl) ?_
      refine fgX9_3 hx hb hts hown hK hw 0 rfl kw1179 dX9_seen_31 ?_
      refine lv_iconst (v := 1) hx hb dX9_seen_34 (by decide) ?_
      refine faX9_3 hx hb hK hw 0 rfl rfl (by decide) dX9_seen_35 ?_
      obtain ⟨x5, ex5, h⟩ := z_lt h
      refine lv_fi (v := x5) ex5.symm ?_
      refine lv_istore_n (lv' := [(3, .int x5), (0, .ref h_me), (1, .int p0), (2, .int p1)]) hx hb dX9_seen_36 rfl hl (by decide) rfl (fun ls hl => ?_)
      refine lv_iload_n hx hb dX9_seen_37 rfl (lv_at hl 0 rfl) ?_
      refine lv_bipush (v := 6) hx hb dX9_seen_38 (by decide) ?_
      refine lv_icmp_ne (tgt := 50) hx hb dX9_seen_40 (by decide) (fun c => ?_) (fun c => ?_)
      · have h := z_f h c
        refine lv_aload_n hx hb dX9_seen_50 rfl (lv_at hl 1 rfl) ?_
        refine fgX9_3 hx hb hts hown hK hw 0 rfl kw1179 dX9_seen_51 ?_
        refine lv_bipush (v := 71) hx hb dX9_seen_54 (by decide) ?_
        refine lv_iconst (v := 2) hx hb dX9_seen_56 (by decide) ?_
        refine lv_iload_n hx hb dX9_seen_57 rfl (lv_at hl 0 rfl) ?_
        refine lv_imul hx hb dX9_seen_58 ?_
        refine lv_iadd hx hb dX9_seen_59 ?_
        refine lv_iload_n hx hb dX9_seen_60 rfl (lv_at hl 2 rfl) ?_
        obtain ⟨g6, h⟩ := z_gd h
        refine fbX9_3 hx hb hK hw 0 rfl rfl g6 dX9_seen_61 (fun H locs hw => ?_)
        obtain ⟨o7, eo7, h⟩ := z_lt h
        have hw : Wd dC dI A s.heap [wX9 h_me q_me k_me o7] H locs := by rw [eo7]; exact hw
        refine lv_aload_n hx hb dX9_seen_62 rfl (lv_at hl 1 rfl) ?_
        refine fgX9_3 hx hb hts hown hK hw 0 rfl kw1179 dX9_seen_63 ?_
        refine lv_bipush (v := 71) hx hb dX9_seen_66 (by decide) ?_
        refine lv_iconst (v := 2) hx hb dX9_seen_68 (by decide) ?_
        refine lv_iload_n hx hb dX9_seen_69 rfl (lv_at hl 0 rfl) ?_
        refine lv_imul hx hb dX9_seen_70 ?_
        refine lv_iadd hx hb dX9_seen_71 ?_
        refine lv_iconst (v := 1) hx hb dX9_seen_72 (by decide) ?_
        refine lv_iadd hx hb dX9_seen_73 ?_
        refine lv_iload_n hx hb dX9_seen_74 rfl (lv_at hl 3 rfl) ?_
        obtain ⟨g8, h⟩ := z_gd h
        refine fbX9_3 hx hb hK hw 0 rfl rfl g8 dX9_seen_75 (fun H locs hw => ?_)
        obtain ⟨o9, eo9, h⟩ := z_lt h
        have hw : Wd dC dI A s.heap [wX9 h_me q_me k_me o9] H locs := by rw [eo9]; exact hw
        refine lv_aload_n hx hb dX9_seen_76 rfl (lv_at hl 1 rfl) ?_
        refine fgX9_3 hx hb hts hown hK hw 0 rfl kw1179 dX9_seen_77 ?_
        refine lv_iconst (v := 1) hx hb dX9_seen_80 (by decide) ?_
        refine lv_dup2_11 hx hb dX9_seen_81 rfl rfl ?_
        refine faX9_3 hx hb hK hw 0 rfl rfl (by decide) dX9_seen_82 ?_
        refine lv_iconst (v := 1) hx hb dX9_seen_83 (by decide) ?_
        refine lv_iadd hx hb dX9_seen_84 ?_
        refine fbX9_3 hx hb hK hw 0 rfl rfl (by decide) dX9_seen_85 (fun H locs hw => ?_)
        obtain ⟨o10, eo10, h⟩ := z_lt h
        have hw : Wd dC dI A s.heap [wX9 h_me q_me k_me o10] H locs := by rw [eo10]; exact hw
        refine lv_aload_n hx hb dX9_seen_86 rfl (lv_at hl 1 rfl) ?_
        refine lv_iload_n hx hb dX9_seen_87 rfl (lv_at hl 0 rfl) ?_
        refine lv_iconst (v := 1) hx hb dX9_seen_88 (by decide) ?_
        refine lv_iadd hx hb dX9_seen_89 ?_
        obtain ⟨z11, ez11, h⟩ := z_bd h
        refine xj_i (xrV (As := [.int (x5 + (1 : Int32))]) (rest := []) ⟨hx, hb, hml, hown, hts⟩ (m_X9_tell l dC dI _ h_me q_me k_me o10 (x5 + (1 : Int32)) z11 ez11) kw1374 kw1371 kw1373 kw39 kw120 hd_X9_tell ⟨rfl, rfl⟩ rfl rfl ⟨rfl, rfl⟩ hX hK hw [0] (by decide) rfl rfl rfl rfl rfl hl.1 rfl rfl dX9_seen_90) hw hA [0] (by decide) rfl rfl (fun H locs hw => ?_)
        have hw : Wd dC dI A s.heap [wX9 h_me q_me k_me z11.2] H locs := hw
        have hy := Option.some.inj h
        rw [← hQz, ← hy]
        exact xr_i (v := z11.1) hx hb hr rfl hlk hK hw dX9_seen_93
      · have h := z_t h c
        refine lv_aload_n hx hb dX9_seen_43 rfl (lv_at hl 1 rfl) ?_
        refine lv_bipush (v := (-5)) hx hb dX9_seen_44 (by decide) ?_
        obtain ⟨z12, ez12, h⟩ := z_bd h
        refine xj_i (xrV (As := [.int (-5 : Int32)]) (rest := []) ⟨hx, hb, hml, hown, hts⟩ (m_X9_tell l dC dI _ h_me q_me k_me o1 (-5 : Int32) z12 ez12) kw1374 kw1371 kw1373 kw39 kw120 hd_X9_tell ⟨rfl, rfl⟩ rfl rfl ⟨rfl, rfl⟩ hX hK hw [0] (by decide) rfl rfl rfl rfl rfl hl.1 rfl rfl dX9_seen_46) hw hA [0] (by decide) rfl rfl (fun H locs hw => ?_)
        have hw : Wd dC dI A s.heap [wX9 h_me q_me k_me z12.2] H locs := hw
        have hy := Option.some.inj h
        rw [← hQz, ← hy]
        exact xr_i (v := z12.1) hx hb hr rfl hlk hK hw dX9_seen_49
    · have h := z_t h c
      exact bk_24_0  o1 _ _ _ h hw (lv_sub hl [0] rfl)

def f_X9_status (o_me : Ob) : Option (Int32 × Ob) :=
  zlt (sI o_me 0 (0 : Int32)) fun o1 =>
  some (gI o1 1, o1)
set_option maxHeartbeats 4000000 in
set_option maxRecDepth 100000 in
theorem m_X9_status (l : Launch) (dC : Nat → ClassId) (dI : Nat → Nat → Nat) (sz : Nat) (h_me : Nat) (q_me : Nat → Nat) (k_me : Nat → ClassId) (o_me : Ob) (y : Int32 × Ob) (h : f_X9_status o_me = some y) : CI l yX9_status cX9_status 1 (some .int) ({ frames := 0, cells := 0, slots := 0, locals := 0 } : Room) dC dI sz [.ref h_me] [wX9 h_me q_me k_me o_me] [tX9 k_me] y.1 [wX9 h_me q_me k_me y.2] := by
  refine CC_of (by decide) (Nat.le_of_ble_eq_true rfl) ?_
  intro p e s m below meth c A ls hx hb hml hr hlk hnm hown hts hX hK hP hD hA hl
  have hl : lv_has ls 1 [(0, .ref h_me)] := hl
  have hown : s.vm.findClass RX9 = some m.cls := hown
  have hw : Wd dC dI A s.heap [wX9 h_me q_me k_me o_me] s.heap [] := ⟨hP, hD, va_S.rf⟩
  generalize hQz : (MQ below (QI dC dI (fun r (_ : Unit) => r = y.1) (fun _ => Jn [wX9 h_me q_me k_me y.2]) (fun _ => Jt [tX9 k_me]) A) ([.ref h_me] : List Value).toArray s 0 0 A) = Qz
  clear hP hD hnm
  unfold f_X9_status at h
  refine lv_aload_n hx hb dX9_status_0 rfl (lv_at hl 0 rfl) ?_
  refine lv_iconst (v := 0) hx hb dX9_status_1 (by decide) ?_
  refine fpX9_0 hx hb hts hown hK hw 0 rfl kw1176 dX9_status_2 (fun H locs hw => ?_)
  obtain ⟨o1, eo1, h⟩ := z_lt h
  have hw : Wd dC dI A s.heap [wX9 h_me q_me k_me o1] H locs := by rw [eo1]; exact hw
  refine lv_aload_n hx hb dX9_status_5 rfl (lv_at hl 0 rfl) ?_
  refine fgX9_1 hx hb hts hown hK hw 0 rfl kw1177 dX9_status_6 ?_
  have hy := Option.some.inj h
  rw [← hQz, ← hy]
  exact xr_i (v := gI o1 1) hx hb hr rfl hlk hK hw dX9_status_9

def f_X9_stopped (o_me : Ob) : Option (Int32 × Ob) :=
  zlt (sI o_me 0 (0 : Int32)) fun o1 =>
  some (gI o1 58, o1)
set_option maxHeartbeats 4000000 in
set_option maxRecDepth 100000 in
theorem m_X9_stopped (l : Launch) (dC : Nat → ClassId) (dI : Nat → Nat → Nat) (sz : Nat) (h_me : Nat) (q_me : Nat → Nat) (k_me : Nat → ClassId) (o_me : Ob) (y : Int32 × Ob) (h : f_X9_stopped o_me = some y) : CI l yX9_stopped cX9_stopped 1 (some .int) ({ frames := 0, cells := 0, slots := 0, locals := 0 } : Room) dC dI sz [.ref h_me] [wX9 h_me q_me k_me o_me] [tX9 k_me] y.1 [wX9 h_me q_me k_me y.2] := by
  refine CC_of (by decide) (Nat.le_of_ble_eq_true rfl) ?_
  intro p e s m below meth c A ls hx hb hml hr hlk hnm hown hts hX hK hP hD hA hl
  have hl : lv_has ls 1 [(0, .ref h_me)] := hl
  have hown : s.vm.findClass RX9 = some m.cls := hown
  have hw : Wd dC dI A s.heap [wX9 h_me q_me k_me o_me] s.heap [] := ⟨hP, hD, va_S.rf⟩
  generalize hQz : (MQ below (QI dC dI (fun r (_ : Unit) => r = y.1) (fun _ => Jn [wX9 h_me q_me k_me y.2]) (fun _ => Jt [tX9 k_me]) A) ([.ref h_me] : List Value).toArray s 0 0 A) = Qz
  clear hP hD hnm
  unfold f_X9_stopped at h
  refine lv_aload_n hx hb dX9_stopped_0 rfl (lv_at hl 0 rfl) ?_
  refine lv_iconst (v := 0) hx hb dX9_stopped_1 (by decide) ?_
  refine fpX9_0 hx hb hts hown hK hw 0 rfl kw1176 dX9_stopped_2 (fun H locs hw => ?_)
  obtain ⟨o1, eo1, h⟩ := z_lt h
  have hw : Wd dC dI A s.heap [wX9 h_me q_me k_me o1] H locs := by rw [eo1]; exact hw
  refine lv_aload_n hx hb dX9_stopped_5 rfl (lv_at hl 0 rfl) ?_
  refine fgX9_58 hx hb hts hown hK hw 0 rfl kw1234 dX9_stopped_6 ?_
  have hy := Option.some.inj h
  rw [← hQz, ← hy]
  exact xr_i (v := gI o1 58) hx hb hr rfl hlk hK hw dX9_stopped_9

def bk_X9_strength_24   (o_me : Ob) : Option (Int32 × Ob) :=
  (f_X9_tell o_me (-1 : Int32)).bind fun z3 =>
  some (z3.1, z3.2)
def f_X9_strength (o_me : Ob) (p0 : Int32) (p1 : Int32) (p2 : Int32) : Option (Int32 × Ob) :=
  zlt (sI o_me 0 (0 : Int32)) fun o1 =>
  (f_X9_isRace p1).bind fun z2 =>
  if z2 = (0 : Int32) then
  (bk_X9_strength_24   o1)
  else
  ((f_X9_in p2.toInt64 (0 : Int64) (9 : Int64)).bind fun z4 =>
  if z4 = (0 : Int32) then
  (bk_X9_strength_24   o1)
  else
  ((f_X9_isPerson o1 p0).bind fun z5 =>
  if z5 = (0 : Int32) then
  ((f_X9_tell o1 (-2 : Int32)).bind fun z6 =>
  some (z6.1, z6.2))
  else
  ((f_X9_change o1 (((36 : Int32) + ((4 : Int32) * p0)) + p1) p2).bind fun z7 =>
  some (z7.1, z7.2))))
set_option maxHeartbeats 4000000 in
set_option maxRecDepth 100000 in
theorem m_X9_strength (l : Launch) (dC : Nat → ClassId) (dI : Nat → Nat → Nat) (sz : Nat) (h_me : Nat) (q_me : Nat → Nat) (k_me : Nat → ClassId) (o_me : Ob) (p0 : Int32) (p1 : Int32) (p2 : Int32) (y : Int32 × Ob) (h : f_X9_strength o_me p0 p1 p2 = some y) : CI l yX9_strength cX9_strength 4 (some .int) ({ frames := 2, cells := 0, slots := 0, locals := 46 } : Room) dC dI sz [.ref h_me, .int p0, .int p1, .int p2] [wX9 h_me q_me k_me o_me] [tX9 k_me] y.1 [wX9 h_me q_me k_me y.2] := by
  refine CC_of (by decide) (Nat.le_of_ble_eq_true rfl) ?_
  intro p e s m below meth c A ls hx hb hml hr hlk hnm hown hts hX hK hP hD hA hl
  have hl : lv_has ls 4 [(0, .ref h_me), (1, .int p0), (2, .int p1), (3, .int p2)] := hl
  have hown : s.vm.findClass RX9 = some m.cls := hown
  have hw : Wd dC dI A s.heap [wX9 h_me q_me k_me o_me] s.heap [] := ⟨hP, hD, va_S.rf⟩
  generalize hQz : (MQ below (QI dC dI (fun r (_ : Unit) => r = y.1) (fun _ => Jn [wX9 h_me q_me k_me y.2]) (fun _ => Jt [tX9 k_me]) A) ([.ref h_me, .int p0, .int p1, .int p2] : List Value).toArray s 0 0 A) = Qz
  clear hP hD hnm
  have bk_24_0 : ∀ (o_me : Ob) (H : Heap) (locs : List Loc) (ls : Array Slot), bk_X9_strength_24   o_me = some y → Wd dC dI A s.heap [wX9 h_me q_me k_me o_me] H locs → lv_has ls 4 [(0, .ref h_me)] → W p l e ({ frames := 2, cells := 0, slots := 0, locals := 46 } : Room) s m ([.ref h_me, .int p0, .int p1, .int p2] : List Value).toArray below meth c H locs 0 0 Qz (F0 m 24 ls []) := by
    intro o_me H locs ls h hw hl
    unfold bk_X9_strength_24 at h
    refine lv_aload_n hx hb dX9_strength_24 rfl (lv_at hl 0 rfl) ?_
    refine lv_iconst (v := (-1)) hx hb dX9_strength_25 (by decide) ?_
    obtain ⟨z3, ez3, h⟩ := z_bd h
    refine xj_i (xrV (As := [.int (-1 : Int32)]) (rest := []) ⟨hx, hb, hml, hown, hts⟩ (m_X9_tell l dC dI _ h_me q_me k_me o_me (-1 : Int32) z3 ez3) kw1374 kw1371 kw1373 kw39 kw120 hd_X9_tell ⟨rfl, rfl⟩ rfl rfl ⟨rfl, rfl⟩ hX hK hw [0] (by decide) rfl rfl rfl rfl rfl hl.1 rfl rfl dX9_strength_26) hw hA [0] (by decide) rfl rfl (fun H locs hw => ?_)
    have hw : Wd dC dI A s.heap [wX9 h_me q_me k_me z3.2] H locs := hw
    have hy := Option.some.inj h
    rw [← hQz, ← hy]
    exact xr_i (v := z3.1) hx hb hr rfl hlk hK hw dX9_strength_29
  unfold f_X9_strength at h
  refine lv_aload_n hx hb dX9_strength_0 rfl (lv_at hl 0 rfl) ?_
  refine lv_iconst (v := 0) hx hb dX9_strength_1 (by decide) ?_
  refine fpX9_0 hx hb hts hown hK hw 0 rfl kw1176 dX9_strength_2 (fun H locs hw => ?_)
  obtain ⟨o1, eo1, h⟩ := z_lt h
  have hw : Wd dC dI A s.heap [wX9 h_me q_me k_me o1] H locs := by rw [eo1]; exact hw
  refine lv_iload_n hx hb dX9_strength_5 rfl (lv_at hl 2 rfl) ?_
  obtain ⟨z2, ez2, h⟩ := z_bd h
  refine xj_i (xrS (As := [.int p1]) (rest := []) ⟨hx, hb, hml, hown, hts⟩ (m_X9_isRace l dC dI _  p1 z2 ez2) kw1444 kw1442 kw1443 kw120 hd_X9_isRace ⟨rfl, rfl⟩ rfl rfl ⟨rfl, rfl⟩ hX hK hw [] (by decide) rfl rfl hl.1 rfl rfl dX9_strength_6) hw hA [] (by decide) rfl rfl (fun H locs hw => ?_)
  refine lv_if_eq (tgt := 24) hx hb dX9_strength_9 (by decide) (fun c => ?_) (fun c => ?_)
  · have h := z_t h c
    exact bk_24_0  o1 _ _ _ h hw (lv_sub hl [0] rfl)
  · have h := z_f h c
    refine lv_iload_n hx hb dX9_strength_12 rfl (lv_at hl 3 rfl) ?_
    refine lv_i2l hx hb dX9_strength_13 rfl ?_
    refine lv_lconst (v := 0) hx hb dX9_strength_14 (by decide) ?_
    refine lv_ldc2 (v := 9) hx hb hown (hts _ kw1398) dX9_strength_15 ?_
    obtain ⟨z4, ez4, h⟩ := z_bd h
    refine xj_i (xrS (As := [.long p2.toInt64, .long (0 : Int64), .long (9 : Int64)]) (rest := []) ⟨hx, hb, hml, hown, hts⟩ (m_X9_in l dC dI _  p2.toInt64 (0 : Int64) (9 : Int64) z4 ez4) kw1385 kw1383 kw1384 kw120 hd_X9_in ⟨rfl, rfl⟩ rfl rfl ⟨rfl, rfl⟩ hX hK hw [] (by decide) rfl rfl hl.1 rfl rfl dX9_strength_18) hw hA [] (by decide) rfl rfl (fun H locs hw => ?_)
    refine lv_if_ne (tgt := 30) hx hb dX9_strength_21 (by decide) (fun c => ?_) (fun c => ?_)
    · have h := z_f h c
      refine lv_aload_n hx hb dX9_strength_30 rfl (lv_at hl 0 rfl) ?_
      refine lv_iload_n hx hb dX9_strength_31 rfl (lv_at hl 1 rfl) ?_
      obtain ⟨z5, ez5, h⟩ := z_bd h
      refine xj_i (xrV (As := [.int p0]) (rest := []) ⟨hx, hb, hml, hown, hts⟩ (m_X9_isPerson l dC dI _ h_me q_me k_me o1 p0 z5 ez5) kw1402 kw1399 kw1401 kw42 kw120 hd_X9_isPerson ⟨rfl, rfl⟩ rfl rfl ⟨rfl, rfl⟩ hX hK hw [0] (by decide) rfl rfl rfl rfl rfl hl.1 rfl rfl dX9_strength_32) hw hA [0] (by decide) rfl rfl (fun H locs hw => ?_)
      have hw : Wd dC dI A s.heap [wX9 h_me q_me k_me o1] H locs := hw
      refine lv_if_eq (tgt := 54) hx hb dX9_strength_35 (by decide) (fun c => ?_) (fun c => ?_)
      · have h := z_t h c
        refine lv_aload_n hx hb dX9_strength_54 rfl (lv_at hl 0 rfl) ?_
        refine lv_bipush (v := (-2)) hx hb dX9_strength_55 (by decide) ?_
        obtain ⟨z6, ez6, h⟩ := z_bd h
        refine xj_i (xrV (As := [.int (-2 : Int32)]) (rest := []) ⟨hx, hb, hml, hown, hts⟩ (m_X9_tell l dC dI _ h_me q_me k_me o1 (-2 : Int32) z6 ez6) kw1374 kw1371 kw1373 kw39 kw120 hd_X9_tell ⟨rfl, rfl⟩ rfl rfl ⟨rfl, rfl⟩ hX hK hw [0] (by decide) rfl rfl rfl rfl rfl hl.1 rfl rfl dX9_strength_57) hw hA [0] (by decide) rfl rfl (fun H locs hw => ?_)
        have hw : Wd dC dI A s.heap [wX9 h_me q_me k_me z6.2] H locs := hw
        have hy := Option.some.inj h
        rw [← hQz, ← hy]
        exact xr_i (v := z6.1) hx hb hr rfl hlk hK hw dX9_strength_60
      · have h := z_f h c
        refine lv_aload_n hx hb dX9_strength_38 rfl (lv_at hl 0 rfl) ?_
        refine lv_bipush (v := 36) hx hb dX9_strength_39 (by decide) ?_
        refine lv_iconst (v := 4) hx hb dX9_strength_41 (by decide) ?_
        refine lv_iload_n hx hb dX9_strength_42 rfl (lv_at hl 1 rfl) ?_
        refine lv_imul hx hb dX9_strength_43 ?_
        refine lv_iadd hx hb dX9_strength_44 ?_
        refine lv_iload_n hx hb dX9_strength_45 rfl (lv_at hl 2 rfl) ?_
        refine lv_iadd hx hb dX9_strength_46 ?_
        refine lv_iload_n hx hb dX9_strength_47 rfl (lv_at hl 3 rfl) ?_
        obtain ⟨z7, ez7, h⟩ := z_bd h
        refine xj_i (xrV (As := [.int (((36 : Int32) + ((4 : Int32) * p0)) + p1), .int p2]) (rest := []) ⟨hx, hb, hml, hown, hts⟩ (m_X9_change l dC dI _ h_me q_me k_me o1 (((36 : Int32) + ((4 : Int32) * p0)) + p1) p2 z7 ez7) kw1449 kw1446 kw1448 kw49 kw120 hd_X9_change ⟨rfl, rfl⟩ rfl rfl ⟨rfl, rfl⟩ hX hK hw [0] (by decide) rfl rfl rfl rfl rfl hl.1 rfl rfl dX9_strength_48) hw hA [0] (by decide) rfl rfl (fun H locs hw => ?_)
        have hw : Wd dC dI A s.heap [wX9 h_me q_me k_me z7.2] H locs := hw
        refine lv_goto (tgt := 60) hx hb dX9_strength_51 (by decide) ?_
        have hy := Option.some.inj h
        rw [← hQz, ← hy]
        exact xr_i (v := z7.1) hx hb hr rfl hlk hK hw dX9_strength_60
    · have h := z_t h c
      exact bk_24_0  o1 _ _ _ h hw (lv_sub hl [0] rfl)

def f_X9_take (o_me : Ob) (p0 : Int32) : Option (Int32 × Ob) :=
  zlt (sI o_me 0 (0 : Int32)) fun o1 =>
  (f_X9_takeNow o1 p0).bind fun z2 =>
  (f_X9_tell z2.2 z2.1).bind fun z3 =>
  some (z3.1, z3.2)
set_option maxHeartbeats 4000000 in
set_option maxRecDepth 100000 in
theorem m_X9_take (l : Launch) (dC : Nat → ClassId) (dI : Nat → Nat → Nat) (sz : Nat) (h_me : Nat) (q_me : Nat → Nat) (k_me : Nat → ClassId) (o_me : Ob) (p0 : Int32) (y : Int32 × Ob) (h : f_X9_take o_me p0 = some y) : CI l yX9_take cX9_take 2 (some .int) ({ frames := 3, cells := 0, slots := 0, locals := 68 } : Room) dC dI sz [.ref h_me, .int p0] [wX9 h_me q_me k_me o_me] [tX9 k_me] y.1 [wX9 h_me q_me k_me y.2] := by
  refine CC_of (by decide) (Nat.le_of_ble_eq_true rfl) ?_
  intro p e s m below meth c A ls hx hb hml hr hlk hnm hown hts hX hK hP hD hA hl
  have hl : lv_has ls 2 [(0, .ref h_me), (1, .int p0)] := hl
  have hown : s.vm.findClass RX9 = some m.cls := hown
  have hw : Wd dC dI A s.heap [wX9 h_me q_me k_me o_me] s.heap [] := ⟨hP, hD, va_S.rf⟩
  generalize hQz : (MQ below (QI dC dI (fun r (_ : Unit) => r = y.1) (fun _ => Jn [wX9 h_me q_me k_me y.2]) (fun _ => Jt [tX9 k_me]) A) ([.ref h_me, .int p0] : List Value).toArray s 0 0 A) = Qz
  clear hP hD hnm
  unfold f_X9_take at h
  refine lv_aload_n hx hb dX9_take_0 rfl (lv_at hl 0 rfl) ?_
  refine lv_iconst (v := 0) hx hb dX9_take_1 (by decide) ?_
  refine fpX9_0 hx hb hts hown hK hw 0 rfl kw1176 dX9_take_2 (fun H locs hw => ?_)
  obtain ⟨o1, eo1, h⟩ := z_lt h
  have hw : Wd dC dI A s.heap [wX9 h_me q_me k_me o1] H locs := by rw [eo1]; exact hw
  refine lv_aload_n hx hb dX9_take_5 rfl (lv_at hl 0 rfl) ?_
  refine lv_aload_n hx hb dX9_take_6 rfl (lv_at hl 0 rfl) ?_
  refine lv_iload_n hx hb dX9_take_7 rfl (lv_at hl 1 rfl) ?_
  obtain ⟨z2, ez2, h⟩ := z_bd h
  refine xj_i (xrV (As := [.int p0]) (rest := [.ref h_me]) ⟨hx, hb, hml, hown, hts⟩ (m_X9_takeNow l dC dI _ h_me q_me k_me o1 p0 z2 ez2) kw1668 kw1665 kw1667 kw84 kw120 hd_X9_takeNow ⟨rfl, rfl⟩ rfl rfl ⟨rfl, rfl⟩ hX hK hw [0] (by decide) rfl rfl rfl rfl rfl hl.1 rfl rfl dX9_take_8) hw hA [0] (by decide) rfl rfl (fun H locs hw => ?_)
  have hw : Wd dC dI A s.heap [wX9 h_me q_me k_me z2.2] H locs := hw
  obtain ⟨z3, ez3, h⟩ := z_bd h
  refine xj_i (xrV (As := [.int z2.1]) (rest := []) ⟨hx, hb, hml, hown, hts⟩ (m_X9_tell l dC dI _ h_me q_me k_me z2.2 z2.1 z3 ez3) kw1374 kw1371 kw1373 kw39 kw120 hd_X9_tell ⟨rfl, rfl⟩ rfl rfl ⟨rfl, rfl⟩ hX hK hw [0] (by decide) rfl rfl rfl rfl rfl hl.1 rfl rfl dX9_take_11) hw hA [0] (by decide) rfl rfl (fun H locs hw => ?_)
  have hw : Wd dC dI A s.heap [wX9 h_me q_me k_me z3.2] H locs := hw
  have hy := Option.some.inj h
  rw [← hQz, ← hy]
  exact xr_i (v := z3.1) hx hb hr rfl hlk hK hw dX9_take_14

def bk_X9_terms_60   (v1 : Int32) (v2 : Int32) (s0 : Int32) (o_me : Ob) : Option (Int32 × Ob) :=
  if s0 = (0 : Int32) then
  ((f_X9_tell o_me (-1 : Int32)).bind fun z4 =>
  some (z4.1, z4.2))
  else
  (zlt (sI o_me 8 (0 : Int32)) fun o2 =>
  (f_X9_change o2 ((4 : Int32) + v1) v2).bind fun z3 =>
  some (z3.1, z3.2))
def bk_X9_terms_59   (v1 : Int32) (v2 : Int32) (o_me : Ob) : Option (Int32 × Ob) :=
  bk_X9_terms_60   v1 v2 (0 : Int32) o_me
def f_X9_terms (o_me : Ob) (p0 : Int32) (p1 : Int32) : Option (Int32 × Ob) :=
  zlt (sI o_me 0 (0 : Int32)) fun o1 =>
  if p0 = (0 : Int32) then
  ((f_X9_in p1.toInt64 (0 : Int64) (999 : Int64)).bind fun z7 =>
  bk_X9_terms_60   p0 p1 z7 o1)
  else
  (if p0 = (1 : Int32) then
  ((f_X9_in p1.toInt64 (0 : Int64) (10 : Int64)).bind fun z6 =>
  bk_X9_terms_60   p0 p1 z6 o1)
  else
  (if p0 = (2 : Int32) then
  ((f_X9_in p1.toInt64 (0 : Int64) (9 : Int64)).bind fun z5 =>
  if z5 = (0 : Int32) then
  (bk_X9_terms_59   p0 p1 o1)
  else
  (bk_X9_terms_60   p0 p1 (1 : Int32) o1))
  else
  (bk_X9_terms_59   p0 p1 o1)))
set_option maxHeartbeats 4000000 in
set_option maxRecDepth 100000 in
theorem m_X9_terms (l : Launch) (dC : Nat → ClassId) (dI : Nat → Nat → Nat) (sz : Nat) (h_me : Nat) (q_me : Nat → Nat) (k_me : Nat → ClassId) (o_me : Ob) (p0 : Int32) (p1 : Int32) (y : Int32 × Ob) (h : f_X9_terms o_me p0 p1 = some y) : CI l yX9_terms cX9_terms 4 (some .int) ({ frames := 1, cells := 0, slots := 0, locals := 25 } : Room) dC dI sz [.ref h_me, .int p0, .int p1] [wX9 h_me q_me k_me o_me] [tX9 k_me] y.1 [wX9 h_me q_me k_me y.2] := by
  refine CC_of (by decide) (Nat.le_of_ble_eq_true rfl) ?_
  intro p e s m below meth c A ls hx hb hml hr hlk hnm hown hts hX hK hP hD hA hl
  have hl : lv_has ls 4 [(0, .ref h_me), (1, .int p0), (2, .int p1)] := hl
  have hown : s.vm.findClass RX9 = some m.cls := hown
  have hw : Wd dC dI A s.heap [wX9 h_me q_me k_me o_me] s.heap [] := ⟨hP, hD, va_S.rf⟩
  generalize hQz : (MQ below (QI dC dI (fun r (_ : Unit) => r = y.1) (fun _ => Jn [wX9 h_me q_me k_me y.2]) (fun _ => Jt [tX9 k_me]) A) ([.ref h_me, .int p0, .int p1] : List Value).toArray s 0 0 A) = Qz
  clear hP hD hnm
  have bk_60_1 : ∀ (v1 : Int32) (v2 : Int32) (s0 : Int32) (o_me : Ob) (H : Heap) (locs : List Loc) (ls : Array Slot), bk_X9_terms_60   v1 v2 s0 o_me = some y → Wd dC dI A s.heap [wX9 h_me q_me k_me o_me] H locs → lv_has ls 4 [(0, .ref h_me), (1, .int v1), (2, .int v2)] → W p l e ({ frames := 1, cells := 0, slots := 0, locals := 25 } : Room) s m ([.ref h_me, .int p0, .int p1] : List Value).toArray below meth c H locs 0 0 Qz (F0 m 60 ls [.int s0]) := by
    intro v1 v2 s0 o_me H locs ls h hw hl
    unfold bk_X9_terms_60 at h
    refine lv_istore_n (lv' := [(3, .int s0), (0, .ref h_me), (1, .int v1), (2, .int v2)]) hx hb dX9_terms_60 rfl hl (by decide) rfl (fun ls hl => ?_)
    refine lv_iload_n hx hb dX9_terms_61 rfl (lv_at hl 0 rfl) ?_
    refine lv_if_ne (tgt := 71) hx hb dX9_terms_62 (by decide) (fun c => ?_) (fun c => ?_)
    · have h := z_f h c
      refine lv_aload_n hx hb dX9_terms_71 rfl (lv_at hl 1 rfl) ?_
      refine lv_iconst (v := 0) hx hb dX9_terms_72 (by decide) ?_
      refine fpX9_8 hx hb hts hown hK hw 0 rfl kw1184 dX9_terms_73 (fun H locs hw => ?_)
      obtain ⟨o2, eo2, h⟩ := z_lt h
      have hw : Wd dC dI A s.heap [wX9 h_me q_me k_me o2] H locs := by rw [eo2]; exact hw
      refine lv_aload_n hx hb dX9_terms_76 rfl (lv_at hl 1 rfl) ?_
      refine lv_iconst (v := 4) hx hb dX9_terms_77 (by decide) ?_
      refine lv_iload_n hx hb dX9_terms_78 rfl (lv_at hl 2 rfl) ?_
      refine lv_iadd hx hb dX9_terms_79 ?_
      refine lv_iload_n hx hb dX9_terms_80 rfl (lv_at hl 3 rfl) ?_
      obtain ⟨z3, ez3, h⟩ := z_bd h
      refine xj_i (xrV (As := [.int ((4 : Int32) + v1), .int v2]) (rest := []) ⟨hx, hb, hml, hown, hts⟩ (m_X9_change l dC dI _ h_me q_me k_me o2 ((4 : Int32) + v1) v2 z3 ez3) kw1449 kw1446 kw1448 kw49 kw120 hd_X9_change ⟨rfl, rfl⟩ rfl rfl ⟨rfl, rfl⟩ hX hK hw [0] (by decide) rfl rfl rfl rfl rfl hl.1 rfl rfl dX9_terms_81) hw hA [0] (by decide) rfl rfl (fun H locs hw => ?_)
      have hw : Wd dC dI A s.heap [wX9 h_me q_me k_me z3.2] H locs := hw
      have hy := Option.some.inj h
      rw [← hQz, ← hy]
      exact xr_i (v := z3.1) hx hb hr rfl hlk hK hw dX9_terms_84
    · have h := z_t h c
      refine lv_aload_n hx hb dX9_terms_65 rfl (lv_at hl 1 rfl) ?_
      refine lv_iconst (v := (-1)) hx hb dX9_terms_66 (by decide) ?_
      obtain ⟨z4, ez4, h⟩ := z_bd h
      refine xj_i (xrV (As := [.int (-1 : Int32)]) (rest := []) ⟨hx, hb, hml, hown, hts⟩ (m_X9_tell l dC dI _ h_me q_me k_me o_me (-1 : Int32) z4 ez4) kw1374 kw1371 kw1373 kw39 kw120 hd_X9_tell ⟨rfl, rfl⟩ rfl rfl ⟨rfl, rfl⟩ hX hK hw [0] (by decide) rfl rfl rfl rfl rfl hl.1 rfl rfl dX9_terms_67) hw hA [0] (by decide) rfl rfl (fun H locs hw => ?_)
      have hw : Wd dC dI A s.heap [wX9 h_me q_me k_me z4.2] H locs := hw
      have hy := Option.some.inj h
      rw [← hQz, ← hy]
      exact xr_i (v := z4.1) hx hb hr rfl hlk hK hw dX9_terms_70
  have bk_59_0 : ∀ (v1 : Int32) (v2 : Int32) (o_me : Ob) (H : Heap) (locs : List Loc) (ls : Array Slot), bk_X9_terms_59   v1 v2 o_me = some y → Wd dC dI A s.heap [wX9 h_me q_me k_me o_me] H locs → lv_has ls 4 [(0, .ref h_me), (1, .int v1), (2, .int v2)] → W p l e ({ frames := 1, cells := 0, slots := 0, locals := 25 } : Room) s m ([.ref h_me, .int p0, .int p1] : List Value).toArray below meth c H locs 0 0 Qz (F0 m 59 ls []) := by
    intro v1 v2 o_me H locs ls h hw hl
    unfold bk_X9_terms_59 at h
    refine lv_iconst (v := 0) hx hb dX9_terms_59 (by decide) ?_
    exact bk_60_1  v1 v2 (0 : Int32) o_me _ _ _ h hw (lv_sub hl [0, 1, 2] rfl)
  unfold f_X9_terms at h
  refine lv_aload_n hx hb dX9_terms_0 rfl (lv_at hl 0 rfl) ?_
  refine lv_iconst (v := 0) hx hb dX9_terms_1 (by decide) ?_
  refine fpX9_0 hx hb hts hown hK hw 0 rfl kw1176 dX9_terms_2 (fun H locs hw => ?_)
  obtain ⟨o1, eo1, h⟩ := z_lt h
  have hw : Wd dC dI A s.heap [wX9 h_me q_me k_me o1] H locs := by rw [eo1]; exact hw
  refine lv_iload_n hx hb dX9_terms_5 rfl (lv_at hl 1 rfl) ?_
  refine lv_if_ne (tgt := 21) hx hb dX9_terms_6 (by decide) (fun c => ?_) (fun c => ?_)
  · have h := z_f h c
    refine lv_iload_n hx hb dX9_terms_21 rfl (lv_at hl 1 rfl) ?_
    refine lv_iconst (v := 1) hx hb dX9_terms_22 (by decide) ?_
    refine lv_icmp_ne (tgt := 38) hx hb dX9_terms_23 (by decide) (fun c => ?_) (fun c => ?_)
    · have h := z_f h c
      refine lv_iload_n hx hb dX9_terms_38 rfl (lv_at hl 1 rfl) ?_
      refine lv_iconst (v := 2) hx hb dX9_terms_39 (by decide) ?_
      refine lv_icmp_ne (tgt := 59) hx hb dX9_terms_40 (by decide) (fun c => ?_) (fun c => ?_)
      · have h := z_f h c
        exact bk_59_0  p0 p1 o1 _ _ _ h hw (lv_sub hl [0, 1, 2] rfl)
      · have h := z_t h c
        refine lv_iload_n hx hb dX9_terms_43 rfl (lv_at hl 2 rfl) ?_
        refine lv_i2l hx hb dX9_terms_44 rfl ?_
        refine lv_lconst (v := 0) hx hb dX9_terms_45 (by decide) ?_
        refine lv_ldc2 (v := 9) hx hb hown (hts _ kw1398) dX9_terms_46 ?_
        obtain ⟨z5, ez5, h⟩ := z_bd h
        refine xj_i (xrS (As := [.long p1.toInt64, .long (0 : Int64), .long (9 : Int64)]) (rest := []) ⟨hx, hb, hml, hown, hts⟩ (m_X9_in l dC dI _  p1.toInt64 (0 : Int64) (9 : Int64) z5 ez5) kw1385 kw1383 kw1384 kw120 hd_X9_in ⟨rfl, rfl⟩ rfl rfl ⟨rfl, rfl⟩ hX hK hw [] (by decide) rfl rfl hl.1 rfl rfl dX9_terms_49) hw hA [] (by decide) rfl rfl (fun H locs hw => ?_)
        refine lv_if_eq (tgt := 59) hx hb dX9_terms_52 (by decide) (fun c => ?_) (fun c => ?_)
        · have h := z_t h c
          exact bk_59_0  p0 p1 o1 _ _ _ h hw (lv_sub hl [0, 1, 2] rfl)
        · have h := z_f h c
          refine lv_iconst (v := 1) hx hb dX9_terms_55 (by decide) ?_
          refine lv_goto (tgt := 60) hx hb dX9_terms_56 (by decide) ?_
          exact bk_60_1  p0 p1 (1 : Int32) o1 _ _ _ h hw (lv_sub hl [0, 1, 2] rfl)
    · have h := z_t h c
      refine lv_iload_n hx hb dX9_terms_26 rfl (lv_at hl 2 rfl) ?_
      refine lv_i2l hx hb dX9_terms_27 rfl ?_
      refine lv_lconst (v := 0) hx hb dX9_terms_28 (by decide) ?_
      refine lv_ldc2 (v := 10) hx hb hown (hts _ kw1468) dX9_terms_29 ?_
      obtain ⟨z6, ez6, h⟩ := z_bd h
      refine xj_i (xrS (As := [.long p1.toInt64, .long (0 : Int64), .long (10 : Int64)]) (rest := []) ⟨hx, hb, hml, hown, hts⟩ (m_X9_in l dC dI _  p1.toInt64 (0 : Int64) (10 : Int64) z6 ez6) kw1385 kw1383 kw1384 kw120 hd_X9_in ⟨rfl, rfl⟩ rfl rfl ⟨rfl, rfl⟩ hX hK hw [] (by decide) rfl rfl hl.1 rfl rfl dX9_terms_32) hw hA [] (by decide) rfl rfl (fun H locs hw => ?_)
      refine lv_goto (tgt := 60) hx hb dX9_terms_35 (by decide) ?_
      exact bk_60_1  p0 p1 z6 o1 _ _ _ h hw (lv_sub hl [0, 1, 2] rfl)
  · have h := z_t h c
    refine lv_iload_n hx hb dX9_terms_9 rfl (lv_at hl 2 rfl) ?_
    refine lv_i2l hx hb dX9_terms_10 rfl ?_
    refine lv_lconst (v := 0) hx hb dX9_terms_11 (by decide) ?_
    refine lv_ldc2 (v := 999) hx hb hown (hts _ kw1467) dX9_terms_12 ?_
    obtain ⟨z7, ez7, h⟩ := z_bd h
    refine xj_i (xrS (As := [.long p1.toInt64, .long (0 : Int64), .long (999 : Int64)]) (rest := []) ⟨hx, hb, hml, hown, hts⟩ (m_X9_in l dC dI _  p1.toInt64 (0 : Int64) (999 : Int64) z7 ez7) kw1385 kw1383 kw1384 kw120 hd_X9_in ⟨rfl, rfl⟩ rfl rfl ⟨rfl, rfl⟩ hX hK hw [] (by decide) rfl rfl hl.1 rfl rfl dX9_terms_15) hw hA [] (by decide) rfl rfl (fun H locs hw => ?_)
    refine lv_goto (tgt := 60) hx hb dX9_terms_18 (by decide) ?_
    exact bk_60_1  p0 p1 z7 o1 _ _ _ h hw (lv_sub hl [0, 1, 2] rfl)

def f_X9_undo (o_me : Ob) : Option (Int32 × Ob) :=
  zlt (sI o_me 0 (0 : Int32)) fun o1 =>
  if (gI o1 8) = (0 : Int32) then
  ((f_X9_tell o1 (-3 : Int32)).bind fun z6 =>
  some (z6.1, z6.2))
  else
  (zlt (sI o1 8 ((gI o1 8) - (1 : Int32))) fun o2 =>
  (f_X9_putBack o2 (gI o2 8)).bind fun z3 =>
  zgd (zin (gI z3 8) 16) <|
  (f_X9_tell z3 (gA z3 7 (gI z3 8).toNatClampNeg)).bind fun z5 =>
  some (z5.1, z5.2))
set_option maxHeartbeats 4000000 in
set_option maxRecDepth 100000 in
theorem m_X9_undo (l : Launch) (dC : Nat → ClassId) (dI : Nat → Nat → Nat) (sz : Nat) (h_me : Nat) (q_me : Nat → Nat) (k_me : Nat → ClassId) (o_me : Ob) (y : Int32 × Ob) (h : f_X9_undo o_me = some y) : CI l yX9_undo cX9_undo 1 (some .int) ({ frames := 1, cells := 0, slots := 0, locals := 22 } : Room) dC dI sz [.ref h_me] [wX9 h_me q_me k_me o_me] [tX9 k_me] y.1 [wX9 h_me q_me k_me y.2] := by
  refine CC_of (by decide) (Nat.le_of_ble_eq_true rfl) ?_
  intro p e s m below meth c A ls hx hb hml hr hlk hnm hown hts hX hK hP hD hA hl
  have hl : lv_has ls 1 [(0, .ref h_me)] := hl
  have hown : s.vm.findClass RX9 = some m.cls := hown
  have hw : Wd dC dI A s.heap [wX9 h_me q_me k_me o_me] s.heap [] := ⟨hP, hD, va_S.rf⟩
  generalize hQz : (MQ below (QI dC dI (fun r (_ : Unit) => r = y.1) (fun _ => Jn [wX9 h_me q_me k_me y.2]) (fun _ => Jt [tX9 k_me]) A) ([.ref h_me] : List Value).toArray s 0 0 A) = Qz
  clear hP hD hnm
  unfold f_X9_undo at h
  refine lv_aload_n hx hb dX9_undo_0 rfl (lv_at hl 0 rfl) ?_
  refine lv_iconst (v := 0) hx hb dX9_undo_1 (by decide) ?_
  refine fpX9_0 hx hb hts hown hK hw 0 rfl kw1176 dX9_undo_2 (fun H locs hw => ?_)
  obtain ⟨o1, eo1, h⟩ := z_lt h
  have hw : Wd dC dI A s.heap [wX9 h_me q_me k_me o1] H locs := by rw [eo1]; exact hw
  refine lv_aload_n hx hb dX9_undo_5 rfl (lv_at hl 0 rfl) ?_
  refine fgX9_8 hx hb hts hown hK hw 0 rfl kw1184 dX9_undo_6 ?_
  refine lv_if_ne (tgt := 19) hx hb dX9_undo_9 (by decide) (fun c => ?_) (fun c => ?_)
  · have h := z_f h c
    refine lv_aload_n hx hb dX9_undo_19 rfl (lv_at hl 0 rfl) ?_
    refine lv_dup hx hb dX9_undo_20 rfl ?_
    refine fgX9_8 hx hb hts hown hK hw 0 rfl kw1184 dX9_undo_21 ?_
    refine lv_iconst (v := 1) hx hb dX9_undo_24 (by decide) ?_
    refine lv_isub hx hb dX9_undo_25 ?_
    refine fpX9_8 hx hb hts hown hK hw 0 rfl kw1184 dX9_undo_26 (fun H locs hw => ?_)
    obtain ⟨o2, eo2, h⟩ := z_lt h
    have hw : Wd dC dI A s.heap [wX9 h_me q_me k_me o2] H locs := by rw [eo2]; exact hw
    refine lv_aload_n hx hb dX9_undo_29 rfl (lv_at hl 0 rfl) ?_
    refine lv_aload_n hx hb dX9_undo_30 rfl (lv_at hl 0 rfl) ?_
    refine fgX9_8 hx hb hts hown hK hw 0 rfl kw1184 dX9_undo_31 ?_
    obtain ⟨z3, ez3, h⟩ := z_bd h
    refine xj_v (xrV (As := [.int (gI o2 8)]) (rest := []) ⟨hx, hb, hml, hown, hts⟩ (m_X9_putBack l dC dI _ h_me q_me k_me o2 (gI o2 8) z3 ez3) kw1378 kw1375 kw1377 kw40 kw120 hd_X9_putBack ⟨rfl, rfl⟩ rfl rfl ⟨rfl, rfl⟩ hX hK hw [0] (by decide) rfl rfl rfl rfl rfl hl.1 rfl rfl dX9_undo_34) hw hA [0] (by decide) rfl rfl (fun H locs hw => ?_)
    have hw : Wd dC dI A s.heap [wX9 h_me q_me k_me z3] H locs := hw
    refine lv_aload_n hx hb dX9_undo_37 rfl (lv_at hl 0 rfl) ?_
    refine lv_aload_n hx hb dX9_undo_38 rfl (lv_at hl 0 rfl) ?_
    refine fgX9_7 hx hb hts hown hK hw 0 rfl kw1183 dX9_undo_39 ?_
    refine lv_aload_n hx hb dX9_undo_42 rfl (lv_at hl 0 rfl) ?_
    refine fgX9_8 hx hb hts hown hK hw 0 rfl kw1184 dX9_undo_43 ?_
    obtain ⟨g4, h⟩ := z_gd h
    refine faX9_7 hx hb hK hw 0 rfl rfl g4 dX9_undo_46 ?_
    obtain ⟨z5, ez5, h⟩ := z_bd h
    refine xj_i (xrV (As := [.int (gA z3 7 (gI z3 8).toNatClampNeg)]) (rest := []) ⟨hx, hb, hml, hown, hts⟩ (m_X9_tell l dC dI _ h_me q_me k_me z3 (gA z3 7 (gI z3 8).toNatClampNeg) z5 ez5) kw1374 kw1371 kw1373 kw39 kw120 hd_X9_tell ⟨rfl, rfl⟩ rfl rfl ⟨rfl, rfl⟩ hX hK hw [0] (by decide) rfl rfl rfl rfl rfl hl.1 rfl rfl dX9_undo_47) hw hA [0] (by decide) rfl rfl (fun H locs hw => ?_)
    have hw : Wd dC dI A s.heap [wX9 h_me q_me k_me z5.2] H locs := hw
    have hy := Option.some.inj h
    rw [← hQz, ← hy]
    exact xr_i (v := z5.1) hx hb hr rfl hlk hK hw dX9_undo_50
  · have h := z_t h c
    refine lv_aload_n hx hb dX9_undo_12 rfl (lv_at hl 0 rfl) ?_
    refine lv_bipush (v := (-3)) hx hb dX9_undo_13 (by decide) ?_
    obtain ⟨z6, ez6, h⟩ := z_bd h
    refine xj_i (xrV (As := [.int (-3 : Int32)]) (rest := []) ⟨hx, hb, hml, hown, hts⟩ (m_X9_tell l dC dI _ h_me q_me k_me o1 (-3 : Int32) z6 ez6) kw1374 kw1371 kw1373 kw39 kw120 hd_X9_tell ⟨rfl, rfl⟩ rfl rfl ⟨rfl, rfl⟩ hX hK hw [0] (by decide) rfl rfl rfl rfl rfl hl.1 rfl rfl dX9_undo_15) hw hA [0] (by decide) rfl rfl (fun H locs hw => ?_)
    have hw : Wd dC dI A s.heap [wX9 h_me q_me k_me z6.2] H locs := hw
    have hy := Option.some.inj h
    rw [← hQz, ← hy]
    exact xr_i (v := z6.1) hx hb hr rfl hlk hK hw dX9_undo_18

