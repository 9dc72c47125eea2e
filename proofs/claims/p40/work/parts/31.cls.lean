def bk_X1_passedYear_53 (o_me : Ob) (o_me_isles : Ob) (o_pool : List CR) (rec_12_0 : Option Nat × Int32 × Int32 × Ob × Ob → Option (Int32 × Ob × Ob)) (v1 : Option Nat) (v2 : Int32) (v3 : Int32) (o_me_isles_now : Ob) (o_me_machine : Ob) : Option (Int32 × Ob × Ob) :=
  zlt (v3 + (1 : Int32)) fun x4 =>
  rec_12_0 (v1, v2, x4, o_me_isles_now, o_me_machine)
def lb_X1_passedYear_12 (o_me : Ob) (o_me_isles : Ob) (o_pool : List CR)  (rec_12_0 : Option Nat × Int32 × Int32 × Ob × Ob → Option (Int32 × Ob × Ob)) (v1 : Option Nat) (v2 : Int32) (v3 : Int32) (o_me_isles_now : Ob) (o_me_machine : Ob) : Option (Int32 × Ob × Ob) :=
  if (gI o_me_isles 7) ≤ v3 then
  (zlt (sI o_me_isles_now 4 ((gI o_me_isles_now 4) + (1 : Int32))) fun o2 =>
  some (v2, o2, o_me_machine))
  else
  ((f_X1_hasTradeOfLower o_me o_me_isles o_me_isles_now v3).bind fun z3 =>
  if z3 = (0 : Int32) then
  (bk_X1_passedYear_53 o_me o_me_isles o_pool rec_12_0 v1 v2 v3 o_me_isles_now o_me_machine)
  else
  ((f_X1_turnsTo_Q o_me o_me_isles o_me_isles_now o_me_machine o_pool v1 v3 (0 : Int32)).bind fun z5 =>
  zgd (zin v3 7) <|
  zlt (tA o_me_isles_now 0 v3.toNatClampNeg z5.1) fun o7 =>
  zlt (v2 + (1 : Int32)) fun x8 =>
  bk_X1_passedYear_53 o_me o_me_isles o_pool rec_12_0 v1 x8 v3 o7 z5.2))
def lp_X1_passedYear_12 (o_me : Ob) (o_me_isles : Ob) (o_pool : List CR)  : Nat → (Option Nat × Int32 × Int32 × Ob × Ob) → Option (Int32 × Ob × Ob) := zit (fun rec a => lb_X1_passedYear_12 o_me o_me_isles o_pool  rec a.1 a.2.1 a.2.2.1 a.2.2.2.1 a.2.2.2.2)
def f_X1_passedYear (o_me : Ob) (o_me_isles : Ob) (o_me_isles_now : Ob) (o_me_machine : Ob) (o_pool : List CR) : Option (Int32 × Ob × Ob) :=
  (f_X2_lawInForce o_me_isles).bind fun z1 =>
  lp_X1_passedYear_12 o_me o_me_isles o_pool  zfu (z1, (0 : Int32), (0 : Int32), o_me_isles_now, o_me_machine)
set_option maxHeartbeats 4000000 in
set_option maxRecDepth 100000 in
theorem m_X1_passedYear (l : Launch) (dC : Nat → ClassId) (dI : Nat → Nat → Nat) (sz : Nat) (h_me : Nat) (h_me_isles : Nat) (h_me_machine : Nat) (h_me_isles_now : Nat) (q_me : Nat → Nat) (k_me : Nat → ClassId) (q_me_isles : Nat → Nat) (k_me_isles : Nat → ClassId) (q_me_isles_now : Nat → Nat) (k_me_isles_now : Nat → ClassId) (q_me_machine : Nat → Nat) (k_me_machine : Nat → ClassId) (o_me : Ob) (o_me_isles : Ob) (o_me_isles_now : Ob) (o_me_machine : Ob) (o_pool : List CR) (y : Int32 × Ob × Ob) (h : f_X1_passedYear o_me o_me_isles o_me_isles_now o_me_machine o_pool = some y) : CI l yX1_passedYear cX1_passedYear 4 (some .int) ({ frames := 4, cells := 0, slots := 0, locals := 109 } : Room) dC dI sz [.ref h_me] [wX1 h_me h_me_isles h_me_machine q_me k_me o_me, wX2 h_me_isles h_me_isles_now q_me_isles k_me_isles o_me_isles, wX4 h_me_isles_now q_me_isles_now k_me_isles_now o_me_isles_now, wX3 h_me_machine q_me_machine k_me_machine o_me_machine, wPL o_pool] [tX1 k_me, tX2 k_me_isles, tX4 k_me_isles_now, tX3 k_me_machine, tPL o_pool] y.1 [wX1 h_me h_me_isles h_me_machine q_me k_me o_me, wX2 h_me_isles h_me_isles_now q_me_isles k_me_isles o_me_isles, wX4 h_me_isles_now q_me_isles_now k_me_isles_now y.2.1, wX3 h_me_machine q_me_machine k_me_machine y.2.2, wPL o_pool] := by
  refine CC_of (by decide) (Nat.le_of_ble_eq_true rfl) ?_
  intro p e s m below meth c A ls hx hb hml hr hlk hnm hown hts hX hK hP hD hA hl
  have hl : lv_has ls 4 [(0, .ref h_me)] := hl
  have hown : s.vm.findClass RX1 = some m.cls := hown
  have hw : Wd dC dI A s.heap [wX1 h_me h_me_isles h_me_machine q_me k_me o_me, wX2 h_me_isles h_me_isles_now q_me_isles k_me_isles o_me_isles, wX4 h_me_isles_now q_me_isles_now k_me_isles_now o_me_isles_now, wX3 h_me_machine q_me_machine k_me_machine o_me_machine, wPL o_pool] s.heap [] := ⟨hP, hD, va_S.rf⟩
  generalize hQz : (MQ below (QI dC dI (fun r (_ : Unit) => r = y.1) (fun _ => Jn [wX1 h_me h_me_isles h_me_machine q_me k_me o_me, wX2 h_me_isles h_me_isles_now q_me_isles k_me_isles o_me_isles, wX4 h_me_isles_now q_me_isles_now k_me_isles_now y.2.1, wX3 h_me_machine q_me_machine k_me_machine y.2.2, wPL o_pool]) (fun _ => Jt [tX1 k_me, tX2 k_me_isles, tX4 k_me_isles_now, tX3 k_me_machine, tPL o_pool]) A) ([.ref h_me] : List Value).toArray s 0 0 A) = Qz
  clear hP hD hnm
  have bk_53_1 : ∀ (rec_12_0 : Option Nat × Int32 × Int32 × Ob × Ob → Option (Int32 × Ob × Ob)) (hrec_12_0 : ∀ (v1 : Option Nat) (v2 : Int32) (v3 : Int32) (o_me_isles_now : Ob) (o_me_machine : Ob) (H : Heap) (locs : List Loc) (ls : Array Slot), rec_12_0 (v1, v2, v3, o_me_isles_now, o_me_machine) = some y → Wd dC dI A s.heap [wX1 h_me h_me_isles h_me_machine q_me k_me o_me, wX2 h_me_isles h_me_isles_now q_me_isles k_me_isles o_me_isles, wX4 h_me_isles_now q_me_isles_now k_me_isles_now o_me_isles_now, wX3 h_me_machine q_me_machine k_me_machine o_me_machine, wPL o_pool] H locs → lv_has ls 4 [(0, .ref h_me), (1, va_rf v1), (2, .int v2), (3, .int v3)] → W p l e ({ frames := 4, cells := 0, slots := 0, locals := 109 } : Room) s m ([.ref h_me] : List Value).toArray below meth c H locs 0 0 Qz (F0 m 12 ls [])), ∀ (v1 : Option Nat) (v2 : Int32) (v3 : Int32) (o_me_isles_now : Ob) (o_me_machine : Ob) (H : Heap) (locs : List Loc) (ls : Array Slot), bk_X1_passedYear_53 o_me o_me_isles o_pool rec_12_0 v1 v2 v3 o_me_isles_now o_me_machine = some y → Wd dC dI A s.heap [wX1 h_me h_me_isles h_me_machine q_me k_me o_me, wX2 h_me_isles h_me_isles_now q_me_isles k_me_isles o_me_isles, wX4 h_me_isles_now q_me_isles_now k_me_isles_now o_me_isles_now, wX3 h_me_machine q_me_machine k_me_machine o_me_machine, wPL o_pool] H locs → lv_has ls 4 [(0, .ref h_me), (1, va_rf v1), (2, .int v2), (3, .int v3)] → W p l e ({ frames := 4, cells := 0, slots := 0, locals := 109 } : Room) s m ([.ref h_me] : List Value).toArray below meth c H locs 0 0 Qz (F0 m 53 ls []) := by
    intro rec_12_0 hrec_12_0
    intro v1 v2 v3 o_me_isles_now o_me_machine H locs ls h hw hl
    unfold bk_X1_passedYear_53 at h
    obtain ⟨x4, ex4, h⟩ := z_lt h
    refine lv_iinc (v := x4) (lv' := [(3, .int x4), (0, .ref h_me), (1, va_rf v1), (2, .int v2)]) hx hb dX1_passedYear_53 hl (k := 3) rfl ((congrArg (v3 + ·) (show Int32.ofInt 1 = (1 : Int32) from by decide)).trans ex4.symm) (by decide) rfl (fun ls hl => ?_)
    refine lv_goto (tgt := 12) hx hb dX1_passedYear_56 (by decide) ?_
    exact hrec_12_0 v1 v2 x4 o_me_isles_now o_me_machine _ _ _ h hw (lv_sub hl [1, 2, 3, 0] rfl)
  have lp_12_0 : ∀ (N : Nat), ∀ (v1 : Option Nat) (v2 : Int32) (v3 : Int32) (o_me_isles_now : Ob) (o_me_machine : Ob) (H : Heap) (locs : List Loc) (ls : Array Slot), lp_X1_passedYear_12 o_me o_me_isles o_pool  N (v1, v2, v3, o_me_isles_now, o_me_machine) = some y → Wd dC dI A s.heap [wX1 h_me h_me_isles h_me_machine q_me k_me o_me, wX2 h_me_isles h_me_isles_now q_me_isles k_me_isles o_me_isles, wX4 h_me_isles_now q_me_isles_now k_me_isles_now o_me_isles_now, wX3 h_me_machine q_me_machine k_me_machine o_me_machine, wPL o_pool] H locs → lv_has ls 4 [(0, .ref h_me), (1, va_rf v1), (2, .int v2), (3, .int v3)] → W p l e ({ frames := 4, cells := 0, slots := 0, locals := 109 } : Room) s m ([.ref h_me] : List Value).toArray below meth c H locs 0 0 Qz (F0 m 12 ls []) := by
    intro N
    induction N with
    | zero =>
      intro v1 v2 v3 o_me_isles_now o_me_machine H locs ls h hw hl
      exact absurd (show (none : Option (Int32 × Ob × Ob)) = some y from h) (by simp)
    | succ N ih =>
      intro v1 v2 v3 o_me_isles_now o_me_machine H locs ls h hw hl
      have h : lb_X1_passedYear_12 o_me o_me_isles o_pool  (lp_X1_passedYear_12 o_me o_me_isles o_pool  N) v1 v2 v3 o_me_isles_now o_me_machine = some y := h
      unfold lb_X1_passedYear_12 at h
      refine lv_iload_n hx hb dX1_passedYear_12 rfl (lv_at hl 3 rfl) ?_
      refine lv_aload_n hx hb dX1_passedYear_13 rfl (lv_at hl 0 rfl) ?_
      refine fgX1_0 hx hb hts hown hK hw 0 rfl kw363 dX1_passedYear_14 ?_
      refine fgX2_7 hx hb hts hown hK hw 1 rfl kw318 dX1_passedYear_17 ?_
      refine lv_icmp_ge (tgt := 59) hx hb dX1_passedYear_20 (by decide) (fun c => ?_) (fun c => ?_)
      · have h := z_t h c
        refine lv_aload_n hx hb dX1_passedYear_59 rfl (lv_at hl 0 rfl) ?_
        refine fgX1_0 hx hb hts hown hK hw 0 rfl kw363 dX1_passedYear_60 ?_
        refine fgX2_0 hx hb hts hown hK hw 1 rfl kw299 dX1_passedYear_63 ?_
        refine lv_dup hx hb dX1_passedYear_66 rfl ?_
        refine fgX4_4 hx hb hts hown hK hw 2 rfl kw280 dX1_passedYear_67 ?_
        refine lv_iconst (v := 1) hx hb dX1_passedYear_70 (by decide) ?_
        refine lv_iadd hx hb dX1_passedYear_71 ?_
        refine fpX4_4 hx hb hts hown hK hw 2 rfl kw280 dX1_passedYear_72 (fun H locs hw => ?_)
        obtain ⟨o2, eo2, h⟩ := z_lt h
        have hw : Wd dC dI A s.heap [wX1 h_me h_me_isles h_me_machine q_me k_me o_me, wX2 h_me_isles h_me_isles_now q_me_isles k_me_isles o_me_isles, wX4 h_me_isles_now q_me_isles_now k_me_isles_now o2, wX3 h_me_machine q_me_machine k_me_machine o_me_machine, wPL o_pool] H locs := by rw [eo2]; exact hw
        refine lv_iload_n hx hb dX1_passedYear_75 rfl (lv_at hl 2 rfl) ?_
        have hy := Option.some.inj h
        rw [← hQz, ← hy]
        exact xr_i (v := v2) hx hb hr rfl hlk hK hw dX1_passedYear_76
      · have h := z_f h c
        refine lv_aload_n hx hb dX1_passedYear_23 rfl (lv_at hl 0 rfl) ?_
        refine lv_iload_n hx hb dX1_passedYear_24 rfl (lv_at hl 3 rfl) ?_
        obtain ⟨z3, ez3, h⟩ := z_bd h
        refine xj_i (xrV (As := [.int v3]) (rest := []) ⟨hx, hb, hml, hown, hts⟩ (m_X1_hasTradeOfLower l dC dI _ h_me h_me_isles h_me_machine h_me_isles_now q_me k_me q_me_isles k_me_isles q_me_isles_now k_me_isles_now o_me o_me_isles o_me_isles_now v3 z3 ez3) kw897 kw894 kw896 kw25 kw117 hd_X1_hasTradeOfLower ⟨rfl, rfl⟩ rfl rfl ⟨rfl, rfl⟩ hX hK hw [0, 1, 2] (by decide) rfl rfl rfl rfl rfl hl.1 rfl rfl dX1_passedYear_25) hw hA [0, 1, 2] (by decide) rfl rfl (fun H locs hw => ?_)
        have hw : Wd dC dI A s.heap [wX1 h_me h_me_isles h_me_machine q_me k_me o_me, wX2 h_me_isles h_me_isles_now q_me_isles k_me_isles o_me_isles, wX4 h_me_isles_now q_me_isles_now k_me_isles_now o_me_isles_now, wX3 h_me_machine q_me_machine k_me_machine o_me_machine, wPL o_pool] H locs := hw
        refine lv_if_eq (tgt := 53) hx hb dX1_passedYear_28 (by decide) (fun c => ?_) (fun c => ?_)
        · have h := z_t h c
          exact bk_53_1 (lp_X1_passedYear_12 o_me o_me_isles o_pool  N) ih v1 v2 v3 o_me_isles_now o_me_machine _ _ _ h hw (lv_sub hl [0, 1, 2, 3] rfl)
        · have h := z_f h c
          refine lv_aload_n hx hb dX1_passedYear_31 rfl (lv_at hl 0 rfl) ?_
          refine fgX1_0 hx hb hts hown hK hw 0 rfl kw363 dX1_passedYear_32 ?_
          refine fgX2_0 hx hb hts hown hK hw 1 rfl kw299 dX1_passedYear_35 ?_
          refine fgX4_0 hx hb hts hown hK hw 2 rfl kw263 dX1_passedYear_38 ?_
          refine lv_iload_n hx hb dX1_passedYear_41 rfl (lv_at hl 3 rfl) ?_
          refine lv_aload_n hx hb dX1_passedYear_42 rfl (lv_at hl 0 rfl) ?_
          refine xaload_n hx hb dX1_passedYear_43 rfl (lv_at hl 1 rfl) ?_
          refine lv_iload_n hx hb dX1_passedYear_44 rfl (lv_at hl 3 rfl) ?_
          refine lv_iconst (v := 0) hx hb dX1_passedYear_45 (by decide) ?_
          obtain ⟨z5, ez5, h⟩ := z_bd h
          refine xj_i (xrV (As := [va_rf v1, .int v3, .int (0 : Int32)]) (rest := [.int v3, .ref (q_me_isles_now 0)]) ⟨hx, hb, hml, hown, hts⟩ (m_X1_turnsTo_Q l dC dI _ h_me h_me_isles h_me_machine h_me_isles_now q_me k_me q_me_isles k_me_isles q_me_isles_now k_me_isles_now q_me_machine k_me_machine o_me o_me_isles o_me_isles_now o_me_machine o_pool v1 v3 (0 : Int32) z5 ez5) kw875 kw872 kw873 kw874 kw117 hd_X1_turnsTo ⟨rfl, rfl⟩ rfl rfl ⟨rfl, rfl⟩ hX hK hw [0, 1, 2, 3, 4] (by decide) rfl rfl rfl rfl rfl hl.1 rfl rfl dX1_passedYear_46) hw hA [0, 1, 2, 3, 4] (by decide) rfl rfl (fun H locs hw => ?_)
          have hw : Wd dC dI A s.heap [wX1 h_me h_me_isles h_me_machine q_me k_me o_me, wX2 h_me_isles h_me_isles_now q_me_isles k_me_isles o_me_isles, wX4 h_me_isles_now q_me_isles_now k_me_isles_now o_me_isles_now, wX3 h_me_machine q_me_machine k_me_machine z5.2, wPL o_pool] H locs := hw
          obtain ⟨g6, h⟩ := z_gd h
          refine fbX4_0 hx hb hK hw 2 rfl rfl g6 dX1_passedYear_49 (fun H locs hw => ?_)
          obtain ⟨o7, eo7, h⟩ := z_lt h
          have hw : Wd dC dI A s.heap [wX1 h_me h_me_isles h_me_machine q_me k_me o_me, wX2 h_me_isles h_me_isles_now q_me_isles k_me_isles o_me_isles, wX4 h_me_isles_now q_me_isles_now k_me_isles_now o7, wX3 h_me_machine q_me_machine k_me_machine z5.2, wPL o_pool] H locs := by rw [eo7]; exact hw
          obtain ⟨x8, ex8, h⟩ := z_lt h
          refine lv_iinc (v := x8) (lv' := [(2, .int x8), (0, .ref h_me), (1, va_rf v1), (3, .int v3)]) hx hb dX1_passedYear_50 hl (k := 2) rfl ((congrArg (v2 + ·) (show Int32.ofInt 1 = (1 : Int32) from by decide)).trans ex8.symm) (by decide) (by generalize v1 = r9; cases r9 <;> rfl) (fun ls hl => ?_)
          exact bk_53_1 (lp_X1_passedYear_12 o_me o_me_isles o_pool  N) ih v1 x8 v3 o7 z5.2 _ _ _ h hw (lv_sub hl [1, 2, 0, 3] rfl)
  unfold f_X1_passedYear at h
  refine lv_aload_n hx hb dX1_passedYear_0 rfl (lv_at hl 0 rfl) ?_
  refine fgX1_0 hx hb hts hown hK hw 0 rfl kw363 dX1_passedYear_1 ?_
  obtain ⟨z1, ez1, h⟩ := z_bd h
  refine xj_q (xrV (As := []) (rest := []) ⟨hx, hb, hml, hown, hts⟩ (m_X2_lawInForce l dC dI _ h_me_isles h_me_isles_now q_me_isles k_me_isles o_me_isles z1 ez1) kw531 kw853 kw529 kw530 kw115 hd_X2_lawInForce ⟨rfl, rfl⟩ rfl rfl ⟨rfl, rfl⟩ hX hK hw [1] (by decide) rfl rfl rfl rfl rfl hl.1 rfl rfl dX1_passedYear_4) hw hA [1] (by decide) rfl rfl (fun H locs hw => ?_)
  have hw : Wd dC dI A s.heap [wX1 h_me h_me_isles h_me_machine q_me k_me o_me, wX2 h_me_isles h_me_isles_now q_me_isles k_me_isles o_me_isles, wX4 h_me_isles_now q_me_isles_now k_me_isles_now o_me_isles_now, wX3 h_me_machine q_me_machine k_me_machine o_me_machine, wPL o_pool] H locs := hw
  refine xastore_n (lv' := [(1, va_rf z1), (0, .ref h_me)]) hx hb dX1_passedYear_7 rfl hl (by decide) rfl (fun ls hl => ?_)
  refine lv_iconst (v := 0) hx hb dX1_passedYear_8 (by decide) ?_
  refine lv_istore_n (lv' := [(2, .int (0 : Int32)), (1, va_rf z1), (0, .ref h_me)]) hx hb dX1_passedYear_9 rfl hl (by decide) (by generalize z1 = r9; cases r9 <;> rfl) (fun ls hl => ?_)
  refine lv_iconst (v := 0) hx hb dX1_passedYear_10 (by decide) ?_
  refine lv_istore_n (lv' := [(3, .int (0 : Int32)), (2, .int (0 : Int32)), (1, va_rf z1), (0, .ref h_me)]) hx hb dX1_passedYear_11 rfl hl (by decide) rfl (fun ls hl => ?_)
  exact lp_12_0  zfu z1 (0 : Int32) (0 : Int32) o_me_isles_now o_me_machine _ _ _ h hw (lv_sub hl [3, 2, 1, 0] rfl)

def f_X4_isIn (o_me : Ob) (p0 : Int32) : Option (Int32) :=
  if (((gI o_me 2) >>> (p0 &&& 31)) &&& (1 : Int32)) = (1 : Int32) then
  (some (1 : Int32))
  else
  (some (0 : Int32))
set_option maxHeartbeats 4000000 in
set_option maxRecDepth 100000 in
theorem m_X4_isIn (l : Launch) (dC : Nat → ClassId) (dI : Nat → Nat → Nat) (sz : Nat) (h_me : Nat) (q_me : Nat → Nat) (k_me : Nat → ClassId) (o_me : Ob) (p0 : Int32) (y : Int32) (h : f_X4_isIn o_me p0 = some y) : CI l yX4_isIn cX4_isIn 2 (some .boolean) ({ frames := 0, cells := 0, slots := 0, locals := 0 } : Room) dC dI sz [.ref h_me, .int p0] [wX4 h_me q_me k_me o_me] [tX4 k_me] y [wX4 h_me q_me k_me o_me] := by
  refine CC_of (by decide) (Nat.le_of_ble_eq_true rfl) ?_
  intro p e s m below meth c A ls hx hb hml hr hlk hnm hown hts hX hK hP hD hA hl
  have hl : lv_has ls 2 [(0, .ref h_me), (1, .int p0)] := hl
  have hown : s.vm.findClass RX4 = some m.cls := hown
  have hw : Wd dC dI A s.heap [wX4 h_me q_me k_me o_me] s.heap [] := ⟨hP, hD, va_S.rf⟩
  generalize hQz : (MQ below (QI dC dI (fun r (_ : Unit) => r = y) (fun _ => Jn [wX4 h_me q_me k_me o_me]) (fun _ => Jt [tX4 k_me]) A) ([.ref h_me, .int p0] : List Value).toArray s 0 0 A) = Qz
  clear hP hD hnm
  unfold f_X4_isIn at h
  refine lv_aload_n hx hb dX4_isIn_0 rfl (lv_at hl 0 rfl) ?_
  refine fgX4_2 hx hb hts hown hK hw 0 rfl kw268 dX4_isIn_1 ?_
  refine lv_iload_n hx hb dX4_isIn_4 rfl (lv_at hl 1 rfl) ?_
  refine lv_ishr hx hb dX4_isIn_5 ?_
  refine lv_iconst (v := 1) hx hb dX4_isIn_6 (by decide) ?_
  refine lv_iand hx hb dX4_isIn_7 ?_
  refine lv_iconst (v := 1) hx hb dX4_isIn_8 (by decide) ?_
  refine lv_icmp_ne (tgt := 16) hx hb dX4_isIn_9 (by decide) (fun c => ?_) (fun c => ?_)
  · have h := z_f h c
    refine lv_iconst (v := 0) hx hb dX4_isIn_16 (by decide) ?_
    have hy := Option.some.inj h
    rw [← hQz, ← hy]
    exact xr_i (v := (0 : Int32)) hx hb hr rfl hlk hK hw dX4_isIn_17
  · have h := z_t h c
    refine lv_iconst (v := 1) hx hb dX4_isIn_12 (by decide) ?_
    refine lv_goto (tgt := 17) hx hb dX4_isIn_13 (by decide) ?_
    have hy := Option.some.inj h
    rw [← hQz, ← hy]
    exact xr_i (v := (1 : Int32)) hx hb hr rfl hlk hK hw dX4_isIn_17

def bk_X1_lineUp_Q_129 (o_me_isles : Ob) (o_me_isles_now : Ob) (o_pool : List CR) (rec_7_0 : Option Nat × Int32 × Int32 × Ob × Ob → Option (Int32 × Ob × Ob)) (v1 : Option Nat) (v2 : Int32) (v3 : Int32) (o_me : Ob) (o_me_machine : Ob) : Option (Int32 × Ob × Ob) :=
  zlt (v3 + (1 : Int32)) fun x3 =>
  rec_7_0 (v1, v2, x3, o_me, o_me_machine)
def bk_X1_lineUp_Q_111 (o_me_isles : Ob) (o_me_isles_now : Ob) (o_pool : List CR) (rec_7_0 : Option Nat × Int32 × Int32 × Ob × Ob → Option (Int32 × Ob × Ob)) (v1 : Option Nat) (v2 : Int32) (v3 : Int32) (v4 : Int32) (o_me : Ob) (o_me_machine : Ob) : Option (Int32 × Ob × Ob) :=
  zgd (zin v4 7) <|
  zlt (tA o_me 2 v4.toNatClampNeg v3) fun o10 =>
  zlt (sI o10 4 ((gI o10 4) + (1 : Int32))) fun o11 =>
  bk_X1_lineUp_Q_129 o_me_isles o_me_isles_now o_pool rec_7_0 v1 v2 v3 o11 o_me_machine
def lb_X1_lineUp_Q_61 (o_me_isles : Ob) (o_me_isles_now : Ob) (o_pool : List CR) (rec_7_0 : Option Nat × Int32 × Int32 × Ob × Ob → Option (Int32 × Ob × Ob)) (rec_61_2 : Option Nat × Int32 × Int32 × Int32 × Ob × Ob → Option (Int32 × Ob × Ob)) (v1 : Option Nat) (v2 : Int32) (v3 : Int32) (v4 : Int32) (o_me : Ob) (o_me_machine : Ob) : Option (Int32 × Ob × Ob) :=
  if v4 ≤ (0 : Int32) then
  (bk_X1_lineUp_Q_111 o_me_isles o_me_isles_now o_pool rec_7_0 v1 v2 v3 v4 o_me o_me_machine)
  else
  (zgd (zin (v4 - (1 : Int32)) 7) <|
  zgd (zin (gA o_me 2 (v4 - (1 : Int32)).toNatClampNeg) 7) <|
  zgd (zin v3 7) <|
  if (gA o_me 3 v3.toNatClampNeg) ≤ (gA o_me 3 (gA o_me 2 (v4 - (1 : Int32)).toNatClampNeg).toNatClampNeg) then
  (bk_X1_lineUp_Q_111 o_me_isles o_me_isles_now o_pool rec_7_0 v1 v2 v3 v4 o_me o_me_machine)
  else
  (zgd (zin (v4 - (1 : Int32)) 7) <|
  zgd (zin v4 7) <|
  zlt (tA o_me 2 v4.toNatClampNeg (gA o_me 2 (v4 - (1 : Int32)).toNatClampNeg)) fun o17 =>
  zlt (v4 + (-1 : Int32)) fun x18 =>
  rec_61_2 (v1, v2, v3, x18, o17, o_me_machine)))
def lp_X1_lineUp_Q_61 (o_me_isles : Ob) (o_me_isles_now : Ob) (o_pool : List CR) (rec_7_0 : Option Nat × Int32 × Int32 × Ob × Ob → Option (Int32 × Ob × Ob)) : Nat → (Option Nat × Int32 × Int32 × Int32 × Ob × Ob) → Option (Int32 × Ob × Ob) := zit (fun rec a => lb_X1_lineUp_Q_61 o_me_isles o_me_isles_now o_pool rec_7_0 rec a.1 a.2.1 a.2.2.1 a.2.2.2.1 a.2.2.2.2.1 a.2.2.2.2.2)
def lb_X1_lineUp_Q_7 (o_me_isles : Ob) (o_me_isles_now : Ob) (o_pool : List CR)  (rec_7_0 : Option Nat × Int32 × Int32 × Ob × Ob → Option (Int32 × Ob × Ob)) (v1 : Option Nat) (v2 : Int32) (v3 : Int32) (o_me : Ob) (o_me_machine : Ob) : Option (Int32 × Ob × Ob) :=
  if (gI o_me_isles 7) ≤ v3 then
  (some (gI o_me 4, o_me, o_me_machine))
  else
  ((f_X4_isIn o_me_isles_now v3).bind fun z2 =>
  if z2 = (0 : Int32) then
  (bk_X1_lineUp_Q_129 o_me_isles o_me_isles_now o_pool rec_7_0 v1 v2 v3 o_me o_me_machine)
  else
  ((f_X1_isBarred_Q o_me o_me_isles o_me_isles_now o_me_machine o_pool v1 v3 v2).bind fun z4 =>
  if z4.1 = (0 : Int32) then
  ((f_X1_runsBy_Q o_me o_me_isles o_me_isles_now z4.2 o_pool v1 v3 v2).bind fun z5 =>
  zgd (zin v3 7) <|
  zlt (tA o_me 3 v3.toNatClampNeg z5.1) fun o7 =>
  zlt (gI o7 4) fun x8 =>
  lp_X1_lineUp_Q_61 o_me_isles o_me_isles_now o_pool rec_7_0 zfu (v1, v2, v3, x8, o7, z5.2))
  else
  (bk_X1_lineUp_Q_129 o_me_isles o_me_isles_now o_pool rec_7_0 v1 v2 v3 o_me z4.2)))
def lp_X1_lineUp_Q_7 (o_me_isles : Ob) (o_me_isles_now : Ob) (o_pool : List CR)  : Nat → (Option Nat × Int32 × Int32 × Ob × Ob) → Option (Int32 × Ob × Ob) := zit (fun rec a => lb_X1_lineUp_Q_7 o_me_isles o_me_isles_now o_pool  rec a.1 a.2.1 a.2.2.1 a.2.2.2.1 a.2.2.2.2)
def f_X1_lineUp_Q (o_me : Ob) (o_me_isles : Ob) (o_me_isles_now : Ob) (o_me_machine : Ob) (o_pool : List CR) (p0 : Option Nat) (p1 : Int32) : Option (Int32 × Ob × Ob) :=
  zlt (sI o_me 4 (0 : Int32)) fun o1 =>
  lp_X1_lineUp_Q_7 o_me_isles o_me_isles_now o_pool  zfu (p0, p1, (0 : Int32), o1, o_me_machine)
set_option maxHeartbeats 4000000 in
set_option maxRecDepth 100000 in
theorem m_X1_lineUp_Q (l : Launch) (dC : Nat → ClassId) (dI : Nat → Nat → Nat) (sz : Nat) (h_me : Nat) (h_me_isles : Nat) (h_me_machine : Nat) (h_me_isles_now : Nat) (q_me : Nat → Nat) (k_me : Nat → ClassId) (q_me_isles : Nat → Nat) (k_me_isles : Nat → ClassId) (q_me_isles_now : Nat → Nat) (k_me_isles_now : Nat → ClassId) (q_me_machine : Nat → Nat) (k_me_machine : Nat → ClassId) (o_me : Ob) (o_me_isles : Ob) (o_me_isles_now : Ob) (o_me_machine : Ob) (o_pool : List CR) (p0 : Option Nat) (p1 : Int32) (y : Int32 × Ob × Ob) (h : f_X1_lineUp_Q o_me o_me_isles o_me_isles_now o_me_machine o_pool p0 p1 = some y) : CI l yX1_lineUp cX1_lineUp 5 (some .int) ({ frames := 4, cells := 0, slots := 0, locals := 109 } : Room) dC dI sz [.ref h_me, va_rf p0, .int p1] [wX1 h_me h_me_isles h_me_machine q_me k_me o_me, wX2 h_me_isles h_me_isles_now q_me_isles k_me_isles o_me_isles, wX4 h_me_isles_now q_me_isles_now k_me_isles_now o_me_isles_now, wX3 h_me_machine q_me_machine k_me_machine o_me_machine, wPL o_pool] [tX1 k_me, tX2 k_me_isles, tX4 k_me_isles_now, tX3 k_me_machine, tPL o_pool] y.1 [wX1 h_me h_me_isles h_me_machine q_me k_me y.2.1, wX2 h_me_isles h_me_isles_now q_me_isles k_me_isles o_me_isles, wX4 h_me_isles_now q_me_isles_now k_me_isles_now o_me_isles_now, wX3 h_me_machine q_me_machine k_me_machine y.2.2, wPL o_pool] := by
  refine CC_of (by decide) (by cases p0 <;> exact Nat.le_of_ble_eq_true rfl) ?_
  intro p e s m below meth c A ls hx hb hml hr hlk hnm hown hts hX hK hP hD hA hl
  have hl : lv_has ls 5 [(0, .ref h_me), (1, va_rf p0), (2, .int p1)] := by
    have e9 : lv_args 0 [.ref h_me, va_rf p0, .int p1] = [(0, .ref h_me), (1, va_rf p0), (2, .int p1)] := by cases p0 <;> rfl
    rw [← e9]; exact hl
  have hown : s.vm.findClass RX1 = some m.cls := hown
  have hw : Wd dC dI A s.heap [wX1 h_me h_me_isles h_me_machine q_me k_me o_me, wX2 h_me_isles h_me_isles_now q_me_isles k_me_isles o_me_isles, wX4 h_me_isles_now q_me_isles_now k_me_isles_now o_me_isles_now, wX3 h_me_machine q_me_machine k_me_machine o_me_machine, wPL o_pool] s.heap [] := ⟨hP, hD, va_S.rf⟩
  generalize hQz : (MQ below (QI dC dI (fun r (_ : Unit) => r = y.1) (fun _ => Jn [wX1 h_me h_me_isles h_me_machine q_me k_me y.2.1, wX2 h_me_isles h_me_isles_now q_me_isles k_me_isles o_me_isles, wX4 h_me_isles_now q_me_isles_now k_me_isles_now o_me_isles_now, wX3 h_me_machine q_me_machine k_me_machine y.2.2, wPL o_pool]) (fun _ => Jt [tX1 k_me, tX2 k_me_isles, tX4 k_me_isles_now, tX3 k_me_machine, tPL o_pool]) A) ([.ref h_me, va_rf p0, .int p1] : List Value).toArray s 0 0 A) = Qz
  clear hP hD hnm
  have bk_129_1 : ∀ (rec_7_0 : Option Nat × Int32 × Int32 × Ob × Ob → Option (Int32 × Ob × Ob)) (hrec_7_0 : ∀ (v1 : Option Nat) (v2 : Int32) (v3 : Int32) (o_me : Ob) (o_me_machine : Ob) (H : Heap) (locs : List Loc) (ls : Array Slot), rec_7_0 (v1, v2, v3, o_me, o_me_machine) = some y → Wd dC dI A s.heap [wX1 h_me h_me_isles h_me_machine q_me k_me o_me, wX2 h_me_isles h_me_isles_now q_me_isles k_me_isles o_me_isles, wX4 h_me_isles_now q_me_isles_now k_me_isles_now o_me_isles_now, wX3 h_me_machine q_me_machine k_me_machine o_me_machine, wPL o_pool] H locs → lv_has ls 5 [(0, .ref h_me), (1, va_rf v1), (2, .int v2), (3, .int v3)] → W p l e ({ frames := 4, cells := 0, slots := 0, locals := 109 } : Room) s m ([.ref h_me, va_rf p0, .int p1] : List Value).toArray below meth c H locs 0 0 Qz (F0 m 7 ls [])), ∀ (v1 : Option Nat) (v2 : Int32) (v3 : Int32) (o_me : Ob) (o_me_machine : Ob) (H : Heap) (locs : List Loc) (ls : Array Slot), bk_X1_lineUp_Q_129 o_me_isles o_me_isles_now o_pool rec_7_0 v1 v2 v3 o_me o_me_machine = some y → Wd dC dI A s.heap [wX1 h_me h_me_isles h_me_machine q_me k_me o_me, wX2 h_me_isles h_me_isles_now q_me_isles k_me_isles o_me_isles, wX4 h_me_isles_now q_me_isles_now k_me_isles_now o_me_isles_now, wX3 h_me_machine q_me_machine k_me_machine o_me_machine, wPL o_pool] H locs → lv_has ls 5 [(0, .ref h_me), (1, va_rf v1), (2, .int v2), (3, .int v3)] → W p l e ({ frames := 4, cells := 0, slots := 0, locals := 109 } : Room) s m ([.ref h_me, va_rf p0, .int p1] : List Value).toArray below meth c H locs 0 0 Qz (F0 m 129 ls []) := by
    intro rec_7_0 hrec_7_0
    intro v1 v2 v3 o_me o_me_machine H locs ls h hw hl
    unfold bk_X1_lineUp_Q_129 at h
    obtain ⟨x3, ex3, h⟩ := z_lt h
    refine lv_iinc (v := x3) (lv' := [(3, .int x3), (0, .ref h_me), (1, va_rf v1), (2, .int v2)]) hx hb dX1_lineUp_129 hl (k := 3) rfl ((congrArg (v3 + ·) (show Int32.ofInt 1 = (1 : Int32) from by decide)).trans ex3.symm) (by decide) rfl (fun ls hl => ?_)
    refine lv_goto (tgt := 7) hx hb dX1_lineUp_132 (by decide) ?_
    exact hrec_7_0 v1 v2 x3 o_me o_me_machine _ _ _ h hw (lv_sub hl [1, 2, 3, 0] rfl)
  have bk_111_3 : ∀ (rec_7_0 : Option Nat × Int32 × Int32 × Ob × Ob → Option (Int32 × Ob × Ob)) (hrec_7_0 : ∀ (v1 : Option Nat) (v2 : Int32) (v3 : Int32) (o_me : Ob) (o_me_machine : Ob) (H : Heap) (locs : List Loc) (ls : Array Slot), rec_7_0 (v1, v2, v3, o_me, o_me_machine) = some y → Wd dC dI A s.heap [wX1 h_me h_me_isles h_me_machine q_me k_me o_me, wX2 h_me_isles h_me_isles_now q_me_isles k_me_isles o_me_isles, wX4 h_me_isles_now q_me_isles_now k_me_isles_now o_me_isles_now, wX3 h_me_machine q_me_machine k_me_machine o_me_machine, wPL o_pool] H locs → lv_has ls 5 [(0, .ref h_me), (1, va_rf v1), (2, .int v2), (3, .int v3)] → W p l e ({ frames := 4, cells := 0, slots := 0, locals := 109 } : Room) s m ([.ref h_me, va_rf p0, .int p1] : List Value).toArray below meth c H locs 0 0 Qz (F0 m 7 ls [])), ∀ (v1 : Option Nat) (v2 : Int32) (v3 : Int32) (v4 : Int32) (o_me : Ob) (o_me_machine : Ob) (H : Heap) (locs : List Loc) (ls : Array Slot), bk_X1_lineUp_Q_111 o_me_isles o_me_isles_now o_pool rec_7_0 v1 v2 v3 v4 o_me o_me_machine = some y → Wd dC dI A s.heap [wX1 h_me h_me_isles h_me_machine q_me k_me o_me, wX2 h_me_isles h_me_isles_now q_me_isles k_me_isles o_me_isles, wX4 h_me_isles_now q_me_isles_now k_me_isles_now o_me_isles_now, wX3 h_me_machine q_me_machine k_me_machine o_me_machine, wPL o_pool] H locs → lv_has ls 5 [(0, .ref h_me), (1, va_rf v1), (2, .int v2), (3, .int v3), (4, .int v4)] → W p l e ({ frames := 4, cells := 0, slots := 0, locals := 109 } : Room) s m ([.ref h_me, va_rf p0, .int p1] : List Value).toArray below meth c H locs 0 0 Qz (F0 m 111 ls []) := by
    intro rec_7_0 hrec_7_0
    intro v1 v2 v3 v4 o_me o_me_machine H locs ls h hw hl
    unfold bk_X1_lineUp_Q_111 at h
    refine lv_aload_n hx hb dX1_lineUp_111 rfl (lv_at hl 0 rfl) ?_
    refine fgX1_2 hx hb hts hown hK hw 0 rfl kw366 dX1_lineUp_112 ?_
    refine lv_iload hx hb dX1_lineUp_115 (lv_at hl 4 rfl) ?_
    refine lv_iload_n hx hb dX1_lineUp_117 rfl (lv_at hl 3 rfl) ?_
    obtain ⟨g9, h⟩ := z_gd h
    refine fbX1_2 hx hb hK hw 0 rfl rfl g9 dX1_lineUp_118 (fun H locs hw => ?_)
    obtain ⟨o10, eo10, h⟩ := z_lt h
    have hw : Wd dC dI A s.heap [wX1 h_me h_me_isles h_me_machine q_me k_me o10, wX2 h_me_isles h_me_isles_now q_me_isles k_me_isles o_me_isles, wX4 h_me_isles_now q_me_isles_now k_me_isles_now o_me_isles_now, wX3 h_me_machine q_me_machine k_me_machine o_me_machine, wPL o_pool] H locs := by rw [eo10]; exact hw
    refine lv_aload_n hx hb dX1_lineUp_119 rfl (lv_at hl 0 rfl) ?_
    refine lv_dup hx hb dX1_lineUp_120 rfl ?_
    refine fgX1_4 hx hb hts hown hK hw 0 rfl kw368 dX1_lineUp_121 ?_
    refine lv_iconst (v := 1) hx hb dX1_lineUp_124 (by decide) ?_
    refine lv_iadd hx hb dX1_lineUp_125 ?_
    refine fpX1_4 hx hb hts hown hK hw 0 rfl kw368 dX1_lineUp_126 (fun H locs hw => ?_)
    obtain ⟨o11, eo11, h⟩ := z_lt h
    have hw : Wd dC dI A s.heap [wX1 h_me h_me_isles h_me_machine q_me k_me o11, wX2 h_me_isles h_me_isles_now q_me_isles k_me_isles o_me_isles, wX4 h_me_isles_now q_me_isles_now k_me_isles_now o_me_isles_now, wX3 h_me_machine q_me_machine k_me_machine o_me_machine, wPL o_pool] H locs := by rw [eo11]; exact hw
    exact bk_129_1 rec_7_0 hrec_7_0 v1 v2 v3 o11 o_me_machine _ _ _ h hw (lv_sub hl [0, 1, 2, 3] rfl)
  have lp_61_2 : ∀ (rec_7_0 : Option Nat × Int32 × Int32 × Ob × Ob → Option (Int32 × Ob × Ob)) (hrec_7_0 : ∀ (v1 : Option Nat) (v2 : Int32) (v3 : Int32) (o_me : Ob) (o_me_machine : Ob) (H : Heap) (locs : List Loc) (ls : Array Slot), rec_7_0 (v1, v2, v3, o_me, o_me_machine) = some y → Wd dC dI A s.heap [wX1 h_me h_me_isles h_me_machine q_me k_me o_me, wX2 h_me_isles h_me_isles_now q_me_isles k_me_isles o_me_isles, wX4 h_me_isles_now q_me_isles_now k_me_isles_now o_me_isles_now, wX3 h_me_machine q_me_machine k_me_machine o_me_machine, wPL o_pool] H locs → lv_has ls 5 [(0, .ref h_me), (1, va_rf v1), (2, .int v2), (3, .int v3)] → W p l e ({ frames := 4, cells := 0, slots := 0, locals := 109 } : Room) s m ([.ref h_me, va_rf p0, .int p1] : List Value).toArray below meth c H locs 0 0 Qz (F0 m 7 ls [])) (N : Nat), ∀ (v1 : Option Nat) (v2 : Int32) (v3 : Int32) (v4 : Int32) (o_me : Ob) (o_me_machine : Ob) (H : Heap) (locs : List Loc) (ls : Array Slot), lp_X1_lineUp_Q_61 o_me_isles o_me_isles_now o_pool rec_7_0 N (v1, v2, v3, v4, o_me, o_me_machine) = some y → Wd dC dI A s.heap [wX1 h_me h_me_isles h_me_machine q_me k_me o_me, wX2 h_me_isles h_me_isles_now q_me_isles k_me_isles o_me_isles, wX4 h_me_isles_now q_me_isles_now k_me_isles_now o_me_isles_now, wX3 h_me_machine q_me_machine k_me_machine o_me_machine, wPL o_pool] H locs → lv_has ls 5 [(0, .ref h_me), (1, va_rf v1), (2, .int v2), (3, .int v3), (4, .int v4)] → W p l e ({ frames := 4, cells := 0, slots := 0, locals := 109 } : Room) s m ([.ref h_me, va_rf p0, .int p1] : List Value).toArray below meth c H locs 0 0 Qz (F0 m 61 ls []) := by
    intro rec_7_0 hrec_7_0
    intro N
    induction N with
    | zero =>
      intro v1 v2 v3 v4 o_me o_me_machine H locs ls h hw hl
      exact absurd (show (none : Option (Int32 × Ob × Ob)) = some y from h) (by simp)
    | succ N ih =>
      intro v1 v2 v3 v4 o_me o_me_machine H locs ls h hw hl
      have h : lb_X1_lineUp_Q_61 o_me_isles o_me_isles_now o_pool rec_7_0 (lp_X1_lineUp_Q_61 o_me_isles o_me_isles_now o_pool rec_7_0 N) v1 v2 v3 v4 o_me o_me_machine = some y := h
      unfold lb_X1_lineUp_Q_61 at h
      refine lv_iload hx hb dX1_lineUp_61 (lv_at hl 4 rfl) ?_
      refine lv_if_le (tgt := 111) hx hb dX1_lineUp_63 (by decide) (fun c => ?_) (fun c => ?_)
      · have h := z_t h c
        exact bk_111_3 rec_7_0 hrec_7_0 v1 v2 v3 v4 o_me o_me_machine _ _ _ h hw (lv_sub hl [0, 1, 2, 3, 4] rfl)
      · have h := z_f h c
        refine lv_aload_n hx hb dX1_lineUp_66 rfl (lv_at hl 0 rfl) ?_
        refine fgX1_3 hx hb hts hown hK hw 0 rfl kw367 dX1_lineUp_67 ?_
        refine lv_aload_n hx hb dX1_lineUp_70 rfl (lv_at hl 0 rfl) ?_
        refine fgX1_2 hx hb hts hown hK hw 0 rfl kw366 dX1_lineUp_71 ?_
        refine lv_iload hx hb dX1_lineUp_74 (lv_at hl 4 rfl) ?_
        refine lv_iconst (v := 1) hx hb dX1_lineUp_76 (by decide) ?_
        refine lv_isub hx hb dX1_lineUp_77 ?_
        obtain ⟨g12, h⟩ := z_gd h
        refine faX1_2 hx hb hK hw 0 rfl rfl g12 dX1_lineUp_78 ?_
        obtain ⟨g13, h⟩ := z_gd h
        refine faX1_3 hx hb hK hw 0 rfl rfl g13 dX1_lineUp_79 ?_
        refine lv_aload_n hx hb dX1_lineUp_80 rfl (lv_at hl 0 rfl) ?_
        refine fgX1_3 hx hb hts hown hK hw 0 rfl kw367 dX1_lineUp_81 ?_
        refine lv_iload_n hx hb dX1_lineUp_84 rfl (lv_at hl 3 rfl) ?_
        obtain ⟨g14, h⟩ := z_gd h
        refine faX1_3 hx hb hK hw 0 rfl rfl g14 dX1_lineUp_85 ?_
        refine lv_icmp_ge (tgt := 111) hx hb dX1_lineUp_86 (by decide) (fun c => ?_) (fun c => ?_)
        · have h := z_t h c
          exact bk_111_3 rec_7_0 hrec_7_0 v1 v2 v3 v4 o_me o_me_machine _ _ _ h hw (lv_sub hl [0, 1, 2, 3, 4] rfl)
        · have h := z_f h c
          refine lv_aload_n hx hb dX1_lineUp_89 rfl (lv_at hl 0 rfl) ?_
          refine fgX1_2 hx hb hts hown hK hw 0 rfl kw366 dX1_lineUp_90 ?_
          refine lv_iload hx hb dX1_lineUp_93 (lv_at hl 4 rfl) ?_
          refine lv_aload_n hx hb dX1_lineUp_95 rfl (lv_at hl 0 rfl) ?_
          refine fgX1_2 hx hb hts hown hK hw 0 rfl kw366 dX1_lineUp_96 ?_
          refine lv_iload hx hb dX1_lineUp_99 (lv_at hl 4 rfl) ?_
          refine lv_iconst (v := 1) hx hb dX1_lineUp_101 (by decide) ?_
          refine lv_isub hx hb dX1_lineUp_102 ?_
          obtain ⟨g15, h⟩ := z_gd h
          refine faX1_2 hx hb hK hw 0 rfl rfl g15 dX1_lineUp_103 ?_
          obtain ⟨g16, h⟩ := z_gd h
          refine fbX1_2 hx hb hK hw 0 rfl rfl g16 dX1_lineUp_104 (fun H locs hw => ?_)
          obtain ⟨o17, eo17, h⟩ := z_lt h
          have hw : Wd dC dI A s.heap [wX1 h_me h_me_isles h_me_machine q_me k_me o17, wX2 h_me_isles h_me_isles_now q_me_isles k_me_isles o_me_isles, wX4 h_me_isles_now q_me_isles_now k_me_isles_now o_me_isles_now, wX3 h_me_machine q_me_machine k_me_machine o_me_machine, wPL o_pool] H locs := by rw [eo17]; exact hw
          obtain ⟨x18, ex18, h⟩ := z_lt h
          refine lv_iinc (v := x18) (lv' := [(4, .int x18), (0, .ref h_me), (1, va_rf v1), (2, .int v2), (3, .int v3)]) hx hb dX1_lineUp_105 hl (k := 4) rfl ((congrArg (v4 + ·) (show Int32.ofInt (-1) = (-1 : Int32) from by decide)).trans ex18.symm) (by decide) rfl (fun ls hl => ?_)
          refine lv_goto (tgt := 61) hx hb dX1_lineUp_108 (by decide) ?_
          exact ih v1 v2 v3 x18 o17 o_me_machine _ _ _ h hw (lv_sub hl [1, 2, 3, 4, 0] rfl)
  have lp_7_0 : ∀ (N : Nat), ∀ (v1 : Option Nat) (v2 : Int32) (v3 : Int32) (o_me : Ob) (o_me_machine : Ob) (H : Heap) (locs : List Loc) (ls : Array Slot), lp_X1_lineUp_Q_7 o_me_isles o_me_isles_now o_pool  N (v1, v2, v3, o_me, o_me_machine) = some y → Wd dC dI A s.heap [wX1 h_me h_me_isles h_me_machine q_me k_me o_me, wX2 h_me_isles h_me_isles_now q_me_isles k_me_isles o_me_isles, wX4 h_me_isles_now q_me_isles_now k_me_isles_now o_me_isles_now, wX3 h_me_machine q_me_machine k_me_machine o_me_machine, wPL o_pool] H locs → lv_has ls 5 [(0, .ref h_me), (1, va_rf v1), (2, .int v2), (3, .int v3)] → W p l e ({ frames := 4, cells := 0, slots := 0, locals := 109 } : Room) s m ([.ref h_me, va_rf p0, .int p1] : List Value).toArray below meth c H locs 0 0 Qz (F0 m 7 ls []) := by
    intro N
    induction N with
    | zero =>
      intro v1 v2 v3 o_me o_me_machine H locs ls h hw hl
      exact absurd (show (none : Option (Int32 × Ob × Ob)) = some y from h) (by simp)
    | succ N ih =>
      intro v1 v2 v3 o_me o_me_machine H locs ls h hw hl
      have h : lb_X1_lineUp_Q_7 o_me_isles o_me_isles_now o_pool  (lp_X1_lineUp_Q_7 o_me_isles o_me_isles_now o_pool  N) v1 v2 v3 o_me o_me_machine = some y := h
      unfold lb_X1_lineUp_Q_7 at h
      refine lv_iload_n hx hb dX1_lineUp_7 rfl (lv_at hl 3 rfl) ?_
      refine lv_aload_n hx hb dX1_lineUp_8 rfl (lv_at hl 0 rfl) ?_
      refine fgX1_0 hx hb hts hown hK hw 0 rfl kw363 dX1_lineUp_9 ?_
      refine fgX2_7 hx hb hts hown hK hw 1 rfl kw318 dX1_lineUp_12 ?_
      refine lv_icmp_ge (tgt := 135) hx hb dX1_lineUp_15 (by decide) (fun c => ?_) (fun c => ?_)
      · have h := z_t h c
        refine lv_aload_n hx hb dX1_lineUp_135 rfl (lv_at hl 0 rfl) ?_
        refine fgX1_4 hx hb hts hown hK hw 0 rfl kw368 dX1_lineUp_136 ?_
        have hy := Option.some.inj h
        rw [← hQz, ← hy]
        exact xr_i (v := gI o_me 4) hx hb hr rfl hlk hK hw dX1_lineUp_139
      · have h := z_f h c
        refine lv_aload_n hx hb dX1_lineUp_18 rfl (lv_at hl 0 rfl) ?_
        refine fgX1_0 hx hb hts hown hK hw 0 rfl kw363 dX1_lineUp_19 ?_
        refine fgX2_0 hx hb hts hown hK hw 1 rfl kw299 dX1_lineUp_22 ?_
        refine lv_iload_n hx hb dX1_lineUp_25 rfl (lv_at hl 3 rfl) ?_
        obtain ⟨z2, ez2, h⟩ := z_bd h
        refine xj_i (xrV (As := [.int v3]) (rest := []) ⟨hx, hb, hml, hown, hts⟩ (m_X4_isIn l dC dI _ h_me_isles_now q_me_isles_now k_me_isles_now o_me_isles_now v3 z2 ez2) kw609 kw606 kw607 kw608 kw116 hd_X4_isIn ⟨rfl, rfl⟩ rfl rfl ⟨rfl, rfl⟩ hX hK hw [2] (by decide) rfl rfl rfl rfl rfl hl.1 rfl rfl dX1_lineUp_26) hw hA [2] (by decide) rfl rfl (fun H locs hw => ?_)
        have hw : Wd dC dI A s.heap [wX1 h_me h_me_isles h_me_machine q_me k_me o_me, wX2 h_me_isles h_me_isles_now q_me_isles k_me_isles o_me_isles, wX4 h_me_isles_now q_me_isles_now k_me_isles_now o_me_isles_now, wX3 h_me_machine q_me_machine k_me_machine o_me_machine, wPL o_pool] H locs := hw
        refine lv_if_eq (tgt := 129) hx hb dX1_lineUp_29 (by decide) (fun c => ?_) (fun c => ?_)
        · have h := z_t h c
          exact bk_129_1 (lp_X1_lineUp_Q_7 o_me_isles o_me_isles_now o_pool  N) ih v1 v2 v3 o_me o_me_machine _ _ _ h hw (lv_sub hl [0, 1, 2, 3] rfl)
        · have h := z_f h c
          refine lv_aload_n hx hb dX1_lineUp_32 rfl (lv_at hl 0 rfl) ?_
          refine xaload_n hx hb dX1_lineUp_33 rfl (lv_at hl 1 rfl) ?_
          refine lv_iload_n hx hb dX1_lineUp_34 rfl (lv_at hl 3 rfl) ?_
          refine lv_iload_n hx hb dX1_lineUp_35 rfl (lv_at hl 2 rfl) ?_
          obtain ⟨z4, ez4, h⟩ := z_bd h
          refine xj_i (xrV (As := [va_rf v1, .int v3, .int v2]) (rest := []) ⟨hx, hb, hml, hown, hts⟩ (m_X1_isBarred_Q l dC dI _ h_me h_me_isles h_me_machine h_me_isles_now q_me k_me q_me_isles k_me_isles q_me_isles_now k_me_isles_now q_me_machine k_me_machine o_me o_me_isles o_me_isles_now o_me_machine o_pool v1 v3 v2 z4 ez4) kw585 kw610 kw583 kw584 kw117 hd_X1_isBarred ⟨rfl, rfl⟩ rfl rfl ⟨rfl, rfl⟩ hX hK hw [0, 1, 2, 3, 4] (by decide) rfl rfl rfl rfl rfl hl.1 rfl rfl dX1_lineUp_36) hw hA [0, 1, 2, 3, 4] (by decide) rfl rfl (fun H locs hw => ?_)
          have hw : Wd dC dI A s.heap [wX1 h_me h_me_isles h_me_machine q_me k_me o_me, wX2 h_me_isles h_me_isles_now q_me_isles k_me_isles o_me_isles, wX4 h_me_isles_now q_me_isles_now k_me_isles_now o_me_isles_now, wX3 h_me_machine q_me_machine k_me_machine z4.2, wPL o_pool] H locs := hw
          refine lv_if_ne (tgt := 129) hx hb dX1_lineUp_39 (by decide) (fun c => ?_) (fun c => ?_)
          · have h := z_f h c
            exact bk_129_1 (lp_X1_lineUp_Q_7 o_me_isles o_me_isles_now o_pool  N) ih v1 v2 v3 o_me z4.2 _ _ _ h hw (lv_sub hl [0, 1, 2, 3] rfl)
          · have h := z_t h c
            refine lv_aload_n hx hb dX1_lineUp_42 rfl (lv_at hl 0 rfl) ?_
            refine fgX1_3 hx hb hts hown hK hw 0 rfl kw367 dX1_lineUp_43 ?_
            refine lv_iload_n hx hb dX1_lineUp_46 rfl (lv_at hl 3 rfl) ?_
            refine lv_aload_n hx hb dX1_lineUp_47 rfl (lv_at hl 0 rfl) ?_
            refine xaload_n hx hb dX1_lineUp_48 rfl (lv_at hl 1 rfl) ?_
            refine lv_iload_n hx hb dX1_lineUp_49 rfl (lv_at hl 3 rfl) ?_
            refine lv_iload_n hx hb dX1_lineUp_50 rfl (lv_at hl 2 rfl) ?_
            obtain ⟨z5, ez5, h⟩ := z_bd h
            refine xj_i (xrV (As := [va_rf v1, .int v3, .int v2]) (rest := [.int v3, .ref (q_me 3)]) ⟨hx, hb, hml, hown, hts⟩ (m_X1_runsBy_Q l dC dI _ h_me h_me_isles h_me_machine h_me_isles_now q_me k_me q_me_isles k_me_isles q_me_isles_now k_me_isles_now q_me_machine k_me_machine o_me o_me_isles o_me_isles_now z4.2 o_pool v1 v3 v2 z5 ez5) kw543 kw611 kw541 kw542 kw117 hd_X1_runsBy ⟨rfl, rfl⟩ rfl rfl ⟨rfl, rfl⟩ hX hK hw [0, 1, 2, 3, 4] (by decide) rfl rfl rfl rfl rfl hl.1 rfl rfl dX1_lineUp_51) hw hA [0, 1, 2, 3, 4] (by decide) rfl rfl (fun H locs hw => ?_)
            have hw : Wd dC dI A s.heap [wX1 h_me h_me_isles h_me_machine q_me k_me o_me, wX2 h_me_isles h_me_isles_now q_me_isles k_me_isles o_me_isles, wX4 h_me_isles_now q_me_isles_now k_me_isles_now o_me_isles_now, wX3 h_me_machine q_me_machine k_me_machine z5.2, wPL o_pool] H locs := hw
            obtain ⟨g6, h⟩ := z_gd h
            refine fbX1_3 hx hb hK hw 0 rfl rfl g6 dX1_lineUp_54 (fun H locs hw => ?_)
            obtain ⟨o7, eo7, h⟩ := z_lt h
            have hw : Wd dC dI A s.heap [wX1 h_me h_me_isles h_me_machine q_me k_me o7, wX2 h_me_isles h_me_isles_now q_me_isles k_me_isles o_me_isles, wX4 h_me_isles_now q_me_isles_now k_me_isles_now o_me_isles_now, wX3 h_me_machine q_me_machine k_me_machine z5.2, wPL o_pool] H locs := by rw [eo7]; exact hw
            refine lv_aload_n hx hb dX1_lineUp_55 rfl (lv_at hl 0 rfl) ?_
            refine fgX1_4 hx hb hts hown hK hw 0 rfl kw368 dX1_lineUp_56 ?_
            obtain ⟨x8, ex8, h⟩ := z_lt h
            refine lv_fi (v := x8) ex8.symm ?_
            refine lv_istore (lv' := [(4, .int x8), (0, .ref h_me), (1, va_rf v1), (2, .int v2), (3, .int v3)]) hx hb dX1_lineUp_59 hl (by decide) rfl (fun ls hl => ?_)
            exact lp_61_2 (lp_X1_lineUp_Q_7 o_me_isles o_me_isles_now o_pool  N) ih zfu v1 v2 v3 x8 o7 z5.2 _ _ _ h hw (lv_sub hl [1, 2, 3, 4, 0] rfl)
  unfold f_X1_lineUp_Q at h
  refine lv_aload_n hx hb dX1_lineUp_0 rfl (lv_at hl 0 rfl) ?_
  refine lv_iconst (v := 0) hx hb dX1_lineUp_1 (by decide) ?_
  refine fpX1_4 hx hb hts hown hK hw 0 rfl kw368 dX1_lineUp_2 (fun H locs hw => ?_)
  obtain ⟨o1, eo1, h⟩ := z_lt h
  have hw : Wd dC dI A s.heap [wX1 h_me h_me_isles h_me_machine q_me k_me o1, wX2 h_me_isles h_me_isles_now q_me_isles k_me_isles o_me_isles, wX4 h_me_isles_now q_me_isles_now k_me_isles_now o_me_isles_now, wX3 h_me_machine q_me_machine k_me_machine o_me_machine, wPL o_pool] H locs := by rw [eo1]; exact hw
  refine lv_iconst (v := 0) hx hb dX1_lineUp_5 (by decide) ?_
  refine lv_istore_n (lv' := [(3, .int (0 : Int32)), (0, .ref h_me), (1, va_rf p0), (2, .int p1)]) hx hb dX1_lineUp_6 rfl hl (by decide) rfl (fun ls hl => ?_)
  exact lp_7_0  zfu p0 p1 (0 : Int32) o1 o_me_machine _ _ _ h hw (lv_sub hl [1, 2, 3, 0] rfl)

def bk_X1_moved_N_142 (o_me_isles : Ob) (o_pool : List CR)  (v1 : Int32) (v2 : Int32) (o_me : Ob) (o_me_isles_now : Ob) (o_me_machine : Ob) : Option (Int32 × Ob × Ob × Ob) :=
  if v1 = (0 : Int32) then
  ((f_X1_heldRace o_me o_me_isles o_me_isles_now o_me_machine o_pool v2).bind fun z3 =>
  some (z3.1, o_me, z3.2.1, z3.2.2))
  else
  (if v1 = (1 : Int32) then
  ((f_X1_changedEntry o_me o_me_isles o_me_isles_now v2).bind fun z4 =>
  some (z4.1, o_me, z4.2, o_me_machine))
  else
  (if v1 = (2 : Int32) then
  ((f_X1_takenGap o_me o_me_isles o_me_isles_now v2).bind fun z5 =>
  some (z5.1, o_me, z5.2, o_me_machine))
  else
  ((f_X1_passedYear o_me o_me_isles o_me_isles_now o_me_machine o_pool).bind fun z6 =>
  some (z6.1, o_me, z6.2.1, z6.2.2))))
def bk_X1_moved_N_118 (o_me_isles : Ob) (o_pool : List CR)  (v1 : Int32) (v2 : Int32) (v4 : Int32) (o_me : Ob) (o_me_isles_now : Ob) (o_me_machine : Ob) : Option (Int32 × Ob × Ob × Ob) :=
  if v4 = (0 : Int32) then
  (bk_X1_moved_N_142 o_me_isles o_pool  v1 v2 o_me o_me_isles_now o_me_machine)
  else
  (some (v4, o_me, o_me_isles_now, o_me_machine))
def bk_X1_moved_N_116 (o_me_isles : Ob) (o_pool : List CR)  (v1 : Int32) (v2 : Int32) (s0 : Int32) (o_me : Ob) (o_me_isles_now : Ob) (o_me_machine : Ob) : Option (Int32 × Ob × Ob × Ob) :=
  bk_X1_moved_N_118 o_me_isles o_pool  v1 v2 s0 o_me o_me_isles_now o_me_machine
def bk_X1_moved_N_115 (o_me_isles : Ob) (o_pool : List CR)  (v1 : Int32) (v2 : Int32) (o_me : Ob) (o_me_isles_now : Ob) (o_me_machine : Ob) : Option (Int32 × Ob × Ob × Ob) :=
  bk_X1_moved_N_116 o_me_isles o_pool  v1 v2 (0 : Int32) o_me o_me_isles_now o_me_machine
def bk_X1_moved_N_71 (o_me_isles : Ob) (o_pool : List CR)  (v1 : Int32) (v2 : Int32) (s0 : Int32) (o_me : Ob) (o_me_isles_now : Ob) (o_me_machine : Ob) : Option (Int32 × Ob × Ob × Ob) :=
  bk_X1_moved_N_118 o_me_isles o_pool  v1 v2 s0 o_me o_me_isles_now o_me_machine
def bk_X1_moved_N_39 (o_me_isles : Ob) (o_pool : List CR)  (v1 : Int32) (v2 : Int32) (s0 : Int32) (o_me : Ob) (o_me_isles_now : Ob) (o_me_machine : Ob) : Option (Int32 × Ob × Ob × Ob) :=
  bk_X1_moved_N_118 o_me_isles o_pool  v1 v2 s0 o_me o_me_isles_now o_me_machine
def f_X1_moved_N (o_me : Ob) (o_me_isles : Ob) (o_me_isles_now : Ob) (o_me_machine : Ob) (o_pool : List CR) (p0 : Int32) (p1 : Int32) : Option (Int32 × Ob × Ob × Ob) :=
  if p0 = (0 : Int32) then
  ((f_X8_isRace p1).bind fun z7 =>
  if z7 = (0 : Int32) then
  (bk_X1_moved_N_39 o_me_isles o_pool  p0 p1 (-1 : Int32) o_me o_me_isles_now o_me_machine)
  else
  ((f_X2_lawInForce o_me_isles).bind fun z8 =>
  (f_X1_lineUp_Q o_me o_me_isles o_me_isles_now o_me_machine o_pool z8 p1).bind fun z9 =>
  if z9.1 = (0 : Int32) then
  (bk_X1_moved_N_39 o_me_isles o_pool  p0 p1 (-3 : Int32) z9.2.1 o_me_isles_now z9.2.2)
  else
  (bk_X1_moved_N_39 o_me_isles o_pool  p0 p1 (0 : Int32) z9.2.1 o_me_isles_now z9.2.2)))
  else
  (if p0 = (3 : Int32) then
  (if (gI o_me_isles_now 4) < (999 : Int32) then
  (bk_X1_moved_N_71 o_me_isles o_pool  p0 p1 (0 : Int32) o_me o_me_isles_now o_me_machine)
  else
  (bk_X1_moved_N_71 o_me_isles o_pool  p0 p1 (-3 : Int32) o_me o_me_isles_now o_me_machine))
  else
  ((f_X2_isPerson o_me_isles p1).bind fun z1 =>
  if z1 = (0 : Int32) then
  (bk_X1_moved_N_116 o_me_isles o_pool  p0 p1 (-2 : Int32) o_me o_me_isles_now o_me_machine)
  else
  (if p0 = (2 : Int32) then
  (if (gI o_me_isles_now 3) = (0 : Int32) then
  (bk_X1_moved_N_116 o_me_isles o_pool  p0 p1 (-3 : Int32) o_me o_me_isles_now o_me_machine)
  else
  (bk_X1_moved_N_115 o_me_isles o_pool  p0 p1 o_me o_me_isles_now o_me_machine))
  else
  (bk_X1_moved_N_115 o_me_isles o_pool  p0 p1 o_me o_me_isles_now o_me_machine))))
set_option maxHeartbeats 4000000 in
set_option maxRecDepth 100000 in
theorem m_X1_moved_N (l : Launch) (dC : Nat → ClassId) (dI : Nat → Nat → Nat) (sz : Nat) (h_me : Nat) (h_me_isles : Nat) (h_me_machine : Nat) (h_me_isles_now : Nat) (q_me : Nat → Nat) (k_me : Nat → ClassId) (q_me_isles : Nat → Nat) (k_me_isles : Nat → ClassId) (q_me_isles_now : Nat → Nat) (k_me_isles_now : Nat → ClassId) (q_me_machine : Nat → Nat) (k_me_machine : Nat → ClassId) (o_me : Ob) (o_me_isles : Ob) (o_me_isles_now : Ob) (o_me_machine : Ob) (o_pool : List CR) (p0 : Int32) (p1 : Int32) (y : Int32 × Ob × Ob × Ob) (h : f_X1_moved_N o_me o_me_isles o_me_isles_now o_me_machine o_pool p0 p1 = some y) : CI l yX1_moved cX1_moved 5 (some .int) ({ frames := 5, cells := 0, slots := 0, locals := 139 } : Room) dC dI sz [.ref h_me, .int p0, .int p1, .null] [wX1 h_me h_me_isles h_me_machine q_me k_me o_me, wX2 h_me_isles h_me_isles_now q_me_isles k_me_isles o_me_isles, wX4 h_me_isles_now q_me_isles_now k_me_isles_now o_me_isles_now, wX3 h_me_machine q_me_machine k_me_machine o_me_machine, wPL o_pool] [tX1 k_me, tX2 k_me_isles, tX4 k_me_isles_now, tX3 k_me_machine, tPL o_pool] y.1 [wX1 h_me h_me_isles h_me_machine q_me k_me y.2.1, wX2 h_me_isles h_me_isles_now q_me_isles k_me_isles o_me_isles, wX4 h_me_isles_now q_me_isles_now k_me_isles_now y.2.2.1, wX3 h_me_machine q_me_machine k_me_machine y.2.2.2, wPL o_pool] := by
  refine CC_of (by decide) (Nat.le_of_ble_eq_true rfl) ?_
  intro p e s m below meth c A ls hx hb hml hr hlk hnm hown hts hX hK hP hD hA hl
  have hl : lv_has ls 5 [(0, .ref h_me), (1, .int p0), (2, .int p1), (3, .null)] := hl
  have hown : s.vm.findClass RX1 = some m.cls := hown
  have hw : Wd dC dI A s.heap [wX1 h_me h_me_isles h_me_machine q_me k_me o_me, wX2 h_me_isles h_me_isles_now q_me_isles k_me_isles o_me_isles, wX4 h_me_isles_now q_me_isles_now k_me_isles_now o_me_isles_now, wX3 h_me_machine q_me_machine k_me_machine o_me_machine, wPL o_pool] s.heap [] := ⟨hP, hD, va_S.rf⟩
  generalize hQz : (MQ below (QI dC dI (fun r (_ : Unit) => r = y.1) (fun _ => Jn [wX1 h_me h_me_isles h_me_machine q_me k_me y.2.1, wX2 h_me_isles h_me_isles_now q_me_isles k_me_isles o_me_isles, wX4 h_me_isles_now q_me_isles_now k_me_isles_now y.2.2.1, wX3 h_me_machine q_me_machine k_me_machine y.2.2.2, wPL o_pool]) (fun _ => Jt [tX1 k_me, tX2 k_me_isles, tX4 k_me_isles_now, tX3 k_me_machine, tPL o_pool]) A) ([.ref h_me, .int p0, .int p1, .null] : List Value).toArray s 0 0 A) = Qz
  clear hP hD hnm
  have bk_142_3 : ∀ (v1 : Int32) (v2 : Int32) (o_me : Ob) (o_me_isles_now : Ob) (o_me_machine : Ob) (H : Heap) (locs : List Loc) (ls : Array Slot), bk_X1_moved_N_142 o_me_isles o_pool  v1 v2 o_me o_me_isles_now o_me_machine = some y → Wd dC dI A s.heap [wX1 h_me h_me_isles h_me_machine q_me k_me o_me, wX2 h_me_isles h_me_isles_now q_me_isles k_me_isles o_me_isles, wX4 h_me_isles_now q_me_isles_now k_me_isles_now o_me_isles_now, wX3 h_me_machine q_me_machine k_me_machine o_me_machine, wPL o_pool] H locs → lv_has ls 5 [(0, .ref h_me), (1, .int v1), (2, .int v2)] → W p l e ({ frames := 5, cells := 0, slots := 0, locals := 139 } : Room) s m ([.ref h_me, .int p0, .int p1, .null] : List Value).toArray below meth c H locs 0 0 Qz (F0 m 142 ls []) := by
    intro v1 v2 o_me o_me_isles_now o_me_machine H locs ls h hw hl
    unfold bk_X1_moved_N_142 at h
    refine lv_iload_n hx hb dX1_moved_142 rfl (lv_at hl 1 rfl) ?_
    rcases (show v1.toInt = 0 ∨ v1.toInt = 1 ∨ v1.toInt = 2 ∨ (v1.toInt < 0 ∨ 2 < v1.toInt) by omega) with c2 | c2 | c2 | c2
    · skip
      have ec2 : v1 = (0 : Int32) := Int32.toInt_inj.mp (c2.trans (by decide))
      have h := z_t h ec2
      refine lv_fi (v := 0) ec2 ?_
      refine lv_tableIn (tgt := 168) hx hb dX1_moved_143 (by decide) (by decide) rfl (by decide) ?_
      refine lv_aload_n hx hb dX1_moved_168 rfl (lv_at hl 0 rfl) ?_
      refine lv_iload_n hx hb dX1_moved_169 rfl (lv_at hl 2 rfl) ?_
      obtain ⟨z3, ez3, h⟩ := z_bd h
      refine xj_i (xrV (As := [.int v2]) (rest := []) ⟨hx, hb, hml, hown, hts⟩ (m_X1_heldRace l dC dI _ h_me h_me_isles h_me_machine h_me_isles_now q_me k_me q_me_isles k_me_isles q_me_isles_now k_me_isles_now q_me_machine k_me_machine o_me o_me_isles o_me_isles_now o_me_machine o_pool v2 z3 ez3) kw866 kw863 kw865 kw20 kw117 hd_X1_heldRace ⟨rfl, rfl⟩ rfl rfl ⟨rfl, rfl⟩ hX hK hw [0, 1, 2, 3, 4] (by decide) rfl rfl rfl rfl rfl hl.1 rfl rfl dX1_moved_170) hw hA [0, 1, 2, 3, 4] (by decide) rfl rfl (fun H locs hw => ?_)
      have hw : Wd dC dI A s.heap [wX1 h_me h_me_isles h_me_machine q_me k_me o_me, wX2 h_me_isles h_me_isles_now q_me_isles k_me_isles o_me_isles, wX4 h_me_isles_now q_me_isles_now k_me_isles_now z3.2.1, wX3 h_me_machine q_me_machine k_me_machine z3.2.2, wPL o_pool] H locs := hw
      have hy := Option.some.inj h
      rw [← hQz, ← hy]
      exact xr_i (v := z3.1) hx hb hr rfl hlk hK hw dX1_moved_173
    · skip
      have h := z_f h (fun e9 => by rw [e9] at c2; revert c2; decide)
      have ec2 : v1 = (1 : Int32) := Int32.toInt_inj.mp (c2.trans (by decide))
      have h := z_t h ec2
      refine lv_fi (v := 1) ec2 ?_
      refine lv_tableIn (tgt := 174) hx hb dX1_moved_143 (by decide) (by decide) rfl (by decide) ?_
      refine lv_aload_n hx hb dX1_moved_174 rfl (lv_at hl 0 rfl) ?_
      refine lv_iload_n hx hb dX1_moved_175 rfl (lv_at hl 2 rfl) ?_
      obtain ⟨z4, ez4, h⟩ := z_bd h
      refine xj_i (xrV (As := [.int v2]) (rest := []) ⟨hx, hb, hml, hown, hts⟩ (m_X1_changedEntry l dC dI _ h_me h_me_isles h_me_machine h_me_isles_now q_me k_me q_me_isles k_me_isles q_me_isles_now k_me_isles_now o_me o_me_isles o_me_isles_now v2 z4 ez4) kw885 kw882 kw884 kw22 kw117 hd_X1_changedEntry ⟨rfl, rfl⟩ rfl rfl ⟨rfl, rfl⟩ hX hK hw [0, 1, 2] (by decide) rfl rfl rfl rfl rfl hl.1 rfl rfl dX1_moved_176) hw hA [0, 1, 2] (by decide) rfl rfl (fun H locs hw => ?_)
      have hw : Wd dC dI A s.heap [wX1 h_me h_me_isles h_me_machine q_me k_me o_me, wX2 h_me_isles h_me_isles_now q_me_isles k_me_isles o_me_isles, wX4 h_me_isles_now q_me_isles_now k_me_isles_now z4.2, wX3 h_me_machine q_me_machine k_me_machine o_me_machine, wPL o_pool] H locs := hw
      have hy := Option.some.inj h
      rw [← hQz, ← hy]
      exact xr_i (v := z4.1) hx hb hr rfl hlk hK hw dX1_moved_179
    · skip
      have h := z_f h (fun e9 => by rw [e9] at c2; revert c2; decide)
      have h := z_f h (fun e9 => by rw [e9] at c2; revert c2; decide)
      have ec2 : v1 = (2 : Int32) := Int32.toInt_inj.mp (c2.trans (by decide))
      have h := z_t h ec2
      refine lv_fi (v := 2) ec2 ?_
      refine lv_tableIn (tgt := 180) hx hb dX1_moved_143 (by decide) (by decide) rfl (by decide) ?_
      refine lv_aload_n hx hb dX1_moved_180 rfl (lv_at hl 0 rfl) ?_
      refine lv_iload_n hx hb dX1_moved_181 rfl (lv_at hl 2 rfl) ?_
      obtain ⟨z5, ez5, h⟩ := z_bd h
      refine xj_i (xrV (As := [.int v2]) (rest := []) ⟨hx, hb, hml, hown, hts⟩ (m_X1_takenGap l dC dI _ h_me h_me_isles h_me_machine h_me_isles_now q_me k_me q_me_isles k_me_isles q_me_isles_now k_me_isles_now o_me o_me_isles o_me_isles_now v2 z5 ez5) kw889 kw886 kw888 kw23 kw117 hd_X1_takenGap ⟨rfl, rfl⟩ rfl rfl ⟨rfl, rfl⟩ hX hK hw [0, 1, 2] (by decide) rfl rfl rfl rfl rfl hl.1 rfl rfl dX1_moved_182) hw hA [0, 1, 2] (by decide) rfl rfl (fun H locs hw => ?_)
      have hw : Wd dC dI A s.heap [wX1 h_me h_me_isles h_me_machine q_me k_me o_me, wX2 h_me_isles h_me_isles_now q_me_isles k_me_isles o_me_isles, wX4 h_me_isles_now q_me_isles_now k_me_isles_now z5.2, wX3 h_me_machine q_me_machine k_me_machine o_me_machine, wPL o_pool] H locs := hw
      have hy := Option.some.inj h
      rw [← hQz, ← hy]
      exact xr_i (v := z5.1) hx hb hr rfl hlk hK hw dX1_moved_185
    · skip
      have h := z_f h (fun e9 => by rw [e9] at c2; revert c2; decide)
      have h := z_f h (fun e9 => by rw [e9] at c2; revert c2; decide)
      have h := z_f h (fun e9 => by rw [e9] at c2; revert c2; decide)
      refine lv_tableOut (tgt := 186) hx hb dX1_moved_143 c2 (by decide) ?_
      refine lv_aload_n hx hb dX1_moved_186 rfl (lv_at hl 0 rfl) ?_
      obtain ⟨z6, ez6, h⟩ := z_bd h
      refine xj_i (xrV (As := []) (rest := []) ⟨hx, hb, hml, hown, hts⟩ (m_X1_passedYear l dC dI _ h_me h_me_isles h_me_machine h_me_isles_now q_me k_me q_me_isles k_me_isles q_me_isles_now k_me_isles_now q_me_machine k_me_machine o_me o_me_isles o_me_isles_now o_me_machine o_pool z6 ez6) kw893 kw890 kw892 kw24 kw117 hd_X1_passedYear ⟨rfl, rfl⟩ rfl rfl ⟨rfl, rfl⟩ hX hK hw [0, 1, 2, 3, 4] (by decide) rfl rfl rfl rfl rfl hl.1 rfl rfl dX1_moved_187) hw hA [0, 1, 2, 3, 4] (by decide) rfl rfl (fun H locs hw => ?_)
      have hw : Wd dC dI A s.heap [wX1 h_me h_me_isles h_me_machine q_me k_me o_me, wX2 h_me_isles h_me_isles_now q_me_isles k_me_isles o_me_isles, wX4 h_me_isles_now q_me_isles_now k_me_isles_now z6.2.1, wX3 h_me_machine q_me_machine k_me_machine z6.2.2, wPL o_pool] H locs := hw
      have hy := Option.some.inj h
      rw [← hQz, ← hy]
      exact xr_i (v := z6.1) hx hb hr rfl hlk hK hw dX1_moved_190
  have bk_118_2 : ∀ (v1 : Int32) (v2 : Int32) (v4 : Int32) (o_me : Ob) (o_me_isles_now : Ob) (o_me_machine : Ob) (H : Heap) (locs : List Loc) (ls : Array Slot), bk_X1_moved_N_118 o_me_isles o_pool  v1 v2 v4 o_me o_me_isles_now o_me_machine = some y → Wd dC dI A s.heap [wX1 h_me h_me_isles h_me_machine q_me k_me o_me, wX2 h_me_isles h_me_isles_now q_me_isles k_me_isles o_me_isles, wX4 h_me_isles_now q_me_isles_now k_me_isles_now o_me_isles_now, wX3 h_me_machine q_me_machine k_me_machine o_me_machine, wPL o_pool] H locs → lv_has ls 5 [(0, .ref h_me), (1, .int v1), (2, .int v2), (3, .null), (4, .int v4)] → W p l e ({ frames := 5, cells := 0, slots := 0, locals := 139 } : Room) s m ([.ref h_me, .int p0, .int p1, .null] : List Value).toArray below meth c H locs 0 0 Qz (F0 m 118 ls []) := by
    intro v1 v2 v4 o_me o_me_isles_now o_me_machine H locs ls h hw hl
    unfold bk_X1_moved_N_118 at h
    refine lv_iload hx hb dX1_moved_118 (lv_at hl 4 rfl) ?_
    refine lv_if_eq (tgt := 126) hx hb dX1_moved_120 (by decide) (fun c => ?_) (fun c => ?_)
    · have h := z_t h c
      refine lv_aload_nN hx hb dX1_moved_126 rfl (lv_at hl 3 rfl) ?_
      refine lv_ifnullN (tgt := 142) hx hb dX1_moved_127 (by decide) ?_
      exact bk_142_3  v1 v2 o_me o_me_isles_now o_me_machine _ _ _ h hw (lv_sub hl [0, 1, 2] rfl)
    · have h := z_f h c
      refine lv_iload hx hb dX1_moved_123 (lv_at hl 4 rfl) ?_
      have hy := Option.some.inj h
      rw [← hQz, ← hy]
      exact xr_i (v := v4) hx hb hr rfl hlk hK hw dX1_moved_125
  have bk_116_1 : ∀ (v1 : Int32) (v2 : Int32) (s0 : Int32) (o_me : Ob) (o_me_isles_now : Ob) (o_me_machine : Ob) (H : Heap) (locs : List Loc) (ls : Array Slot), bk_X1_moved_N_116 o_me_isles o_pool  v1 v2 s0 o_me o_me_isles_now o_me_machine = some y → Wd dC dI A s.heap [wX1 h_me h_me_isles h_me_machine q_me k_me o_me, wX2 h_me_isles h_me_isles_now q_me_isles k_me_isles o_me_isles, wX4 h_me_isles_now q_me_isles_now k_me_isles_now o_me_isles_now, wX3 h_me_machine q_me_machine k_me_machine o_me_machine, wPL o_pool] H locs → lv_has ls 5 [(0, .ref h_me), (1, .int v1), (2, .int v2), (3, .null)] → W p l e ({ frames := 5, cells := 0, slots := 0, locals := 139 } : Room) s m ([.ref h_me, .int p0, .int p1, .null] : List Value).toArray below meth c H locs 0 0 Qz (F0 m 116 ls [.int s0]) := by
    intro v1 v2 s0 o_me o_me_isles_now o_me_machine H locs ls h hw hl
    unfold bk_X1_moved_N_116 at h
    refine lv_istore (lv' := [(4, .int s0), (0, .ref h_me), (1, .int v1), (2, .int v2), (3, .null)]) hx hb dX1_moved_116 hl (by decide) rfl (fun ls hl => ?_)
    exact bk_118_2  v1 v2 s0 o_me o_me_isles_now o_me_machine _ _ _ h hw (lv_sub hl [1, 2, 3, 4, 0] rfl)
  have bk_115_0 : ∀ (v1 : Int32) (v2 : Int32) (o_me : Ob) (o_me_isles_now : Ob) (o_me_machine : Ob) (H : Heap) (locs : List Loc) (ls : Array Slot), bk_X1_moved_N_115 o_me_isles o_pool  v1 v2 o_me o_me_isles_now o_me_machine = some y → Wd dC dI A s.heap [wX1 h_me h_me_isles h_me_machine q_me k_me o_me, wX2 h_me_isles h_me_isles_now q_me_isles k_me_isles o_me_isles, wX4 h_me_isles_now q_me_isles_now k_me_isles_now o_me_isles_now, wX3 h_me_machine q_me_machine k_me_machine o_me_machine, wPL o_pool] H locs → lv_has ls 5 [(0, .ref h_me), (1, .int v1), (2, .int v2), (3, .null)] → W p l e ({ frames := 5, cells := 0, slots := 0, locals := 139 } : Room) s m ([.ref h_me, .int p0, .int p1, .null] : List Value).toArray below meth c H locs 0 0 Qz (F0 m 115 ls []) := by
    intro v1 v2 o_me o_me_isles_now o_me_machine H locs ls h hw hl
    unfold bk_X1_moved_N_115 at h
    refine lv_iconst (v := 0) hx hb dX1_moved_115 (by decide) ?_
    exact bk_116_1  v1 v2 (0 : Int32) o_me o_me_isles_now o_me_machine _ _ _ h hw (lv_sub hl [0, 1, 2, 3] rfl)
  have bk_71_4 : ∀ (v1 : Int32) (v2 : Int32) (s0 : Int32) (o_me : Ob) (o_me_isles_now : Ob) (o_me_machine : Ob) (H : Heap) (locs : List Loc) (ls : Array Slot), bk_X1_moved_N_71 o_me_isles o_pool  v1 v2 s0 o_me o_me_isles_now o_me_machine = some y → Wd dC dI A s.heap [wX1 h_me h_me_isles h_me_machine q_me k_me o_me, wX2 h_me_isles h_me_isles_now q_me_isles k_me_isles o_me_isles, wX4 h_me_isles_now q_me_isles_now k_me_isles_now o_me_isles_now, wX3 h_me_machine q_me_machine k_me_machine o_me_machine, wPL o_pool] H locs → lv_has ls 5 [(0, .ref h_me), (1, .int v1), (2, .int v2), (3, .null)] → W p l e ({ frames := 5, cells := 0, slots := 0, locals := 139 } : Room) s m ([.ref h_me, .int p0, .int p1, .null] : List Value).toArray below meth c H locs 0 0 Qz (F0 m 71 ls [.int s0]) := by
    intro v1 v2 s0 o_me o_me_isles_now o_me_machine H locs ls h hw hl
    unfold bk_X1_moved_N_71 at h
    refine lv_istore (lv' := [(4, .int s0), (0, .ref h_me), (1, .int v1), (2, .int v2), (3, .null)]) hx hb dX1_moved_71 hl (by decide) rfl (fun ls hl => ?_)
    refine lv_goto (tgt := 118) hx hb dX1_moved_73 (by decide) ?_
    exact bk_118_2  v1 v2 s0 o_me o_me_isles_now o_me_machine _ _ _ h hw (lv_sub hl [1, 2, 3, 4, 0] rfl)
  have bk_39_5 : ∀ (v1 : Int32) (v2 : Int32) (s0 : Int32) (o_me : Ob) (o_me_isles_now : Ob) (o_me_machine : Ob) (H : Heap) (locs : List Loc) (ls : Array Slot), bk_X1_moved_N_39 o_me_isles o_pool  v1 v2 s0 o_me o_me_isles_now o_me_machine = some y → Wd dC dI A s.heap [wX1 h_me h_me_isles h_me_machine q_me k_me o_me, wX2 h_me_isles h_me_isles_now q_me_isles k_me_isles o_me_isles, wX4 h_me_isles_now q_me_isles_now k_me_isles_now o_me_isles_now, wX3 h_me_machine q_me_machine k_me_machine o_me_machine, wPL o_pool] H locs → lv_has ls 5 [(0, .ref h_me), (1, .int v1), (2, .int v2), (3, .null)] → W p l e ({ frames := 5, cells := 0, slots := 0, locals := 139 } : Room) s m ([.ref h_me, .int p0, .int p1, .null] : List Value).toArray below meth c H locs 0 0 Qz (F0 m 39 ls [.int s0]) := by
    intro v1 v2 s0 o_me o_me_isles_now o_me_machine H locs ls h hw hl
    unfold bk_X1_moved_N_39 at h
    refine lv_istore (lv' := [(4, .int s0), (0, .ref h_me), (1, .int v1), (2, .int v2), (3, .null)]) hx hb dX1_moved_39 hl (by decide) rfl (fun ls hl => ?_)
    refine lv_goto (tgt := 118) hx hb dX1_moved_41 (by decide) ?_
    exact bk_118_2  v1 v2 s0 o_me o_me_isles_now o_me_machine _ _ _ h hw (lv_sub hl [1, 2, 3, 4, 0] rfl)
  unfold f_X1_moved_N at h
  refine lv_iconst (v := 0) hx hb dX1_moved_0 (by decide) ?_
  refine lv_istore (lv' := [(4, .int (0 : Int32)), (0, .ref h_me), (1, .int p0), (2, .int p1), (3, .null)]) hx hb dX1_moved_1 hl (by decide) rfl (fun ls hl => ?_)
  refine lv_iload_n hx hb dX1_moved_3 rfl (lv_at hl 2 rfl) ?_
  refine lv_if_ne (tgt := 44) hx hb dX1_moved_4 (by decide) (fun c => ?_) (fun c => ?_)
  · have h := z_f h c
    refine lv_iload_n hx hb dX1_moved_44 rfl (lv_at hl 2 rfl) ?_
    refine lv_iconst (v := 3) hx hb dX1_moved_45 (by decide) ?_
    refine lv_icmp_ne (tgt := 76) hx hb dX1_moved_46 (by decide) (fun c => ?_) (fun c => ?_)
    · have h := z_f h c
      refine lv_aload_n hx hb dX1_moved_76 rfl (lv_at hl 1 rfl) ?_
      refine fgX1_0 hx hb hts hown hK hw 0 rfl kw363 dX1_moved_77 ?_
      refine lv_iload_n hx hb dX1_moved_80 rfl (lv_at hl 3 rfl) ?_
      obtain ⟨z1, ez1, h⟩ := z_bd h
      refine xj_i (xrV (As := [.int p1]) (rest := []) ⟨hx, hb, hml, hown, hts⟩ (m_X2_isPerson l dC dI _ h_me_isles h_me_isles_now q_me_isles k_me_isles o_me_isles p1 z1 ez1) kw504 kw548 kw502 kw503 kw115 hd_X2_isPerson ⟨rfl, rfl⟩ rfl rfl ⟨rfl, rfl⟩ hX hK hw [1] (by decide) rfl rfl rfl rfl rfl hl.1 rfl rfl dX1_moved_81) hw hA [1] (by decide) rfl rfl (fun H locs hw => ?_)
      have hw : Wd dC dI A s.heap [wX1 h_me h_me_isles h_me_machine q_me k_me o_me, wX2 h_me_isles h_me_isles_now q_me_isles k_me_isles o_me_isles, wX4 h_me_isles_now q_me_isles_now k_me_isles_now o_me_isles_now, wX3 h_me_machine q_me_machine k_me_machine o_me_machine, wPL o_pool] H locs := hw
      refine lv_if_ne (tgt := 92) hx hb dX1_moved_84 (by decide) (fun c => ?_) (fun c => ?_)
      · have h := z_f h c
        refine lv_iload_n hx hb dX1_moved_92 rfl (lv_at hl 2 rfl) ?_
        refine lv_iconst (v := 2) hx hb dX1_moved_93 (by decide) ?_
        refine lv_icmp_ne (tgt := 115) hx hb dX1_moved_94 (by decide) (fun c => ?_) (fun c => ?_)
        · have h := z_f h c
          exact bk_115_0  p0 p1 o_me o_me_isles_now o_me_machine _ _ _ h hw (lv_sub hl [1, 2, 3, 4] rfl)
        · have h := z_t h c
          refine lv_aload_n hx hb dX1_moved_97 rfl (lv_at hl 1 rfl) ?_
          refine fgX1_0 hx hb hts hown hK hw 0 rfl kw363 dX1_moved_98 ?_
          refine fgX2_0 hx hb hts hown hK hw 1 rfl kw299 dX1_moved_101 ?_
          refine fgX4_3 hx hb hts hown hK hw 2 rfl kw275 dX1_moved_104 ?_
          refine lv_if_ne (tgt := 115) hx hb dX1_moved_107 (by decide) (fun c => ?_) (fun c => ?_)
          · have h := z_f h c
            exact bk_115_0  p0 p1 o_me o_me_isles_now o_me_machine _ _ _ h hw (lv_sub hl [1, 2, 3, 4] rfl)
          · have h := z_t h c
            refine lv_bipush (v := (-3)) hx hb dX1_moved_110 (by decide) ?_
            refine lv_goto (tgt := 116) hx hb dX1_moved_112 (by decide) ?_
            exact bk_116_1  p0 p1 (-3 : Int32) o_me o_me_isles_now o_me_machine _ _ _ h hw (lv_sub hl [1, 2, 3, 4] rfl)
      · have h := z_t h c
        refine lv_bipush (v := (-2)) hx hb dX1_moved_87 (by decide) ?_
        refine lv_goto (tgt := 116) hx hb dX1_moved_89 (by decide) ?_
        exact bk_116_1  p0 p1 (-2 : Int32) o_me o_me_isles_now o_me_machine _ _ _ h hw (lv_sub hl [1, 2, 3, 4] rfl)
    · have h := z_t h c
      refine lv_aload_n hx hb dX1_moved_49 rfl (lv_at hl 1 rfl) ?_
      refine fgX1_0 hx hb hts hown hK hw 0 rfl kw363 dX1_moved_50 ?_
      refine fgX2_0 hx hb hts hown hK hw 1 rfl kw299 dX1_moved_53 ?_
      refine fgX4_4 hx hb hts hown hK hw 2 rfl kw280 dX1_moved_56 ?_
      refine lv_sipush (v := 999) hx hb dX1_moved_59 (by decide) ?_
      refine lv_icmp_lt (tgt := 70) hx hb dX1_moved_62 (by decide) (fun c => ?_) (fun c => ?_)
      · have h := z_t h c
        refine lv_iconst (v := 0) hx hb dX1_moved_70 (by decide) ?_
        exact bk_71_4  p0 p1 (0 : Int32) o_me o_me_isles_now o_me_machine _ _ _ h hw (lv_sub hl [1, 2, 3, 4] rfl)
      · have h := z_f h c
        refine lv_bipush (v := (-3)) hx hb dX1_moved_65 (by decide) ?_
        refine lv_goto (tgt := 71) hx hb dX1_moved_67 (by decide) ?_
        exact bk_71_4  p0 p1 (-3 : Int32) o_me o_me_isles_now o_me_machine _ _ _ h hw (lv_sub hl [1, 2, 3, 4] rfl)
  · have h := z_t h c
    refine lv_iload_n hx hb dX1_moved_7 rfl (lv_at hl 3 rfl) ?_
    obtain ⟨z7, ez7, h⟩ := z_bd h
    refine xj_i (xrSN (As := [.int p1]) (rest := []) ⟨hx, hb, hml, hown, hts⟩ (m_X8_isRace l dC dI _  p1 z7 ez7) kw527 (hX.1.2.2.2.2.2.2.1) kw526 kw110 hd_X8_isRace ⟨rfl, rfl⟩ rfl rfl ⟨rfl, rfl⟩ hX hK hw [] (by decide) rfl rfl hl.1 rfl rfl dX1_moved_8) hw hA [] (by decide) rfl rfl (fun H locs hw => ?_)
    refine lv_if_ne (tgt := 18) hx hb dX1_moved_11 (by decide) (fun c => ?_) (fun c => ?_)
    · have h := z_f h c
      refine lv_aload_n hx hb dX1_moved_18 rfl (lv_at hl 1 rfl) ?_
      refine lv_aload_n hx hb dX1_moved_19 rfl (lv_at hl 1 rfl) ?_
      refine fgX1_0 hx hb hts hown hK hw 0 rfl kw363 dX1_moved_20 ?_
      obtain ⟨z8, ez8, h⟩ := z_bd h
      refine xj_q (xrV (As := []) (rest := [.ref h_me]) ⟨hx, hb, hml, hown, hts⟩ (m_X2_lawInForce l dC dI _ h_me_isles h_me_isles_now q_me_isles k_me_isles o_me_isles z8 ez8) kw531 kw853 kw529 kw530 kw115 hd_X2_lawInForce ⟨rfl, rfl⟩ rfl rfl ⟨rfl, rfl⟩ hX hK hw [1] (by decide) rfl rfl rfl rfl rfl hl.1 rfl rfl dX1_moved_23) hw hA [1] (by decide) rfl rfl (fun H locs hw => ?_)
      have hw : Wd dC dI A s.heap [wX1 h_me h_me_isles h_me_machine q_me k_me o_me, wX2 h_me_isles h_me_isles_now q_me_isles k_me_isles o_me_isles, wX4 h_me_isles_now q_me_isles_now k_me_isles_now o_me_isles_now, wX3 h_me_machine q_me_machine k_me_machine o_me_machine, wPL o_pool] H locs := hw
      refine lv_iload_n hx hb dX1_moved_26 rfl (lv_at hl 3 rfl) ?_
      obtain ⟨z9, ez9, h⟩ := z_bd h
      refine xj_i (xrV (As := [va_rf z8, .int p1]) (rest := []) ⟨hx, hb, hml, hown, hts⟩ (m_X1_lineUp_Q l dC dI _ h_me h_me_isles h_me_machine h_me_isles_now q_me k_me q_me_isles k_me_isles q_me_isles_now k_me_isles_now q_me_machine k_me_machine o_me o_me_isles o_me_isles_now o_me_machine o_pool z8 p1 z9 ez9) kw605 kw854 kw603 kw604 kw117 hd_X1_lineUp ⟨rfl, rfl⟩ rfl rfl ⟨rfl, rfl⟩ hX hK hw [0, 1, 2, 3, 4] (by decide) rfl rfl rfl rfl rfl hl.1 rfl rfl dX1_moved_27) hw hA [0, 1, 2, 3, 4] (by decide) rfl rfl (fun H locs hw => ?_)
      have hw : Wd dC dI A s.heap [wX1 h_me h_me_isles h_me_machine q_me k_me z9.2.1, wX2 h_me_isles h_me_isles_now q_me_isles k_me_isles o_me_isles, wX4 h_me_isles_now q_me_isles_now k_me_isles_now o_me_isles_now, wX3 h_me_machine q_me_machine k_me_machine z9.2.2, wPL o_pool] H locs := hw
      refine lv_if_ne (tgt := 38) hx hb dX1_moved_30 (by decide) (fun c => ?_) (fun c => ?_)
      · have h := z_f h c
        refine lv_iconst (v := 0) hx hb dX1_moved_38 (by decide) ?_
        exact bk_39_5  p0 p1 (0 : Int32) z9.2.1 o_me_isles_now z9.2.2 _ _ _ h hw (lv_sub hl [1, 2, 3, 4] rfl)
      · have h := z_t h c
        refine lv_bipush (v := (-3)) hx hb dX1_moved_33 (by decide) ?_
        refine lv_goto (tgt := 39) hx hb dX1_moved_35 (by decide) ?_
        exact bk_39_5  p0 p1 (-3 : Int32) z9.2.1 o_me_isles_now z9.2.2 _ _ _ h hw (lv_sub hl [1, 2, 3, 4] rfl)
    · have h := z_t h c
      refine lv_iconst (v := (-1)) hx hb dX1_moved_14 (by decide) ?_
      refine lv_goto (tgt := 39) hx hb dX1_moved_15 (by decide) ?_
      exact bk_39_5  p0 p1 (-1 : Int32) o_me o_me_isles_now o_me_machine _ _ _ h hw (lv_sub hl [1, 2, 3, 4] rfl)

def bk_X8_centuries_22 (o_me_isles : Ob) (o_me_isles_now : Ob) (o_pool : List CR)  (o_me : Ob) (o_me_machine : Ob) (o_me_paper : Ob) (o_me_paper_now : Ob) (o_me_paperCourt : Ob) : Option (Int32 × Ob × Ob × Ob × Ob × Ob) :=
  (f_X8_refuse o_me (-1 : Int32)).bind fun z1 =>
  some (z1.1, z1.2, o_me_machine, o_me_paper, o_me_paper_now, o_me_paperCourt)
def bk_X8_centuries_194 (o_me_isles : Ob) (o_me_isles_now : Ob) (o_pool : List CR)  (v4 : Int32) (o_me : Ob) (o_me_machine : Ob) (o_me_paper : Ob) (o_me_paper_now : Ob) (o_me_paperCourt : Ob) : Option (Int32 × Ob × Ob × Ob × Ob × Ob) :=
  (f_X8_grant o_me v4).bind fun z3 =>
  some (z3.1, z3.2, o_me_machine, o_me_paper, o_me_paper_now, o_me_paperCourt)
def bk_X8_centuries_177 (o_me_isles : Ob) (o_me_isles_now : Ob) (o_pool : List CR) (rec_64_1 : Int32 × Int32 × Int32 × Int32 × Ob × Ob × Ob × Ob × Ob → Option (Int32 × Ob × Ob × Ob × Ob × Ob)) (v2 : Int32) (v3 : Int32) (v4 : Int32) (v5 : Int32) (o_me : Ob) (o_me_machine : Ob) (o_me_paper : Ob) (o_me_paper_now : Ob) (o_me_paperCourt : Ob) : Option (Int32 × Ob × Ob × Ob × Ob × Ob) :=
  (f_X1_moved_N o_me_paperCourt o_me_paper o_me_paper_now o_me_machine o_pool (3 : Int32) (0 : Int32)).bind fun z9 =>
  zlt (v5 + (1 : Int32)) fun x10 =>
  rec_64_1 (v2, v3, v4, x10, o_me, z9.2.2.2, o_me_paper, z9.2.2.1, z9.2.1)
def bk_X8_centuries_158 (o_me_isles : Ob) (o_me_isles_now : Ob) (o_pool : List CR) (rec_64_1 : Int32 × Int32 × Int32 × Int32 × Ob × Ob × Ob × Ob × Ob → Option (Int32 × Ob × Ob × Ob × Ob × Ob)) (v2 : Int32) (v3 : Int32) (v4 : Int32) (v5 : Int32) (v8 : Int32) (s0 : Int32) (s1 : Int32) (o_me : Ob) (o_me_machine : Ob) (o_me_paper : Ob) (o_me_paper_now : Ob) (o_me_paperCourt : Ob) : Option (Int32 × Ob × Ob × Ob × Ob × Ob) :=
  (f_X1_moved_N o_me_paperCourt o_me_paper o_me_paper_now o_me_machine o_pool s1 s0).bind fun z8 =>
  if v8 = (0 : Int32) then
  (if z8.1 < (0 : Int32) then
  (bk_X8_centuries_177 o_me_isles o_me_isles_now o_pool rec_64_1 v2 v3 v4 v5 o_me z8.2.2.2 o_me_paper z8.2.2.1 z8.2.1)
  else
  (zlt (v4 + (1 : Int32)) fun x11 =>
  bk_X8_centuries_177 o_me_isles o_me_isles_now o_pool rec_64_1 v2 v3 x11 v5 o_me z8.2.2.2 o_me_paper z8.2.2.1 z8.2.1))
  else
  (bk_X8_centuries_177 o_me_isles o_me_isles_now o_pool rec_64_1 v2 v3 v4 v5 o_me z8.2.2.2 o_me_paper z8.2.2.1 z8.2.1)
def bk_X8_centuries_128 (o_me_isles : Ob) (o_me_isles_now : Ob) (o_pool : List CR) (rec_64_1 : Int32 × Int32 × Int32 × Int32 × Ob × Ob × Ob × Ob × Ob → Option (Int32 × Ob × Ob × Ob × Ob × Ob)) (v2 : Int32) (v3 : Int32) (v4 : Int32) (v5 : Int32) (v6 : Int32) (v7 : Int32) (s0 : Int32) (o_me : Ob) (o_me_machine : Ob) (o_me_paper : Ob) (o_me_paper_now : Ob) (o_me_paperCourt : Ob) : Option (Int32 × Ob × Ob × Ob × Ob × Ob) :=
  if s0 = (0 : Int32) then
  (bk_X8_centuries_158 o_me_isles o_me_isles_now o_pool rec_64_1 v2 v3 v4 v5 s0 (v7 - v7 / (4 : Int32) * (4 : Int32)) s0 o_me o_me_machine o_me_paper o_me_paper_now o_me_paperCourt)
  else
  (zgd (decide (¬ (gI o_me_isles 7) = 0)) <|
  bk_X8_centuries_158 o_me_isles o_me_isles_now o_pool rec_64_1 v2 v3 v4 v5 s0 (v6 - v6 / (gI o_me_isles 7) * (gI o_me_isles 7)) s0 o_me o_me_machine o_me_paper o_me_paper_now o_me_paperCourt)
def lb_X8_centuries_64 (o_me_isles : Ob) (o_me_isles_now : Ob) (o_pool : List CR)  (rec_64_1 : Int32 × Int32 × Int32 × Int32 × Ob × Ob × Ob × Ob × Ob → Option (Int32 × Ob × Ob × Ob × Ob × Ob)) (v2 : Int32) (v3 : Int32) (v4 : Int32) (v5 : Int32) (o_me : Ob) (o_me_machine : Ob) (o_me_paper : Ob) (o_me_paper_now : Ob) (o_me_paperCourt : Ob) : Option (Int32 × Ob × Ob × Ob × Ob × Ob) :=
  if v2 ≤ v5 then
  (bk_X8_centuries_194 o_me_isles o_me_isles_now o_pool  v4 o_me o_me_machine o_me_paper o_me_paper_now o_me_paperCourt)
  else
  (if (999 : Int32) ≤ (gI o_me_paper_now 4) then
  (bk_X8_centuries_194 o_me_isles o_me_isles_now o_pool  v4 o_me o_me_machine o_me_paper o_me_paper_now o_me_paperCourt)
  else
  ((f_X8_nextDraw v3).bind fun z4 =>
  (f_X8_nextDraw z4).bind fun z5 =>
  (f_X8_nextDraw z5).bind fun z6 =>
  if (2 : Int32) ≤ (z6 - z6 / (4 : Int32) * (4 : Int32)) then
  (if (z6 - z6 / (4 : Int32) * (4 : Int32)) = (2 : Int32) then
  (bk_X8_centuries_128 o_me_isles o_me_isles_now o_pool rec_64_1 v2 z6 v4 v5 z4 z5 (0 : Int32) o_me o_me_machine o_me_paper o_me_paper_now o_me_paperCourt)
  else
  (bk_X8_centuries_128 o_me_isles o_me_isles_now o_pool rec_64_1 v2 z6 v4 v5 z4 z5 (2 : Int32) o_me o_me_machine o_me_paper o_me_paper_now o_me_paperCourt))
  else
  (bk_X8_centuries_128 o_me_isles o_me_isles_now o_pool rec_64_1 v2 z6 v4 v5 z4 z5 (1 : Int32) o_me o_me_machine o_me_paper o_me_paper_now o_me_paperCourt)))
def lp_X8_centuries_64 (o_me_isles : Ob) (o_me_isles_now : Ob) (o_pool : List CR)  : Nat → (Int32 × Int32 × Int32 × Int32 × Ob × Ob × Ob × Ob × Ob) → Option (Int32 × Ob × Ob × Ob × Ob × Ob) := zit (fun rec a => lb_X8_centuries_64 o_me_isles o_me_isles_now o_pool  rec a.1 a.2.1 a.2.2.1 a.2.2.2.1 a.2.2.2.2.1 a.2.2.2.2.2.1 a.2.2.2.2.2.2.1 a.2.2.2.2.2.2.2.1 a.2.2.2.2.2.2.2.2)
def f_X8_centuries (o_me : Ob) (o_me_machine : Ob) (o_me_isles : Ob) (o_me_isles_now : Ob) (o_me_paper : Ob) (o_me_paper_now : Ob) (o_me_paperCourt : Ob) (o_pool : List CR) (p0 : Int32) (p1 : Int32) : Option (Int32 × Ob × Ob × Ob × Ob × Ob) :=
  if p0 < (0 : Int32) then
  (bk_X8_centuries_22 o_me_isles o_me_isles_now o_pool  o_me o_me_machine o_me_paper o_me_paper_now o_me_paperCourt)
  else
  (if (1000000 : Int32) < p0 then
  (bk_X8_centuries_22 o_me_isles o_me_isles_now o_pool  o_me o_me_machine o_me_paper o_me_paper_now o_me_paperCourt)
  else
  (if p1 < (1 : Int32) then
  (bk_X8_centuries_22 o_me_isles o_me_isles_now o_pool  o_me o_me_machine o_me_paper o_me_paper_now o_me_paperCourt)
  else
  (if p1 ≤ (60 : Int32) then
  (if (gI o_me_isles 7) = (0 : Int32) then
  ((f_X8_refuse o_me (-3 : Int32)).bind fun z12 =>
  some (z12.1, z12.2, o_me_machine, o_me_paper, o_me_paper_now, o_me_paperCourt))
  else
  ((f_X2_set_O o_me_paper o_me_paper_now o_pool o_me_isles o_me_isles_now).bind fun z2 =>
  lp_X8_centuries_64 o_me_isles o_me_isles_now o_pool  zfu (p1, p0, (0 : Int32), (0 : Int32), o_me, o_me_machine, z2.1, z2.2, o_me_paperCourt)))
  else
  (bk_X8_centuries_22 o_me_isles o_me_isles_now o_pool  o_me o_me_machine o_me_paper o_me_paper_now o_me_paperCourt))))
set_option maxHeartbeats 4000000 in
set_option maxRecDepth 100000 in
theorem m_X8_centuries (l : Launch) (dC : Nat → ClassId) (dI : Nat → Nat → Nat) (sz : Nat) (h_me : Nat) (h_me_reader : Nat) (h_me_machine : Nat) (h_me_isles : Nat) (h_me_court : Nat) (h_me_study : Nat) (h_me_paper : Nat) (h_me_paperCourt : Nat) (h_me_past : Nat) (h_me_pastAhead : Nat) (h_me_movingAhead : Nat) (h_me_isles_now : Nat) (h_me_paper_now : Nat) (q_me : Nat → Nat) (k_me : Nat → ClassId) (q_me_machine : Nat → Nat) (k_me_machine : Nat → ClassId) (q_me_isles : Nat → Nat) (k_me_isles : Nat → ClassId) (q_me_isles_now : Nat → Nat) (k_me_isles_now : Nat → ClassId) (q_me_paper : Nat → Nat) (k_me_paper : Nat → ClassId) (q_me_paper_now : Nat → Nat) (k_me_paper_now : Nat → ClassId) (q_me_paperCourt : Nat → Nat) (k_me_paperCourt : Nat → ClassId) (o_me : Ob) (o_me_machine : Ob) (o_me_isles : Ob) (o_me_isles_now : Ob) (o_me_paper : Ob) (o_me_paper_now : Ob) (o_me_paperCourt : Ob) (o_pool : List CR) (p0 : Int32) (p1 : Int32) (y : Int32 × Ob × Ob × Ob × Ob × Ob) (h : f_X8_centuries o_me o_me_machine o_me_isles o_me_isles_now o_me_paper o_me_paper_now o_me_paperCourt o_pool p0 p1 = some y) : CI l yX8_centuries cX8_centuries 10 (some .int) ({ frames := 6, cells := 0, slots := 0, locals := 163 } : Room) dC dI sz [.ref h_me, .int p0, .int p1] [wX8 h_me h_me_reader h_me_machine h_me_isles h_me_court h_me_study h_me_paper h_me_paperCourt h_me_past h_me_pastAhead h_me_movingAhead q_me k_me o_me, wX3 h_me_machine q_me_machine k_me_machine o_me_machine, wX2 h_me_isles h_me_isles_now q_me_isles k_me_isles o_me_isles, wX4 h_me_isles_now q_me_isles_now k_me_isles_now o_me_isles_now, wX2 h_me_paper h_me_paper_now q_me_paper k_me_paper o_me_paper, wX4 h_me_paper_now q_me_paper_now k_me_paper_now o_me_paper_now, wX1 h_me_paperCourt h_me_paper h_me_machine q_me_paperCourt k_me_paperCourt o_me_paperCourt, wPL o_pool] [tX8 k_me, tX3 k_me_machine, tX2 k_me_isles, tX4 k_me_isles_now, tX2 k_me_paper, tX4 k_me_paper_now, tX1 k_me_paperCourt, tPL o_pool] y.1 [wX8 h_me h_me_reader h_me_machine h_me_isles h_me_court h_me_study h_me_paper h_me_paperCourt h_me_past h_me_pastAhead h_me_movingAhead q_me k_me y.2.1, wX3 h_me_machine q_me_machine k_me_machine y.2.2.1, wX2 h_me_isles h_me_isles_now q_me_isles k_me_isles o_me_isles, wX4 h_me_isles_now q_me_isles_now k_me_isles_now o_me_isles_now, wX2 h_me_paper h_me_paper_now q_me_paper k_me_paper y.2.2.2.1, wX4 h_me_paper_now q_me_paper_now k_me_paper_now y.2.2.2.2.1, wX1 h_me_paperCourt h_me_paper h_me_machine q_me_paperCourt k_me_paperCourt y.2.2.2.2.2, wPL o_pool] := by
  refine CC_of (by decide) (Nat.le_of_ble_eq_true rfl) ?_
  intro p e s m below meth c A ls hx hb hml hr hlk hnm hown hts hX hK hP hD hA hl
  have hl : lv_has ls 10 [(0, .ref h_me), (1, .int p0), (2, .int p1)] := hl
  have hown : s.vm.findClass RX8 = some m.cls := hown
  have hw : Wd dC dI A s.heap [wX8 h_me h_me_reader h_me_machine h_me_isles h_me_court h_me_study h_me_paper h_me_paperCourt h_me_past h_me_pastAhead h_me_movingAhead q_me k_me o_me, wX3 h_me_machine q_me_machine k_me_machine o_me_machine, wX2 h_me_isles h_me_isles_now q_me_isles k_me_isles o_me_isles, wX4 h_me_isles_now q_me_isles_now k_me_isles_now o_me_isles_now, wX2 h_me_paper h_me_paper_now q_me_paper k_me_paper o_me_paper, wX4 h_me_paper_now q_me_paper_now k_me_paper_now o_me_paper_now, wX1 h_me_paperCourt h_me_paper h_me_machine q_me_paperCourt k_me_paperCourt o_me_paperCourt, wPL o_pool] s.heap [] := ⟨hP, hD, va_S.rf⟩
  generalize hQz : (MQ below (QI dC dI (fun r (_ : Unit) => r = y.1) (fun _ => Jn [wX8 h_me h_me_reader h_me_machine h_me_isles h_me_court h_me_study h_me_paper h_me_paperCourt h_me_past h_me_pastAhead h_me_movingAhead q_me k_me y.2.1, wX3 h_me_machine q_me_machine k_me_machine y.2.2.1, wX2 h_me_isles h_me_isles_now q_me_isles k_me_isles o_me_isles, wX4 h_me_isles_now q_me_isles_now k_me_isles_now o_me_isles_now, wX2 h_me_paper h_me_paper_now q_me_paper k_me_paper y.2.2.2.1, wX4 h_me_paper_now q_me_paper_now k_me_paper_now y.2.2.2.2.1, wX1 h_me_paperCourt h_me_paper h_me_machine q_me_paperCourt k_me_paperCourt y.2.2.2.2.2, wPL o_pool]) (fun _ => Jt [tX8 k_me, tX3 k_me_machine, tX2 k_me_isles, tX4 k_me_isles_now, tX2 k_me_paper, tX4 k_me_paper_now, tX1 k_me_paperCourt, tPL o_pool]) A) ([.ref h_me, .int p0, .int p1] : List Value).toArray s 0 0 A) = Qz
  clear hP hD hnm
  have bk_22_0 : ∀ (o_me : Ob) (o_me_machine : Ob) (o_me_paper : Ob) (o_me_paper_now : Ob) (o_me_paperCourt : Ob) (H : Heap) (locs : List Loc) (ls : Array Slot), bk_X8_centuries_22 o_me_isles o_me_isles_now o_pool  o_me o_me_machine o_me_paper o_me_paper_now o_me_paperCourt = some y → Wd dC dI A s.heap [wX8 h_me h_me_reader h_me_machine h_me_isles h_me_court h_me_study h_me_paper h_me_paperCourt h_me_past h_me_pastAhead h_me_movingAhead q_me k_me o_me, wX3 h_me_machine q_me_machine k_me_machine o_me_machine, wX2 h_me_isles h_me_isles_now q_me_isles k_me_isles o_me_isles, wX4 h_me_isles_now q_me_isles_now k_me_isles_now o_me_isles_now, wX2 h_me_paper h_me_paper_now q_me_paper k_me_paper o_me_paper, wX4 h_me_paper_now q_me_paper_now k_me_paper_now o_me_paper_now, wX1 h_me_paperCourt h_me_paper h_me_machine q_me_paperCourt k_me_paperCourt o_me_paperCourt, wPL o_pool] H locs → lv_has ls 10 [(0, .ref h_me)] → W p l e ({ frames := 6, cells := 0, slots := 0, locals := 163 } : Room) s m ([.ref h_me, .int p0, .int p1] : List Value).toArray below meth c H locs 0 0 Qz (F0 m 22 ls []) := by
    intro o_me o_me_machine o_me_paper o_me_paper_now o_me_paperCourt H locs ls h hw hl
    unfold bk_X8_centuries_22 at h
    refine lv_aload_n hx hb dX8_centuries_22 rfl (lv_at hl 0 rfl) ?_
    refine lv_iconst (v := (-1)) hx hb dX8_centuries_23 (by decide) ?_
    obtain ⟨z1, ez1, h⟩ := z_bd h
    refine xj_i (xrV (As := [.int (-1 : Int32)]) (rest := []) ⟨hx, hb, hml, hown, hts⟩ (m_X8_refuse l dC dI _ h_me h_me_reader h_me_machine h_me_isles h_me_court h_me_study h_me_paper h_me_paperCourt h_me_past h_me_pastAhead h_me_movingAhead q_me k_me o_me (-1 : Int32) z1 ez1) kw508 kw505 kw507 kw0 kw110 hd_X8_refuse ⟨rfl, rfl⟩ rfl rfl ⟨rfl, rfl⟩ hX hK hw [0] (by decide) rfl rfl rfl rfl rfl hl.1 rfl rfl dX8_centuries_24) hw hA [0] (by decide) rfl rfl (fun H locs hw => ?_)
    have hw : Wd dC dI A s.heap [wX8 h_me h_me_reader h_me_machine h_me_isles h_me_court h_me_study h_me_paper h_me_paperCourt h_me_past h_me_pastAhead h_me_movingAhead q_me k_me z1.2, wX3 h_me_machine q_me_machine k_me_machine o_me_machine, wX2 h_me_isles h_me_isles_now q_me_isles k_me_isles o_me_isles, wX4 h_me_isles_now q_me_isles_now k_me_isles_now o_me_isles_now, wX2 h_me_paper h_me_paper_now q_me_paper k_me_paper o_me_paper, wX4 h_me_paper_now q_me_paper_now k_me_paper_now o_me_paper_now, wX1 h_me_paperCourt h_me_paper h_me_machine q_me_paperCourt k_me_paperCourt o_me_paperCourt, wPL o_pool] H locs := hw
    have hy := Option.some.inj h
    rw [← hQz, ← hy]
    exact xr_i (v := z1.1) hx hb hr rfl hlk hK hw dX8_centuries_27
  have bk_194_2 : ∀ (v4 : Int32) (o_me : Ob) (o_me_machine : Ob) (o_me_paper : Ob) (o_me_paper_now : Ob) (o_me_paperCourt : Ob) (H : Heap) (locs : List Loc) (ls : Array Slot), bk_X8_centuries_194 o_me_isles o_me_isles_now o_pool  v4 o_me o_me_machine o_me_paper o_me_paper_now o_me_paperCourt = some y → Wd dC dI A s.heap [wX8 h_me h_me_reader h_me_machine h_me_isles h_me_court h_me_study h_me_paper h_me_paperCourt h_me_past h_me_pastAhead h_me_movingAhead q_me k_me o_me, wX3 h_me_machine q_me_machine k_me_machine o_me_machine, wX2 h_me_isles h_me_isles_now q_me_isles k_me_isles o_me_isles, wX4 h_me_isles_now q_me_isles_now k_me_isles_now o_me_isles_now, wX2 h_me_paper h_me_paper_now q_me_paper k_me_paper o_me_paper, wX4 h_me_paper_now q_me_paper_now k_me_paper_now o_me_paper_now, wX1 h_me_paperCourt h_me_paper h_me_machine q_me_paperCourt k_me_paperCourt o_me_paperCourt, wPL o_pool] H locs → lv_has ls 10 [(0, .ref h_me), (4, .int v4)] → W p l e ({ frames := 6, cells := 0, slots := 0, locals := 163 } : Room) s m ([.ref h_me, .int p0, .int p1] : List Value).toArray below meth c H locs 0 0 Qz (F0 m 194 ls []) := by
    intro v4 o_me o_me_machine o_me_paper o_me_paper_now o_me_paperCourt H locs ls h hw hl
    unfold bk_X8_centuries_194 at h
    refine lv_aload_n hx hb dX8_centuries_194 rfl (lv_at hl 0 rfl) ?_
    refine lv_iload hx hb dX8_centuries_195 (lv_at hl 1 rfl) ?_
    obtain ⟨z3, ez3, h⟩ := z_bd h
    refine xj_i (xrV (As := [.int v4]) (rest := []) ⟨hx, hb, hml, hown, hts⟩ (m_X8_grant l dC dI _ h_me h_me_reader h_me_machine h_me_isles h_me_court h_me_study h_me_paper h_me_paperCourt h_me_past h_me_pastAhead h_me_movingAhead q_me k_me o_me v4 z3 ez3) kw520 kw517 kw519 kw1 kw110 hd_X8_grant ⟨rfl, rfl⟩ rfl rfl ⟨rfl, rfl⟩ hX hK hw [0] (by decide) rfl rfl rfl rfl rfl hl.1 rfl rfl dX8_centuries_197) hw hA [0] (by decide) rfl rfl (fun H locs hw => ?_)
    have hw : Wd dC dI A s.heap [wX8 h_me h_me_reader h_me_machine h_me_isles h_me_court h_me_study h_me_paper h_me_paperCourt h_me_past h_me_pastAhead h_me_movingAhead q_me k_me z3.2, wX3 h_me_machine q_me_machine k_me_machine o_me_machine, wX2 h_me_isles h_me_isles_now q_me_isles k_me_isles o_me_isles, wX4 h_me_isles_now q_me_isles_now k_me_isles_now o_me_isles_now, wX2 h_me_paper h_me_paper_now q_me_paper k_me_paper o_me_paper, wX4 h_me_paper_now q_me_paper_now k_me_paper_now o_me_paper_now, wX1 h_me_paperCourt h_me_paper h_me_machine q_me_paperCourt k_me_paperCourt o_me_paperCourt, wPL o_pool] H locs := hw
    have hy := Option.some.inj h
    rw [← hQz, ← hy]
    exact xr_i (v := z3.1) hx hb hr rfl hlk hK hw dX8_centuries_200
  have bk_177_5 : ∀ (rec_64_1 : Int32 × Int32 × Int32 × Int32 × Ob × Ob × Ob × Ob × Ob → Option (Int32 × Ob × Ob × Ob × Ob × Ob)) (hrec_64_1 : ∀ (v2 : Int32) (v3 : Int32) (v4 : Int32) (v5 : Int32) (o_me : Ob) (o_me_machine : Ob) (o_me_paper : Ob) (o_me_paper_now : Ob) (o_me_paperCourt : Ob) (H : Heap) (locs : List Loc) (ls : Array Slot), rec_64_1 (v2, v3, v4, v5, o_me, o_me_machine, o_me_paper, o_me_paper_now, o_me_paperCourt) = some y → Wd dC dI A s.heap [wX8 h_me h_me_reader h_me_machine h_me_isles h_me_court h_me_study h_me_paper h_me_paperCourt h_me_past h_me_pastAhead h_me_movingAhead q_me k_me o_me, wX3 h_me_machine q_me_machine k_me_machine o_me_machine, wX2 h_me_isles h_me_isles_now q_me_isles k_me_isles o_me_isles, wX4 h_me_isles_now q_me_isles_now k_me_isles_now o_me_isles_now, wX2 h_me_paper h_me_paper_now q_me_paper k_me_paper o_me_paper, wX4 h_me_paper_now q_me_paper_now k_me_paper_now o_me_paper_now, wX1 h_me_paperCourt h_me_paper h_me_machine q_me_paperCourt k_me_paperCourt o_me_paperCourt, wPL o_pool] H locs → lv_has ls 10 [(0, .ref h_me), (2, .int v2), (3, .int v3), (4, .int v4), (5, .int v5)] → W p l e ({ frames := 6, cells := 0, slots := 0, locals := 163 } : Room) s m ([.ref h_me, .int p0, .int p1] : List Value).toArray below meth c H locs 0 0 Qz (F0 m 64 ls [])), ∀ (v2 : Int32) (v3 : Int32) (v4 : Int32) (v5 : Int32) (o_me : Ob) (o_me_machine : Ob) (o_me_paper : Ob) (o_me_paper_now : Ob) (o_me_paperCourt : Ob) (H : Heap) (locs : List Loc) (ls : Array Slot), bk_X8_centuries_177 o_me_isles o_me_isles_now o_pool rec_64_1 v2 v3 v4 v5 o_me o_me_machine o_me_paper o_me_paper_now o_me_paperCourt = some y → Wd dC dI A s.heap [wX8 h_me h_me_reader h_me_machine h_me_isles h_me_court h_me_study h_me_paper h_me_paperCourt h_me_past h_me_pastAhead h_me_movingAhead q_me k_me o_me, wX3 h_me_machine q_me_machine k_me_machine o_me_machine, wX2 h_me_isles h_me_isles_now q_me_isles k_me_isles o_me_isles, wX4 h_me_isles_now q_me_isles_now k_me_isles_now o_me_isles_now, wX2 h_me_paper h_me_paper_now q_me_paper k_me_paper o_me_paper, wX4 h_me_paper_now q_me_paper_now k_me_paper_now o_me_paper_now, wX1 h_me_paperCourt h_me_paper h_me_machine q_me_paperCourt k_me_paperCourt o_me_paperCourt, wPL o_pool] H locs → lv_has ls 10 [(0, .ref h_me), (2, .int v2), (3, .int v3), (4, .int v4), (5, .int v5)] → W p l e ({ frames := 6, cells := 0, slots := 0, locals := 163 } : Room) s m ([.ref h_me, .int p0, .int p1] : List Value).toArray below meth c H locs 0 0 Qz (F0 m 177 ls []) := by
    intro rec_64_1 hrec_64_1
    intro v2 v3 v4 v5 o_me o_me_machine o_me_paper o_me_paper_now o_me_paperCourt H locs ls h hw hl
    unfold bk_X8_centuries_177 at h
    refine lv_aload_n hx hb dX8_centuries_177 rfl (lv_at hl 0 rfl) ?_
    refine fgX8_6 hx hb hts hown hK hw 0 rfl kw448 dX8_centuries_178 ?_
    refine lv_iconst (v := 3) hx hb dX8_centuries_181 (by decide) ?_
    refine lv_iconst (v := 0) hx hb dX8_centuries_182 (by decide) ?_
    refine lv_null hx hb dX8_centuries_183 ?_
    obtain ⟨z9, ez9, h⟩ := z_bd h
    refine xj_i (xrV (As := [.int (3 : Int32), .int (0 : Int32), .null]) (rest := []) ⟨hx, hb, hml, hown, hts⟩ (m_X1_moved_N l dC dI _ h_me_paperCourt h_me_paper h_me_machine h_me_paper_now q_me_paperCourt k_me_paperCourt q_me_paper k_me_paper q_me_paper_now k_me_paper_now q_me_machine k_me_machine o_me_paperCourt o_me_paper o_me_paper_now o_me_machine o_pool (3 : Int32) (0 : Int32) z9 ez9) kw852 kw849 kw850 kw851 kw117 hd_X1_moved ⟨rfl, rfl⟩ rfl rfl ⟨rfl, rfl⟩ hX hK hw [6, 4, 5, 1, 7] (by decide) rfl rfl rfl rfl rfl hl.1 rfl rfl dX8_centuries_184) hw hA [6, 4, 5, 1, 7] (by decide) rfl rfl (fun H locs hw => ?_)
    have hw : Wd dC dI A s.heap [wX8 h_me h_me_reader h_me_machine h_me_isles h_me_court h_me_study h_me_paper h_me_paperCourt h_me_past h_me_pastAhead h_me_movingAhead q_me k_me o_me, wX3 h_me_machine q_me_machine k_me_machine z9.2.2.2, wX2 h_me_isles h_me_isles_now q_me_isles k_me_isles o_me_isles, wX4 h_me_isles_now q_me_isles_now k_me_isles_now o_me_isles_now, wX2 h_me_paper h_me_paper_now q_me_paper k_me_paper o_me_paper, wX4 h_me_paper_now q_me_paper_now k_me_paper_now z9.2.2.1, wX1 h_me_paperCourt h_me_paper h_me_machine q_me_paperCourt k_me_paperCourt z9.2.1, wPL o_pool] H locs := hw
    refine lv_pop hx hb dX8_centuries_187 rfl ?_
    obtain ⟨x10, ex10, h⟩ := z_lt h
    refine lv_iinc (v := x10) (lv' := [(5, .int x10), (0, .ref h_me), (2, .int v2), (3, .int v3), (4, .int v4)]) hx hb dX8_centuries_188 hl (k := 4) rfl ((congrArg (v5 + ·) (show Int32.ofInt 1 = (1 : Int32) from by decide)).trans ex10.symm) (by decide) rfl (fun ls hl => ?_)
    refine lv_goto (tgt := 64) hx hb dX8_centuries_191 (by decide) ?_
    exact hrec_64_1 v2 v3 v4 x10 o_me z9.2.2.2 o_me_paper z9.2.2.1 z9.2.1 _ _ _ h hw (lv_sub hl [1, 2, 3, 4, 0] rfl)
  have bk_158_4 : ∀ (rec_64_1 : Int32 × Int32 × Int32 × Int32 × Ob × Ob × Ob × Ob × Ob → Option (Int32 × Ob × Ob × Ob × Ob × Ob)) (hrec_64_1 : ∀ (v2 : Int32) (v3 : Int32) (v4 : Int32) (v5 : Int32) (o_me : Ob) (o_me_machine : Ob) (o_me_paper : Ob) (o_me_paper_now : Ob) (o_me_paperCourt : Ob) (H : Heap) (locs : List Loc) (ls : Array Slot), rec_64_1 (v2, v3, v4, v5, o_me, o_me_machine, o_me_paper, o_me_paper_now, o_me_paperCourt) = some y → Wd dC dI A s.heap [wX8 h_me h_me_reader h_me_machine h_me_isles h_me_court h_me_study h_me_paper h_me_paperCourt h_me_past h_me_pastAhead h_me_movingAhead q_me k_me o_me, wX3 h_me_machine q_me_machine k_me_machine o_me_machine, wX2 h_me_isles h_me_isles_now q_me_isles k_me_isles o_me_isles, wX4 h_me_isles_now q_me_isles_now k_me_isles_now o_me_isles_now, wX2 h_me_paper h_me_paper_now q_me_paper k_me_paper o_me_paper, wX4 h_me_paper_now q_me_paper_now k_me_paper_now o_me_paper_now, wX1 h_me_paperCourt h_me_paper h_me_machine q_me_paperCourt k_me_paperCourt o_me_paperCourt, wPL o_pool] H locs → lv_has ls 10 [(0, .ref h_me), (2, .int v2), (3, .int v3), (4, .int v4), (5, .int v5)] → W p l e ({ frames := 6, cells := 0, slots := 0, locals := 163 } : Room) s m ([.ref h_me, .int p0, .int p1] : List Value).toArray below meth c H locs 0 0 Qz (F0 m 64 ls [])), ∀ (v2 : Int32) (v3 : Int32) (v4 : Int32) (v5 : Int32) (v8 : Int32) (s0 : Int32) (s1 : Int32) (o_me : Ob) (o_me_machine : Ob) (o_me_paper : Ob) (o_me_paper_now : Ob) (o_me_paperCourt : Ob) (H : Heap) (locs : List Loc) (ls : Array Slot), bk_X8_centuries_158 o_me_isles o_me_isles_now o_pool rec_64_1 v2 v3 v4 v5 v8 s0 s1 o_me o_me_machine o_me_paper o_me_paper_now o_me_paperCourt = some y → Wd dC dI A s.heap [wX8 h_me h_me_reader h_me_machine h_me_isles h_me_court h_me_study h_me_paper h_me_paperCourt h_me_past h_me_pastAhead h_me_movingAhead q_me k_me o_me, wX3 h_me_machine q_me_machine k_me_machine o_me_machine, wX2 h_me_isles h_me_isles_now q_me_isles k_me_isles o_me_isles, wX4 h_me_isles_now q_me_isles_now k_me_isles_now o_me_isles_now, wX2 h_me_paper h_me_paper_now q_me_paper k_me_paper o_me_paper, wX4 h_me_paper_now q_me_paper_now k_me_paper_now o_me_paper_now, wX1 h_me_paperCourt h_me_paper h_me_machine q_me_paperCourt k_me_paperCourt o_me_paperCourt, wPL o_pool] H locs → lv_has ls 10 [(0, .ref h_me), (2, .int v2), (3, .int v3), (4, .int v4), (5, .int v5), (8, .int v8)] → W p l e ({ frames := 6, cells := 0, slots := 0, locals := 163 } : Room) s m ([.ref h_me, .int p0, .int p1] : List Value).toArray below meth c H locs 0 0 Qz (F0 m 158 ls [.int s0, .int s1, .ref h_me_paperCourt]) := by
    intro rec_64_1 hrec_64_1
    intro v2 v3 v4 v5 v8 s0 s1 o_me o_me_machine o_me_paper o_me_paper_now o_me_paperCourt H locs ls h hw hl
    unfold bk_X8_centuries_158 at h
    refine lv_null hx hb dX8_centuries_158 ?_
    obtain ⟨z8, ez8, h⟩ := z_bd h
    refine xj_i (xrV (As := [.int s1, .int s0, .null]) (rest := []) ⟨hx, hb, hml, hown, hts⟩ (m_X1_moved_N l dC dI _ h_me_paperCourt h_me_paper h_me_machine h_me_paper_now q_me_paperCourt k_me_paperCourt q_me_paper k_me_paper q_me_paper_now k_me_paper_now q_me_machine k_me_machine o_me_paperCourt o_me_paper o_me_paper_now o_me_machine o_pool s1 s0 z8 ez8) kw852 kw849 kw850 kw851 kw117 hd_X1_moved ⟨rfl, rfl⟩ rfl rfl ⟨rfl, rfl⟩ hX hK hw [6, 4, 5, 1, 7] (by decide) rfl rfl rfl rfl rfl hl.1 rfl rfl dX8_centuries_159) hw hA [6, 4, 5, 1, 7] (by decide) rfl rfl (fun H locs hw => ?_)
    have hw : Wd dC dI A s.heap [wX8 h_me h_me_reader h_me_machine h_me_isles h_me_court h_me_study h_me_paper h_me_paperCourt h_me_past h_me_pastAhead h_me_movingAhead q_me k_me o_me, wX3 h_me_machine q_me_machine k_me_machine z8.2.2.2, wX2 h_me_isles h_me_isles_now q_me_isles k_me_isles o_me_isles, wX4 h_me_isles_now q_me_isles_now k_me_isles_now o_me_isles_now, wX2 h_me_paper h_me_paper_now q_me_paper k_me_paper o_me_paper, wX4 h_me_paper_now q_me_paper_now k_me_paper_now z8.2.2.1, wX1 h_me_paperCourt h_me_paper h_me_machine q_me_paperCourt k_me_paperCourt z8.2.1, wPL o_pool] H locs := hw
    refine lv_istore (lv' := [(9, .int z8.1), (0, .ref h_me), (2, .int v2), (3, .int v3), (4, .int v4), (5, .int v5), (8, .int v8)]) hx hb dX8_centuries_162 hl (by decide) rfl (fun ls hl => ?_)
    refine lv_iload hx hb dX8_centuries_164 (lv_at hl 6 rfl) ?_
    refine lv_if_ne (tgt := 177) hx hb dX8_centuries_166 (by decide) (fun c => ?_) (fun c => ?_)
    · have h := z_f h c
      exact bk_177_5 rec_64_1 hrec_64_1 v2 v3 v4 v5 o_me z8.2.2.2 o_me_paper z8.2.2.1 z8.2.1 _ _ _ h hw (lv_sub hl [1, 2, 3, 4, 5] rfl)
    · have h := z_t h c
      refine lv_iload hx hb dX8_centuries_169 (lv_at hl 0 rfl) ?_
      refine lv_if_lt (tgt := 177) hx hb dX8_centuries_171 (by decide) (fun c => ?_) (fun c => ?_)
      · have h := z_t h c
        exact bk_177_5 rec_64_1 hrec_64_1 v2 v3 v4 v5 o_me z8.2.2.2 o_me_paper z8.2.2.1 z8.2.1 _ _ _ h hw (lv_sub hl [1, 2, 3, 4, 5] rfl)
      · have h := z_f h c
        obtain ⟨x11, ex11, h⟩ := z_lt h
        refine lv_iinc (v := x11) (lv' := [(4, .int x11), (9, .int z8.1), (0, .ref h_me), (2, .int v2), (3, .int v3), (5, .int v5), (8, .int v8)]) hx hb dX8_centuries_174 hl (k := 4) rfl ((congrArg (v4 + ·) (show Int32.ofInt 1 = (1 : Int32) from by decide)).trans ex11.symm) (by decide) rfl (fun ls hl => ?_)
        exact bk_177_5 rec_64_1 hrec_64_1 v2 v3 x11 v5 o_me z8.2.2.2 o_me_paper z8.2.2.1 z8.2.1 _ _ _ h hw (lv_sub hl [2, 3, 4, 0, 5] rfl)
  have bk_128_3 : ∀ (rec_64_1 : Int32 × Int32 × Int32 × Int32 × Ob × Ob × Ob × Ob × Ob → Option (Int32 × Ob × Ob × Ob × Ob × Ob)) (hrec_64_1 : ∀ (v2 : Int32) (v3 : Int32) (v4 : Int32) (v5 : Int32) (o_me : Ob) (o_me_machine : Ob) (o_me_paper : Ob) (o_me_paper_now : Ob) (o_me_paperCourt : Ob) (H : Heap) (locs : List Loc) (ls : Array Slot), rec_64_1 (v2, v3, v4, v5, o_me, o_me_machine, o_me_paper, o_me_paper_now, o_me_paperCourt) = some y → Wd dC dI A s.heap [wX8 h_me h_me_reader h_me_machine h_me_isles h_me_court h_me_study h_me_paper h_me_paperCourt h_me_past h_me_pastAhead h_me_movingAhead q_me k_me o_me, wX3 h_me_machine q_me_machine k_me_machine o_me_machine, wX2 h_me_isles h_me_isles_now q_me_isles k_me_isles o_me_isles, wX4 h_me_isles_now q_me_isles_now k_me_isles_now o_me_isles_now, wX2 h_me_paper h_me_paper_now q_me_paper k_me_paper o_me_paper, wX4 h_me_paper_now q_me_paper_now k_me_paper_now o_me_paper_now, wX1 h_me_paperCourt h_me_paper h_me_machine q_me_paperCourt k_me_paperCourt o_me_paperCourt, wPL o_pool] H locs → lv_has ls 10 [(0, .ref h_me), (2, .int v2), (3, .int v3), (4, .int v4), (5, .int v5)] → W p l e ({ frames := 6, cells := 0, slots := 0, locals := 163 } : Room) s m ([.ref h_me, .int p0, .int p1] : List Value).toArray below meth c H locs 0 0 Qz (F0 m 64 ls [])), ∀ (v2 : Int32) (v3 : Int32) (v4 : Int32) (v5 : Int32) (v6 : Int32) (v7 : Int32) (s0 : Int32) (o_me : Ob) (o_me_machine : Ob) (o_me_paper : Ob) (o_me_paper_now : Ob) (o_me_paperCourt : Ob) (H : Heap) (locs : List Loc) (ls : Array Slot), bk_X8_centuries_128 o_me_isles o_me_isles_now o_pool rec_64_1 v2 v3 v4 v5 v6 v7 s0 o_me o_me_machine o_me_paper o_me_paper_now o_me_paperCourt = some y → Wd dC dI A s.heap [wX8 h_me h_me_reader h_me_machine h_me_isles h_me_court h_me_study h_me_paper h_me_paperCourt h_me_past h_me_pastAhead h_me_movingAhead q_me k_me o_me, wX3 h_me_machine q_me_machine k_me_machine o_me_machine, wX2 h_me_isles h_me_isles_now q_me_isles k_me_isles o_me_isles, wX4 h_me_isles_now q_me_isles_now k_me_isles_now o_me_isles_now, wX2 h_me_paper h_me_paper_now q_me_paper k_me_paper o_me_paper, wX4 h_me_paper_now q_me_paper_now k_me_paper_now o_me_paper_now, wX1 h_me_paperCourt h_me_paper h_me_machine q_me_paperCourt k_me_paperCourt o_me_paperCourt, wPL o_pool] H locs → lv_has ls 10 [(0, .ref h_me), (2, .int v2), (3, .int v3), (4, .int v4), (5, .int v5), (6, .int v6), (7, .int v7)] → W p l e ({ frames := 6, cells := 0, slots := 0, locals := 163 } : Room) s m ([.ref h_me, .int p0, .int p1] : List Value).toArray below meth c H locs 0 0 Qz (F0 m 128 ls [.int s0]) := by
    intro rec_64_1 hrec_64_1
    intro v2 v3 v4 v5 v6 v7 s0 o_me o_me_machine o_me_paper o_me_paper_now o_me_paperCourt H locs ls h hw hl
    unfold bk_X8_centuries_128 at h
    refine lv_istore (lv' := [(8, .int s0), (0, .ref h_me), (2, .int v2), (3, .int v3), (4, .int v4), (5, .int v5), (6, .int v6), (7, .int v7)]) hx hb dX8_centuries_128 hl (by decide) rfl (fun ls hl => ?_)
    refine lv_aload_n hx hb dX8_centuries_130 rfl (lv_at hl 1 rfl) ?_
    refine fgX8_6 hx hb hts hown hK hw 0 rfl kw448 dX8_centuries_131 ?_
    refine lv_iload hx hb dX8_centuries_134 (lv_at hl 0 rfl) ?_
    refine lv_iload hx hb dX8_centuries_136 (lv_at hl 0 rfl) ?_
    refine lv_if_ne (tgt := 148) hx hb dX8_centuries_138 (by decide) (fun c => ?_) (fun c => ?_)
    · have h := z_f h c
      refine lv_iload hx hb dX8_centuries_148 (lv_at hl 6 rfl) ?_
      refine lv_aload_n hx hb dX8_centuries_150 rfl (lv_at hl 1 rfl) ?_
      refine fgX8_2 hx hb hts hown hK hw 0 rfl kw444 dX8_centuries_151 ?_
      refine fgX2_7 hx hb hts hown hK hw 2 rfl kw317 dX8_centuries_154 ?_
      obtain ⟨g7, h⟩ := z_gd h
      refine lv_irem hx hb dX8_centuries_157 (of_decide_eq_true g7) ?_
      exact bk_158_4 rec_64_1 hrec_64_1 v2 v3 v4 v5 s0 (v6 - v6 / (gI o_me_isles 7) * (gI o_me_isles 7)) s0 o_me o_me_machine o_me_paper o_me_paper_now o_me_paperCourt _ _ _ h hw (lv_sub hl [1, 2, 3, 4, 5, 0] rfl)
    · have h := z_t h c
      refine lv_iload hx hb dX8_centuries_141 (lv_at hl 7 rfl) ?_
      refine lv_iconst (v := 4) hx hb dX8_centuries_143 (by decide) ?_
      refine lv_irem hx hb dX8_centuries_144 (by decide) ?_
      refine lv_goto (tgt := 158) hx hb dX8_centuries_145 (by decide) ?_
      exact bk_158_4 rec_64_1 hrec_64_1 v2 v3 v4 v5 s0 (v7 - v7 / (4 : Int32) * (4 : Int32)) s0 o_me o_me_machine o_me_paper o_me_paper_now o_me_paperCourt _ _ _ h hw (lv_sub hl [1, 2, 3, 4, 5, 0] rfl)
  have lp_64_1 : ∀ (N : Nat), ∀ (v2 : Int32) (v3 : Int32) (v4 : Int32) (v5 : Int32) (o_me : Ob) (o_me_machine : Ob) (o_me_paper : Ob) (o_me_paper_now : Ob) (o_me_paperCourt : Ob) (H : Heap) (locs : List Loc) (ls : Array Slot), lp_X8_centuries_64 o_me_isles o_me_isles_now o_pool  N (v2, v3, v4, v5, o_me, o_me_machine, o_me_paper, o_me_paper_now, o_me_paperCourt) = some y → Wd dC dI A s.heap [wX8 h_me h_me_reader h_me_machine h_me_isles h_me_court h_me_study h_me_paper h_me_paperCourt h_me_past h_me_pastAhead h_me_movingAhead q_me k_me o_me, wX3 h_me_machine q_me_machine k_me_machine o_me_machine, wX2 h_me_isles h_me_isles_now q_me_isles k_me_isles o_me_isles, wX4 h_me_isles_now q_me_isles_now k_me_isles_now o_me_isles_now, wX2 h_me_paper h_me_paper_now q_me_paper k_me_paper o_me_paper, wX4 h_me_paper_now q_me_paper_now k_me_paper_now o_me_paper_now, wX1 h_me_paperCourt h_me_paper h_me_machine q_me_paperCourt k_me_paperCourt o_me_paperCourt, wPL o_pool] H locs → lv_has ls 10 [(0, .ref h_me), (2, .int v2), (3, .int v3), (4, .int v4), (5, .int v5)] → W p l e ({ frames := 6, cells := 0, slots := 0, locals := 163 } : Room) s m ([.ref h_me, .int p0, .int p1] : List Value).toArray below meth c H locs 0 0 Qz (F0 m 64 ls []) := by
    intro N
    induction N with
    | zero =>
      intro v2 v3 v4 v5 o_me o_me_machine o_me_paper o_me_paper_now o_me_paperCourt H locs ls h hw hl
      exact absurd (show (none : Option (Int32 × Ob × Ob × Ob × Ob × Ob)) = some y from h) (by simp)
    | succ N ih =>
      intro v2 v3 v4 v5 o_me o_me_machine o_me_paper o_me_paper_now o_me_paperCourt H locs ls h hw hl
      have h : lb_X8_centuries_64 o_me_isles o_me_isles_now o_pool  (lp_X8_centuries_64 o_me_isles o_me_isles_now o_pool  N) v2 v3 v4 v5 o_me o_me_machine o_me_paper o_me_paper_now o_me_paperCourt = some y := h
      unfold lb_X8_centuries_64 at h
      refine lv_iload hx hb dX8_centuries_64 (lv_at hl 4 rfl) ?_
      refine lv_iload_n hx hb dX8_centuries_66 rfl (lv_at hl 1 rfl) ?_
      refine lv_icmp_ge (tgt := 194) hx hb dX8_centuries_67 (by decide) (fun c => ?_) (fun c => ?_)
      · have h := z_t h c
        exact bk_194_2  v4 o_me o_me_machine o_me_paper o_me_paper_now o_me_paperCourt _ _ _ h hw (lv_sub hl [0, 3] rfl)
      · have h := z_f h c
        refine lv_aload_n hx hb dX8_centuries_70 rfl (lv_at hl 0 rfl) ?_
        refine fgX8_5 hx hb hts hown hK hw 0 rfl kw447 dX8_centuries_71 ?_
        refine fgX2_0 hx hb hts hown hK hw 4 rfl kw297 dX8_centuries_74 ?_
        refine fgX4_4 hx hb hts hown hK hw 5 rfl kw281 dX8_centuries_77 ?_
        refine lv_sipush (v := 999) hx hb dX8_centuries_80 (by decide) ?_
        refine lv_icmp_ge (tgt := 194) hx hb dX8_centuries_83 (by decide) (fun c => ?_) (fun c => ?_)
        · have h := z_t h c
          exact bk_194_2  v4 o_me o_me_machine o_me_paper o_me_paper_now o_me_paperCourt _ _ _ h hw (lv_sub hl [0, 3] rfl)
        · have h := z_f h c
          refine lv_iload_n hx hb dX8_centuries_86 rfl (lv_at hl 2 rfl) ?_
          obtain ⟨z4, ez4, h⟩ := z_bd h
          refine xj_i (xrS (As := [.int v3]) (rest := []) ⟨hx, hb, hml, hown, hts⟩ (m_X8_nextDraw l dC dI _  v3 z4 ez4) kw1123 kw1121 kw1122 kw110 hd_X8_nextDraw ⟨rfl, rfl⟩ rfl rfl ⟨rfl, rfl⟩ hX hK hw [] (by decide) rfl rfl hl.1 rfl rfl dX8_centuries_87) hw hA [] (by decide) rfl rfl (fun H locs hw => ?_)
          refine lv_istore (lv' := [(6, .int z4), (0, .ref h_me), (2, .int v2), (3, .int v3), (4, .int v4), (5, .int v5)]) hx hb dX8_centuries_90 hl (by decide) rfl (fun ls hl => ?_)
          refine lv_iload hx hb dX8_centuries_92 (lv_at hl 0 rfl) ?_
          obtain ⟨z5, ez5, h⟩ := z_bd h
          refine xj_i (xrS (As := [.int z4]) (rest := []) ⟨hx, hb, hml, hown, hts⟩ (m_X8_nextDraw l dC dI _  z4 z5 ez5) kw1123 kw1121 kw1122 kw110 hd_X8_nextDraw ⟨rfl, rfl⟩ rfl rfl ⟨rfl, rfl⟩ hX hK hw [] (by decide) rfl rfl hl.1 rfl rfl dX8_centuries_94) hw hA [] (by decide) rfl rfl (fun H locs hw => ?_)
          refine lv_istore (lv' := [(7, .int z5), (6, .int z4), (0, .ref h_me), (2, .int v2), (3, .int v3), (4, .int v4), (5, .int v5)]) hx hb dX8_centuries_97 hl (by decide) rfl (fun ls hl => ?_)
          refine lv_iload hx hb dX8_centuries_99 (lv_at hl 0 rfl) ?_
          obtain ⟨z6, ez6, h⟩ := z_bd h
          refine xj_i (xrS (As := [.int z5]) (rest := []) ⟨hx, hb, hml, hown, hts⟩ (m_X8_nextDraw l dC dI _  z5 z6 ez6) kw1123 kw1121 kw1122 kw110 hd_X8_nextDraw ⟨rfl, rfl⟩ rfl rfl ⟨rfl, rfl⟩ hX hK hw [] (by decide) rfl rfl hl.1 rfl rfl dX8_centuries_101) hw hA [] (by decide) rfl rfl (fun H locs hw => ?_)
          refine lv_istore_n (lv' := [(3, .int z6), (7, .int z5), (6, .int z4), (0, .ref h_me), (2, .int v2), (4, .int v4), (5, .int v5)]) hx hb dX8_centuries_104 rfl hl (by decide) rfl (fun ls hl => ?_)
          refine lv_iload_n hx hb dX8_centuries_105 rfl (lv_at hl 0 rfl) ?_
          refine lv_iconst (v := 4) hx hb dX8_centuries_106 (by decide) ?_
          refine lv_irem hx hb dX8_centuries_107 (by decide) ?_
          refine lv_iconst (v := 2) hx hb dX8_centuries_108 (by decide) ?_
          refine lv_icmp_ge (tgt := 116) hx hb dX8_centuries_109 (by decide) (fun c => ?_) (fun c => ?_)
          · have h := z_t h c
            refine lv_iload_n hx hb dX8_centuries_116 rfl (lv_at hl 0 rfl) ?_
            refine lv_iconst (v := 4) hx hb dX8_centuries_117 (by decide) ?_
            refine lv_irem hx hb dX8_centuries_118 (by decide) ?_
            refine lv_iconst (v := 2) hx hb dX8_centuries_119 (by decide) ?_
            refine lv_icmp_ne (tgt := 127) hx hb dX8_centuries_120 (by decide) (fun c => ?_) (fun c => ?_)
            · have h := z_f h c
              refine lv_iconst (v := 2) hx hb dX8_centuries_127 (by decide) ?_
              exact bk_128_3 (lp_X8_centuries_64 o_me_isles o_me_isles_now o_pool  N) ih v2 z6 v4 v5 z4 z5 (2 : Int32) o_me o_me_machine o_me_paper o_me_paper_now o_me_paperCourt _ _ _ h hw (lv_sub hl [3, 4, 0, 5, 6, 2, 1] rfl)
            · have h := z_t h c
              refine lv_iconst (v := 0) hx hb dX8_centuries_123 (by decide) ?_
              refine lv_goto (tgt := 128) hx hb dX8_centuries_124 (by decide) ?_
              exact bk_128_3 (lp_X8_centuries_64 o_me_isles o_me_isles_now o_pool  N) ih v2 z6 v4 v5 z4 z5 (0 : Int32) o_me o_me_machine o_me_paper o_me_paper_now o_me_paperCourt _ _ _ h hw (lv_sub hl [3, 4, 0, 5, 6, 2, 1] rfl)
          · have h := z_f h c
            refine lv_iconst (v := 1) hx hb dX8_centuries_112 (by decide) ?_
            refine lv_goto (tgt := 128) hx hb dX8_centuries_113 (by decide) ?_
            exact bk_128_3 (lp_X8_centuries_64 o_me_isles o_me_isles_now o_pool  N) ih v2 z6 v4 v5 z4 z5 (1 : Int32) o_me o_me_machine o_me_paper o_me_paper_now o_me_paperCourt _ _ _ h hw (lv_sub hl [3, 4, 0, 5, 6, 2, 1] rfl)
  unfold f_X8_centuries at h
  refine lv_iload_n hx hb dX8_centuries_0 rfl (lv_at hl 1 rfl) ?_
  refine lv_if_lt (tgt := 22) hx hb dX8_centuries_1 (by decide) (fun c => ?_) (fun c => ?_)
  · have h := z_t h c
    exact bk_22_0  o_me o_me_machine o_me_paper o_me_paper_now o_me_paperCourt _ _ _ h hw (lv_sub hl [0] rfl)
  · have h := z_f h c
    refine lv_iload_n hx hb dX8_centuries_4 rfl (lv_at hl 1 rfl) ?_
    refine lv_ldcw (v := 1000000) hx hb hown (hts _ kw1114) dX8_centuries_5 ?_
    refine lv_icmp_gt (tgt := 22) hx hb dX8_centuries_8 (by decide) (fun c => ?_) (fun c => ?_)
    · have h := z_t h c
      exact bk_22_0  o_me o_me_machine o_me_paper o_me_paper_now o_me_paperCourt _ _ _ h hw (lv_sub hl [0] rfl)
    · have h := z_f h c
      refine lv_iload_n hx hb dX8_centuries_11 rfl (lv_at hl 2 rfl) ?_
      refine lv_iconst (v := 1) hx hb dX8_centuries_12 (by decide) ?_
      refine lv_icmp_lt (tgt := 22) hx hb dX8_centuries_13 (by decide) (fun c => ?_) (fun c => ?_)
      · have h := z_t h c
        exact bk_22_0  o_me o_me_machine o_me_paper o_me_paper_now o_me_paperCourt _ _ _ h hw (lv_sub hl [0] rfl)
      · have h := z_f h c
        refine lv_iload_n hx hb dX8_centuries_16 rfl (lv_at hl 2 rfl) ?_
        refine lv_bipush (v := 60) hx hb dX8_centuries_17 (by decide) ?_
        refine lv_icmp_le (tgt := 28) hx hb dX8_centuries_19 (by decide) (fun c => ?_) (fun c => ?_)
        · have h := z_t h c
          refine lv_aload_n hx hb dX8_centuries_28 rfl (lv_at hl 0 rfl) ?_
          refine fgX8_2 hx hb hts hown hK hw 0 rfl kw444 dX8_centuries_29 ?_
          refine fgX2_7 hx hb hts hown hK hw 2 rfl kw317 dX8_centuries_32 ?_
          refine lv_if_ne (tgt := 45) hx hb dX8_centuries_35 (by decide) (fun c => ?_) (fun c => ?_)
          · have h := z_f h c
            refine lv_aload_n hx hb dX8_centuries_45 rfl (lv_at hl 0 rfl) ?_
            refine fgX8_5 hx hb hts hown hK hw 0 rfl kw447 dX8_centuries_46 ?_
            refine lv_aload_n hx hb dX8_centuries_49 rfl (lv_at hl 0 rfl) ?_
            refine fgX8_2 hx hb hts hown hK hw 0 rfl kw444 dX8_centuries_50 ?_
            obtain ⟨z2, ez2, h⟩ := z_bd h
            refine xj_v (xrV (As := [.ref h_me_isles]) (rest := []) ⟨hx, hb, hml, hown, hts⟩ (m_X2_set_O l dC dI _ h_me_paper h_me_paper_now h_me_isles h_me_isles_now q_me_paper k_me_paper q_me_paper_now k_me_paper_now q_me_isles k_me_isles q_me_isles_now k_me_isles_now o_me_paper o_me_paper_now o_pool o_me_isles o_me_isles_now z2 ez2) kw1118 kw1115 kw1116 kw1117 kw115 hd_X2_set ⟨rfl, rfl⟩ rfl rfl ⟨rfl, rfl⟩ hX hK hw [4, 5, 7, 2, 3] (by decide) rfl rfl rfl rfl rfl hl.1 rfl rfl dX8_centuries_53) hw hA [4, 5, 7, 2, 3] (by decide) rfl rfl (fun H locs hw => ?_)
            have hw : Wd dC dI A s.heap [wX8 h_me h_me_reader h_me_machine h_me_isles h_me_court h_me_study h_me_paper h_me_paperCourt h_me_past h_me_pastAhead h_me_movingAhead q_me k_me o_me, wX3 h_me_machine q_me_machine k_me_machine o_me_machine, wX2 h_me_isles h_me_isles_now q_me_isles k_me_isles o_me_isles, wX4 h_me_isles_now q_me_isles_now k_me_isles_now o_me_isles_now, wX2 h_me_paper h_me_paper_now q_me_paper k_me_paper z2.1, wX4 h_me_paper_now q_me_paper_now k_me_paper_now z2.2, wX1 h_me_paperCourt h_me_paper h_me_machine q_me_paperCourt k_me_paperCourt o_me_paperCourt, wPL o_pool] H locs := hw
            refine lv_iload_n hx hb dX8_centuries_56 rfl (lv_at hl 1 rfl) ?_
            refine lv_istore_n (lv' := [(3, .int p0), (0, .ref h_me), (1, .int p0), (2, .int p1)]) hx hb dX8_centuries_57 rfl hl (by decide) rfl (fun ls hl => ?_)
            refine lv_iconst (v := 0) hx hb dX8_centuries_58 (by decide) ?_
            refine lv_istore (lv' := [(4, .int (0 : Int32)), (3, .int p0), (0, .ref h_me), (1, .int p0), (2, .int p1)]) hx hb dX8_centuries_59 hl (by decide) rfl (fun ls hl => ?_)
            refine lv_iconst (v := 0) hx hb dX8_centuries_61 (by decide) ?_
            refine lv_istore (lv' := [(5, .int (0 : Int32)), (4, .int (0 : Int32)), (3, .int p0), (0, .ref h_me), (1, .int p0), (2, .int p1)]) hx hb dX8_centuries_62 hl (by decide) rfl (fun ls hl => ?_)
            exact lp_64_1  zfu p1 p0 (0 : Int32) (0 : Int32) o_me o_me_machine z2.1 z2.2 o_me_paperCourt _ _ _ h hw (lv_sub hl [3, 5, 2, 1, 0] rfl)
          · have h := z_t h c
            refine lv_aload_n hx hb dX8_centuries_38 rfl (lv_at hl 0 rfl) ?_
            refine lv_bipush (v := (-3)) hx hb dX8_centuries_39 (by decide) ?_
            obtain ⟨z12, ez12, h⟩ := z_bd h
            refine xj_i (xrV (As := [.int (-3 : Int32)]) (rest := []) ⟨hx, hb, hml, hown, hts⟩ (m_X8_refuse l dC dI _ h_me h_me_reader h_me_machine h_me_isles h_me_court h_me_study h_me_paper h_me_paperCourt h_me_past h_me_pastAhead h_me_movingAhead q_me k_me o_me (-3 : Int32) z12 ez12) kw508 kw505 kw507 kw0 kw110 hd_X8_refuse ⟨rfl, rfl⟩ rfl rfl ⟨rfl, rfl⟩ hX hK hw [0] (by decide) rfl rfl rfl rfl rfl hl.1 rfl rfl dX8_centuries_41) hw hA [0] (by decide) rfl rfl (fun H locs hw => ?_)
            have hw : Wd dC dI A s.heap [wX8 h_me h_me_reader h_me_machine h_me_isles h_me_court h_me_study h_me_paper h_me_paperCourt h_me_past h_me_pastAhead h_me_movingAhead q_me k_me z12.2, wX3 h_me_machine q_me_machine k_me_machine o_me_machine, wX2 h_me_isles h_me_isles_now q_me_isles k_me_isles o_me_isles, wX4 h_me_isles_now q_me_isles_now k_me_isles_now o_me_isles_now, wX2 h_me_paper h_me_paper_now q_me_paper k_me_paper o_me_paper, wX4 h_me_paper_now q_me_paper_now k_me_paper_now o_me_paper_now, wX1 h_me_paperCourt h_me_paper h_me_machine q_me_paperCourt k_me_paperCourt o_me_paperCourt, wPL o_pool] H locs := hw
            have hy := Option.some.inj h
            rw [← hQz, ← hy]
            exact xr_i (v := z12.1) hx hb hr rfl hlk hK hw dX8_centuries_44
        · have h := z_f h c
          exact bk_22_0  o_me o_me_machine o_me_paper o_me_paper_now o_me_paperCourt _ _ _ h hw (lv_sub hl [0] rfl)

def f_X7_isCircle (o_me : Ob) (o_me_court_isles : Ob) (p0 : Int32) (p1 : Int32) (p2 : Int32) : Option (Int32) :=
  zgd (zin p0 7) <|
  zgd (zin p1 7) <|
  zgd (zin p2 7) <|
  if (((((gA o_me_court_isles 3 p0.toNatClampNeg) >>> (p1 &&& 31)) &&& ((gA o_me_court_isles 3 p1.toNatClampNeg) >>> (p2 &&& 31))) &&& ((gA o_me_court_isles 3 p2.toNatClampNeg) >>> (p0 &&& 31))) &&& (1 : Int32)) = (1 : Int32) then
  (some (1 : Int32))
  else
  (some (0 : Int32))
set_option maxHeartbeats 4000000 in
set_option maxRecDepth 100000 in
theorem m_X7_isCircle (l : Launch) (dC : Nat → ClassId) (dI : Nat → Nat → Nat) (sz : Nat) (h_me : Nat) (h_me_court : Nat) (h_me_court_isles : Nat) (h_me_court_isles_now : Nat) (q_me : Nat → Nat) (k_me : Nat → ClassId) (q_me_court_isles : Nat → Nat) (k_me_court_isles : Nat → ClassId) (o_me : Ob) (o_me_court_isles : Ob) (p0 : Int32) (p1 : Int32) (p2 : Int32) (y : Int32) (h : f_X7_isCircle o_me o_me_court_isles p0 p1 p2 = some y) : CI l yX7_isCircle cX7_isCircle 4 (some .boolean) ({ frames := 0, cells := 0, slots := 0, locals := 0 } : Room) dC dI sz [.ref h_me, .int p0, .int p1, .int p2] [wX7 h_me h_me_court h_me_court_isles q_me k_me o_me, wX2 h_me_court_isles h_me_court_isles_now q_me_court_isles k_me_court_isles o_me_court_isles] [tX7 k_me, tX2 k_me_court_isles] y [wX7 h_me h_me_court h_me_court_isles q_me k_me o_me, wX2 h_me_court_isles h_me_court_isles_now q_me_court_isles k_me_court_isles o_me_court_isles] := by
  refine CC_of (by decide) (Nat.le_of_ble_eq_true rfl) ?_
  intro p e s m below meth c A ls hx hb hml hr hlk hnm hown hts hX hK hP hD hA hl
  have hl : lv_has ls 4 [(0, .ref h_me), (1, .int p0), (2, .int p1), (3, .int p2)] := hl
  have hown : s.vm.findClass RX7 = some m.cls := hown
  have hw : Wd dC dI A s.heap [wX7 h_me h_me_court h_me_court_isles q_me k_me o_me, wX2 h_me_court_isles h_me_court_isles_now q_me_court_isles k_me_court_isles o_me_court_isles] s.heap [] := ⟨hP, hD, va_S.rf⟩
  generalize hQz : (MQ below (QI dC dI (fun r (_ : Unit) => r = y) (fun _ => Jn [wX7 h_me h_me_court h_me_court_isles q_me k_me o_me, wX2 h_me_court_isles h_me_court_isles_now q_me_court_isles k_me_court_isles o_me_court_isles]) (fun _ => Jt [tX7 k_me, tX2 k_me_court_isles]) A) ([.ref h_me, .int p0, .int p1, .int p2] : List Value).toArray s 0 0 A) = Qz
  clear hP hD hnm
  unfold f_X7_isCircle at h
  refine lv_aload_n hx hb dX7_isCircle_0 rfl (lv_at hl 0 rfl) ?_
  refine fgX7_1 hx hb hts hown hK hw 0 rfl kw387 dX7_isCircle_1 ?_
  refine fgX2_3 hx hb hts hown hK hw 1 rfl kw309 dX7_isCircle_4 ?_
  refine lv_iload_n hx hb dX7_isCircle_7 rfl (lv_at hl 1 rfl) ?_
  obtain ⟨g1, h⟩ := z_gd h
  refine faX2_3 hx hb hK hw 1 rfl rfl g1 dX7_isCircle_8 ?_
  refine lv_iload_n hx hb dX7_isCircle_9 rfl (lv_at hl 2 rfl) ?_
  refine lv_ishr hx hb dX7_isCircle_10 ?_
  refine lv_aload_n hx hb dX7_isCircle_11 rfl (lv_at hl 0 rfl) ?_
  refine fgX7_1 hx hb hts hown hK hw 0 rfl kw387 dX7_isCircle_12 ?_
  refine fgX2_3 hx hb hts hown hK hw 1 rfl kw309 dX7_isCircle_15 ?_
  refine lv_iload_n hx hb dX7_isCircle_18 rfl (lv_at hl 2 rfl) ?_
  obtain ⟨g2, h⟩ := z_gd h
  refine faX2_3 hx hb hK hw 1 rfl rfl g2 dX7_isCircle_19 ?_
  refine lv_iload_n hx hb dX7_isCircle_20 rfl (lv_at hl 3 rfl) ?_
  refine lv_ishr hx hb dX7_isCircle_21 ?_
  refine lv_iand hx hb dX7_isCircle_22 ?_
  refine lv_aload_n hx hb dX7_isCircle_23 rfl (lv_at hl 0 rfl) ?_
  refine fgX7_1 hx hb hts hown hK hw 0 rfl kw387 dX7_isCircle_24 ?_
  refine fgX2_3 hx hb hts hown hK hw 1 rfl kw309 dX7_isCircle_27 ?_
  refine lv_iload_n hx hb dX7_isCircle_30 rfl (lv_at hl 3 rfl) ?_
  obtain ⟨g3, h⟩ := z_gd h
  refine faX2_3 hx hb hK hw 1 rfl rfl g3 dX7_isCircle_31 ?_
  refine lv_iload_n hx hb dX7_isCircle_32 rfl (lv_at hl 1 rfl) ?_
  refine lv_ishr hx hb dX7_isCircle_33 ?_
  refine lv_iand hx hb dX7_isCircle_34 ?_
  refine lv_iconst (v := 1) hx hb dX7_isCircle_35 (by decide) ?_
  refine lv_iand hx hb dX7_isCircle_36 ?_
  refine lv_iconst (v := 1) hx hb dX7_isCircle_37 (by decide) ?_
  refine lv_icmp_ne (tgt := 45) hx hb dX7_isCircle_38 (by decide) (fun c => ?_) (fun c => ?_)
  · have h := z_f h c
    refine lv_iconst (v := 0) hx hb dX7_isCircle_45 (by decide) ?_
    have hy := Option.some.inj h
    rw [← hQz, ← hy]
    exact xr_i (v := (0 : Int32)) hx hb hr rfl hlk hK hw dX7_isCircle_46
  · have h := z_t h c
    refine lv_iconst (v := 1) hx hb dX7_isCircle_41 (by decide) ?_
    refine lv_goto (tgt := 46) hx hb dX7_isCircle_42 (by decide) ?_
    have hy := Option.some.inj h
    rw [← hQz, ← hy]
    exact xr_i (v := (1 : Int32)) hx hb hr rfl hlk hK hw dX7_isCircle_46

def bk_X7_circleCount_72 (o_me : Ob) (o_me_court_isles : Ob) (rec_4_0 : Int32 × Int32 → Option (Int32)) (rec_19_1 : Int32 × Int32 × Int32 → Option (Int32)) (rec_35_2 : Int32 × Int32 × Int32 × Int32 → Option (Int32)) (v1 : Int32) (v2 : Int32) (v3 : Int32) (v4 : Int32) : Option (Int32) :=
  zlt (v4 + (1 : Int32)) fun x7 =>
  rec_35_2 (v1, v2, v3, x7)
def bk_X7_circleCount_69 (o_me : Ob) (o_me_court_isles : Ob) (rec_4_0 : Int32 × Int32 → Option (Int32)) (rec_19_1 : Int32 × Int32 × Int32 → Option (Int32)) (rec_35_2 : Int32 × Int32 × Int32 × Int32 → Option (Int32)) (v1 : Int32) (v2 : Int32) (v3 : Int32) (v4 : Int32) : Option (Int32) :=
  zlt (v1 + (1 : Int32)) fun x6 =>
  bk_X7_circleCount_72 o_me o_me_court_isles rec_4_0 rec_19_1 rec_35_2 x6 v2 v3 v4
def lb_X7_circleCount_35 (o_me : Ob) (o_me_court_isles : Ob) (rec_4_0 : Int32 × Int32 → Option (Int32)) (rec_19_1 : Int32 × Int32 × Int32 → Option (Int32)) (rec_35_2 : Int32 × Int32 × Int32 × Int32 → Option (Int32)) (v1 : Int32) (v2 : Int32) (v3 : Int32) (v4 : Int32) : Option (Int32) :=
  if (gI o_me_court_isles 7) ≤ v4 then
  (zlt (v3 + (1 : Int32)) fun x4 =>
  rec_19_1 (v1, v2, x4))
  else
  ((f_X7_isCircle o_me o_me_court_isles v2 v3 v4).bind fun z5 =>
  if z5 = (0 : Int32) then
  ((f_X7_isCircle o_me o_me_court_isles v2 v4 v3).bind fun z8 =>
  if z8 = (0 : Int32) then
  (bk_X7_circleCount_72 o_me o_me_court_isles rec_4_0 rec_19_1 rec_35_2 v1 v2 v3 v4)
  else
  (bk_X7_circleCount_69 o_me o_me_court_isles rec_4_0 rec_19_1 rec_35_2 v1 v2 v3 v4))
  else
  (bk_X7_circleCount_69 o_me o_me_court_isles rec_4_0 rec_19_1 rec_35_2 v1 v2 v3 v4))
def lp_X7_circleCount_35 (o_me : Ob) (o_me_court_isles : Ob) (rec_4_0 : Int32 × Int32 → Option (Int32)) (rec_19_1 : Int32 × Int32 × Int32 → Option (Int32)) : Nat → (Int32 × Int32 × Int32 × Int32) → Option (Int32) := zit (fun rec a => lb_X7_circleCount_35 o_me o_me_court_isles rec_4_0 rec_19_1 rec a.1 a.2.1 a.2.2.1 a.2.2.2)
def lb_X7_circleCount_19 (o_me : Ob) (o_me_court_isles : Ob) (rec_4_0 : Int32 × Int32 → Option (Int32)) (rec_19_1 : Int32 × Int32 × Int32 → Option (Int32)) (v1 : Int32) (v2 : Int32) (v3 : Int32) : Option (Int32) :=
  if (gI o_me_court_isles 7) ≤ v3 then
  (zlt (v2 + (1 : Int32)) fun x2 =>
  rec_4_0 (v1, x2))
  else
  (zlt (v3 + (1 : Int32)) fun x3 =>
  lp_X7_circleCount_35 o_me o_me_court_isles rec_4_0 rec_19_1 zfu (v1, v2, v3, x3))
def lp_X7_circleCount_19 (o_me : Ob) (o_me_court_isles : Ob) (rec_4_0 : Int32 × Int32 → Option (Int32)) : Nat → (Int32 × Int32 × Int32) → Option (Int32) := zit (fun rec a => lb_X7_circleCount_19 o_me o_me_court_isles rec_4_0 rec a.1 a.2.1 a.2.2)
def lb_X7_circleCount_4 (o_me : Ob) (o_me_court_isles : Ob)  (rec_4_0 : Int32 × Int32 → Option (Int32)) (v1 : Int32) (v2 : Int32) : Option (Int32) :=
  if (gI o_me_court_isles 7) ≤ v2 then
  (some v1)
  else
  (zlt (v2 + (1 : Int32)) fun x1 =>
  lp_X7_circleCount_19 o_me o_me_court_isles rec_4_0 zfu (v1, v2, x1))
def lp_X7_circleCount_4 (o_me : Ob) (o_me_court_isles : Ob)  : Nat → (Int32 × Int32) → Option (Int32) := zit (fun rec a => lb_X7_circleCount_4 o_me o_me_court_isles  rec a.1 a.2)
def f_X7_circleCount (o_me : Ob) (o_me_court_isles : Ob) : Option (Int32) :=
  lp_X7_circleCount_4 o_me o_me_court_isles  zfu ((0 : Int32), (0 : Int32))
set_option maxHeartbeats 4000000 in
set_option maxRecDepth 100000 in
theorem m_X7_circleCount (l : Launch) (dC : Nat → ClassId) (dI : Nat → Nat → Nat) (sz : Nat) (h_me : Nat) (h_me_court : Nat) (h_me_court_isles : Nat) (h_me_court_isles_now : Nat) (q_me : Nat → Nat) (k_me : Nat → ClassId) (q_me_court_isles : Nat → Nat) (k_me_court_isles : Nat → ClassId) (o_me : Ob) (o_me_court_isles : Ob) (y : Int32) (h : f_X7_circleCount o_me o_me_court_isles = some y) : CI l yX7_circleCount cX7_circleCount 5 (some .int) ({ frames := 1, cells := 0, slots := 0, locals := 23 } : Room) dC dI sz [.ref h_me] [wX7 h_me h_me_court h_me_court_isles q_me k_me o_me, wX2 h_me_court_isles h_me_court_isles_now q_me_court_isles k_me_court_isles o_me_court_isles] [tX7 k_me, tX2 k_me_court_isles] y [wX7 h_me h_me_court h_me_court_isles q_me k_me o_me, wX2 h_me_court_isles h_me_court_isles_now q_me_court_isles k_me_court_isles o_me_court_isles] := by
  refine CC_of (by decide) (Nat.le_of_ble_eq_true rfl) ?_
  intro p e s m below meth c A ls hx hb hml hr hlk hnm hown hts hX hK hP hD hA hl
  have hl : lv_has ls 5 [(0, .ref h_me)] := hl
  have hown : s.vm.findClass RX7 = some m.cls := hown
  have hw : Wd dC dI A s.heap [wX7 h_me h_me_court h_me_court_isles q_me k_me o_me, wX2 h_me_court_isles h_me_court_isles_now q_me_court_isles k_me_court_isles o_me_court_isles] s.heap [] := ⟨hP, hD, va_S.rf⟩
  generalize hQz : (MQ below (QI dC dI (fun r (_ : Unit) => r = y) (fun _ => Jn [wX7 h_me h_me_court h_me_court_isles q_me k_me o_me, wX2 h_me_court_isles h_me_court_isles_now q_me_court_isles k_me_court_isles o_me_court_isles]) (fun _ => Jt [tX7 k_me, tX2 k_me_court_isles]) A) ([.ref h_me] : List Value).toArray s 0 0 A) = Qz
  clear hP hD hnm
  have bk_72_4 : ∀ (rec_4_0 : Int32 × Int32 → Option (Int32)) (hrec_4_0 : ∀ (v1 : Int32) (v2 : Int32) (H : Heap) (locs : List Loc) (ls : Array Slot), rec_4_0 (v1, v2) = some y → Wd dC dI A s.heap [wX7 h_me h_me_court h_me_court_isles q_me k_me o_me, wX2 h_me_court_isles h_me_court_isles_now q_me_court_isles k_me_court_isles o_me_court_isles] H locs → lv_has ls 5 [(0, .ref h_me), (1, .int v1), (2, .int v2)] → W p l e ({ frames := 1, cells := 0, slots := 0, locals := 23 } : Room) s m ([.ref h_me] : List Value).toArray below meth c H locs 0 0 Qz (F0 m 4 ls [])) (rec_19_1 : Int32 × Int32 × Int32 → Option (Int32)) (hrec_19_1 : ∀ (v1 : Int32) (v2 : Int32) (v3 : Int32) (H : Heap) (locs : List Loc) (ls : Array Slot), rec_19_1 (v1, v2, v3) = some y → Wd dC dI A s.heap [wX7 h_me h_me_court h_me_court_isles q_me k_me o_me, wX2 h_me_court_isles h_me_court_isles_now q_me_court_isles k_me_court_isles o_me_court_isles] H locs → lv_has ls 5 [(0, .ref h_me), (1, .int v1), (2, .int v2), (3, .int v3)] → W p l e ({ frames := 1, cells := 0, slots := 0, locals := 23 } : Room) s m ([.ref h_me] : List Value).toArray below meth c H locs 0 0 Qz (F0 m 19 ls [])) (rec_35_2 : Int32 × Int32 × Int32 × Int32 → Option (Int32)) (hrec_35_2 : ∀ (v1 : Int32) (v2 : Int32) (v3 : Int32) (v4 : Int32) (H : Heap) (locs : List Loc) (ls : Array Slot), rec_35_2 (v1, v2, v3, v4) = some y → Wd dC dI A s.heap [wX7 h_me h_me_court h_me_court_isles q_me k_me o_me, wX2 h_me_court_isles h_me_court_isles_now q_me_court_isles k_me_court_isles o_me_court_isles] H locs → lv_has ls 5 [(0, .ref h_me), (1, .int v1), (2, .int v2), (3, .int v3), (4, .int v4)] → W p l e ({ frames := 1, cells := 0, slots := 0, locals := 23 } : Room) s m ([.ref h_me] : List Value).toArray below meth c H locs 0 0 Qz (F0 m 35 ls [])), ∀ (v1 : Int32) (v2 : Int32) (v3 : Int32) (v4 : Int32) (H : Heap) (locs : List Loc) (ls : Array Slot), bk_X7_circleCount_72 o_me o_me_court_isles rec_4_0 rec_19_1 rec_35_2 v1 v2 v3 v4 = some y → Wd dC dI A s.heap [wX7 h_me h_me_court h_me_court_isles q_me k_me o_me, wX2 h_me_court_isles h_me_court_isles_now q_me_court_isles k_me_court_isles o_me_court_isles] H locs → lv_has ls 5 [(0, .ref h_me), (1, .int v1), (2, .int v2), (3, .int v3), (4, .int v4)] → W p l e ({ frames := 1, cells := 0, slots := 0, locals := 23 } : Room) s m ([.ref h_me] : List Value).toArray below meth c H locs 0 0 Qz (F0 m 72 ls []) := by
    intro rec_4_0 hrec_4_0 rec_19_1 hrec_19_1 rec_35_2 hrec_35_2
    intro v1 v2 v3 v4 H locs ls h hw hl
    unfold bk_X7_circleCount_72 at h
    obtain ⟨x7, ex7, h⟩ := z_lt h
    refine lv_iinc (v := x7) (lv' := [(4, .int x7), (0, .ref h_me), (1, .int v1), (2, .int v2), (3, .int v3)]) hx hb dX7_circleCount_72 hl (k := 4) rfl ((congrArg (v4 + ·) (show Int32.ofInt 1 = (1 : Int32) from by decide)).trans ex7.symm) (by decide) rfl (fun ls hl => ?_)
    refine lv_goto (tgt := 35) hx hb dX7_circleCount_75 (by decide) ?_
    exact hrec_35_2 v1 v2 v3 x7 _ _ _ h hw (lv_sub hl [1, 2, 3, 4, 0] rfl)
  have bk_69_3 : ∀ (rec_4_0 : Int32 × Int32 → Option (Int32)) (hrec_4_0 : ∀ (v1 : Int32) (v2 : Int32) (H : Heap) (locs : List Loc) (ls : Array Slot), rec_4_0 (v1, v2) = some y → Wd dC dI A s.heap [wX7 h_me h_me_court h_me_court_isles q_me k_me o_me, wX2 h_me_court_isles h_me_court_isles_now q_me_court_isles k_me_court_isles o_me_court_isles] H locs → lv_has ls 5 [(0, .ref h_me), (1, .int v1), (2, .int v2)] → W p l e ({ frames := 1, cells := 0, slots := 0, locals := 23 } : Room) s m ([.ref h_me] : List Value).toArray below meth c H locs 0 0 Qz (F0 m 4 ls [])) (rec_19_1 : Int32 × Int32 × Int32 → Option (Int32)) (hrec_19_1 : ∀ (v1 : Int32) (v2 : Int32) (v3 : Int32) (H : Heap) (locs : List Loc) (ls : Array Slot), rec_19_1 (v1, v2, v3) = some y → Wd dC dI A s.heap [wX7 h_me h_me_court h_me_court_isles q_me k_me o_me, wX2 h_me_court_isles h_me_court_isles_now q_me_court_isles k_me_court_isles o_me_court_isles] H locs → lv_has ls 5 [(0, .ref h_me), (1, .int v1), (2, .int v2), (3, .int v3)] → W p l e ({ frames := 1, cells := 0, slots := 0, locals := 23 } : Room) s m ([.ref h_me] : List Value).toArray below meth c H locs 0 0 Qz (F0 m 19 ls [])) (rec_35_2 : Int32 × Int32 × Int32 × Int32 → Option (Int32)) (hrec_35_2 : ∀ (v1 : Int32) (v2 : Int32) (v3 : Int32) (v4 : Int32) (H : Heap) (locs : List Loc) (ls : Array Slot), rec_35_2 (v1, v2, v3, v4) = some y → Wd dC dI A s.heap [wX7 h_me h_me_court h_me_court_isles q_me k_me o_me, wX2 h_me_court_isles h_me_court_isles_now q_me_court_isles k_me_court_isles o_me_court_isles] H locs → lv_has ls 5 [(0, .ref h_me), (1, .int v1), (2, .int v2), (3, .int v3), (4, .int v4)] → W p l e ({ frames := 1, cells := 0, slots := 0, locals := 23 } : Room) s m ([.ref h_me] : List Value).toArray below meth c H locs 0 0 Qz (F0 m 35 ls [])), ∀ (v1 : Int32) (v2 : Int32) (v3 : Int32) (v4 : Int32) (H : Heap) (locs : List Loc) (ls : Array Slot), bk_X7_circleCount_69 o_me o_me_court_isles rec_4_0 rec_19_1 rec_35_2 v1 v2 v3 v4 = some y → Wd dC dI A s.heap [wX7 h_me h_me_court h_me_court_isles q_me k_me o_me, wX2 h_me_court_isles h_me_court_isles_now q_me_court_isles k_me_court_isles o_me_court_isles] H locs → lv_has ls 5 [(0, .ref h_me), (1, .int v1), (2, .int v2), (3, .int v3), (4, .int v4)] → W p l e ({ frames := 1, cells := 0, slots := 0, locals := 23 } : Room) s m ([.ref h_me] : List Value).toArray below meth c H locs 0 0 Qz (F0 m 69 ls []) := by
    intro rec_4_0 hrec_4_0 rec_19_1 hrec_19_1 rec_35_2 hrec_35_2
    intro v1 v2 v3 v4 H locs ls h hw hl
    unfold bk_X7_circleCount_69 at h
    obtain ⟨x6, ex6, h⟩ := z_lt h
    refine lv_iinc (v := x6) (lv' := [(1, .int x6), (0, .ref h_me), (2, .int v2), (3, .int v3), (4, .int v4)]) hx hb dX7_circleCount_69 hl (k := 1) rfl ((congrArg (v1 + ·) (show Int32.ofInt 1 = (1 : Int32) from by decide)).trans ex6.symm) (by decide) rfl (fun ls hl => ?_)
    exact bk_72_4 rec_4_0 hrec_4_0 rec_19_1 hrec_19_1 rec_35_2 hrec_35_2 x6 v2 v3 v4 _ _ _ h hw (lv_sub hl [1, 0, 2, 3, 4] rfl)
  have lp_35_2 : ∀ (rec_4_0 : Int32 × Int32 → Option (Int32)) (hrec_4_0 : ∀ (v1 : Int32) (v2 : Int32) (H : Heap) (locs : List Loc) (ls : Array Slot), rec_4_0 (v1, v2) = some y → Wd dC dI A s.heap [wX7 h_me h_me_court h_me_court_isles q_me k_me o_me, wX2 h_me_court_isles h_me_court_isles_now q_me_court_isles k_me_court_isles o_me_court_isles] H locs → lv_has ls 5 [(0, .ref h_me), (1, .int v1), (2, .int v2)] → W p l e ({ frames := 1, cells := 0, slots := 0, locals := 23 } : Room) s m ([.ref h_me] : List Value).toArray below meth c H locs 0 0 Qz (F0 m 4 ls [])) (rec_19_1 : Int32 × Int32 × Int32 → Option (Int32)) (hrec_19_1 : ∀ (v1 : Int32) (v2 : Int32) (v3 : Int32) (H : Heap) (locs : List Loc) (ls : Array Slot), rec_19_1 (v1, v2, v3) = some y → Wd dC dI A s.heap [wX7 h_me h_me_court h_me_court_isles q_me k_me o_me, wX2 h_me_court_isles h_me_court_isles_now q_me_court_isles k_me_court_isles o_me_court_isles] H locs → lv_has ls 5 [(0, .ref h_me), (1, .int v1), (2, .int v2), (3, .int v3)] → W p l e ({ frames := 1, cells := 0, slots := 0, locals := 23 } : Room) s m ([.ref h_me] : List Value).toArray below meth c H locs 0 0 Qz (F0 m 19 ls [])) (N : Nat), ∀ (v1 : Int32) (v2 : Int32) (v3 : Int32) (v4 : Int32) (H : Heap) (locs : List Loc) (ls : Array Slot), lp_X7_circleCount_35 o_me o_me_court_isles rec_4_0 rec_19_1 N (v1, v2, v3, v4) = some y → Wd dC dI A s.heap [wX7 h_me h_me_court h_me_court_isles q_me k_me o_me, wX2 h_me_court_isles h_me_court_isles_now q_me_court_isles k_me_court_isles o_me_court_isles] H locs → lv_has ls 5 [(0, .ref h_me), (1, .int v1), (2, .int v2), (3, .int v3), (4, .int v4)] → W p l e ({ frames := 1, cells := 0, slots := 0, locals := 23 } : Room) s m ([.ref h_me] : List Value).toArray below meth c H locs 0 0 Qz (F0 m 35 ls []) := by
    intro rec_4_0 hrec_4_0 rec_19_1 hrec_19_1
    intro N
    induction N with
    | zero =>
      intro v1 v2 v3 v4 H locs ls h hw hl
      exact absurd (show (none : Option (Int32)) = some y from h) (by simp)
    | succ N ih =>
      intro v1 v2 v3 v4 H locs ls h hw hl
      have h : lb_X7_circleCount_35 o_me o_me_court_isles rec_4_0 rec_19_1 (lp_X7_circleCount_35 o_me o_me_court_isles rec_4_0 rec_19_1 N) v1 v2 v3 v4 = some y := h
      unfold lb_X7_circleCount_35 at h
      refine lv_iload hx hb dX7_circleCount_35 (lv_at hl 4 rfl) ?_
      refine lv_aload_n hx hb dX7_circleCount_37 rfl (lv_at hl 0 rfl) ?_
      refine fgX7_1 hx hb hts hown hK hw 0 rfl kw387 dX7_circleCount_38 ?_
      refine fgX2_7 hx hb hts hown hK hw 1 rfl kw316 dX7_circleCount_41 ?_
      refine lv_icmp_ge (tgt := 78) hx hb dX7_circleCount_44 (by decide) (fun c => ?_) (fun c => ?_)
      · have h := z_t h c
        obtain ⟨x4, ex4, h⟩ := z_lt h
        refine lv_iinc (v := x4) (lv' := [(3, .int x4), (0, .ref h_me), (1, .int v1), (2, .int v2), (4, .int v4)]) hx hb dX7_circleCount_78 hl (k := 3) rfl ((congrArg (v3 + ·) (show Int32.ofInt 1 = (1 : Int32) from by decide)).trans ex4.symm) (by decide) rfl (fun ls hl => ?_)
        refine lv_goto (tgt := 19) hx hb dX7_circleCount_81 (by decide) ?_
        exact hrec_19_1 v1 v2 x4 _ _ _ h hw (lv_sub hl [1, 2, 3, 0] rfl)
      · have h := z_f h c
        refine lv_aload_n hx hb dX7_circleCount_47 rfl (lv_at hl 0 rfl) ?_
        refine lv_iload_n hx hb dX7_circleCount_48 rfl (lv_at hl 2 rfl) ?_
        refine lv_iload_n hx hb dX7_circleCount_49 rfl (lv_at hl 3 rfl) ?_
        refine lv_iload hx hb dX7_circleCount_50 (lv_at hl 4 rfl) ?_
        obtain ⟨z5, ez5, h⟩ := z_bd h
        refine xj_i (xrV (As := [.int v2, .int v3, .int v4]) (rest := []) ⟨hx, hb, hml, hown, hts⟩ (m_X7_isCircle l dC dI _ h_me h_me_court h_me_court_isles h_me_court_isles_now q_me k_me q_me_court_isles k_me_court_isles o_me o_me_court_isles v2 v3 v4 z5 ez5) kw1037 kw1034 kw1036 kw33 kw118 hd_X7_isCircle ⟨rfl, rfl⟩ rfl rfl ⟨rfl, rfl⟩ hX hK hw [0, 1] (by decide) rfl rfl rfl rfl rfl hl.1 rfl rfl dX7_circleCount_52) hw hA [0, 1] (by decide) rfl rfl (fun H locs hw => ?_)
        have hw : Wd dC dI A s.heap [wX7 h_me h_me_court h_me_court_isles q_me k_me o_me, wX2 h_me_court_isles h_me_court_isles_now q_me_court_isles k_me_court_isles o_me_court_isles] H locs := hw
        refine lv_if_ne (tgt := 69) hx hb dX7_circleCount_55 (by decide) (fun c => ?_) (fun c => ?_)
        · have h := z_f h c
          exact bk_69_3 rec_4_0 hrec_4_0 rec_19_1 hrec_19_1 (lp_X7_circleCount_35 o_me o_me_court_isles rec_4_0 rec_19_1 N) ih v1 v2 v3 v4 _ _ _ h hw (lv_sub hl [0, 1, 2, 3, 4] rfl)
        · have h := z_t h c
          refine lv_aload_n hx hb dX7_circleCount_58 rfl (lv_at hl 0 rfl) ?_
          refine lv_iload_n hx hb dX7_circleCount_59 rfl (lv_at hl 2 rfl) ?_
          refine lv_iload hx hb dX7_circleCount_60 (lv_at hl 4 rfl) ?_
          refine lv_iload_n hx hb dX7_circleCount_62 rfl (lv_at hl 3 rfl) ?_
          obtain ⟨z8, ez8, h⟩ := z_bd h
          refine xj_i (xrV (As := [.int v2, .int v4, .int v3]) (rest := []) ⟨hx, hb, hml, hown, hts⟩ (m_X7_isCircle l dC dI _ h_me h_me_court h_me_court_isles h_me_court_isles_now q_me k_me q_me_court_isles k_me_court_isles o_me o_me_court_isles v2 v4 v3 z8 ez8) kw1037 kw1034 kw1036 kw33 kw118 hd_X7_isCircle ⟨rfl, rfl⟩ rfl rfl ⟨rfl, rfl⟩ hX hK hw [0, 1] (by decide) rfl rfl rfl rfl rfl hl.1 rfl rfl dX7_circleCount_63) hw hA [0, 1] (by decide) rfl rfl (fun H locs hw => ?_)
          have hw : Wd dC dI A s.heap [wX7 h_me h_me_court h_me_court_isles q_me k_me o_me, wX2 h_me_court_isles h_me_court_isles_now q_me_court_isles k_me_court_isles o_me_court_isles] H locs := hw
          refine lv_if_eq (tgt := 72) hx hb dX7_circleCount_66 (by decide) (fun c => ?_) (fun c => ?_)
          · have h := z_t h c
            exact bk_72_4 rec_4_0 hrec_4_0 rec_19_1 hrec_19_1 (lp_X7_circleCount_35 o_me o_me_court_isles rec_4_0 rec_19_1 N) ih v1 v2 v3 v4 _ _ _ h hw (lv_sub hl [0, 1, 2, 3, 4] rfl)
          · have h := z_f h c
            exact bk_69_3 rec_4_0 hrec_4_0 rec_19_1 hrec_19_1 (lp_X7_circleCount_35 o_me o_me_court_isles rec_4_0 rec_19_1 N) ih v1 v2 v3 v4 _ _ _ h hw (lv_sub hl [0, 1, 2, 3, 4] rfl)
  have lp_19_1 : ∀ (rec_4_0 : Int32 × Int32 → Option (Int32)) (hrec_4_0 : ∀ (v1 : Int32) (v2 : Int32) (H : Heap) (locs : List Loc) (ls : Array Slot), rec_4_0 (v1, v2) = some y → Wd dC dI A s.heap [wX7 h_me h_me_court h_me_court_isles q_me k_me o_me, wX2 h_me_court_isles h_me_court_isles_now q_me_court_isles k_me_court_isles o_me_court_isles] H locs → lv_has ls 5 [(0, .ref h_me), (1, .int v1), (2, .int v2)] → W p l e ({ frames := 1, cells := 0, slots := 0, locals := 23 } : Room) s m ([.ref h_me] : List Value).toArray below meth c H locs 0 0 Qz (F0 m 4 ls [])) (N : Nat), ∀ (v1 : Int32) (v2 : Int32) (v3 : Int32) (H : Heap) (locs : List Loc) (ls : Array Slot), lp_X7_circleCount_19 o_me o_me_court_isles rec_4_0 N (v1, v2, v3) = some y → Wd dC dI A s.heap [wX7 h_me h_me_court h_me_court_isles q_me k_me o_me, wX2 h_me_court_isles h_me_court_isles_now q_me_court_isles k_me_court_isles o_me_court_isles] H locs → lv_has ls 5 [(0, .ref h_me), (1, .int v1), (2, .int v2), (3, .int v3)] → W p l e ({ frames := 1, cells := 0, slots := 0, locals := 23 } : Room) s m ([.ref h_me] : List Value).toArray below meth c H locs 0 0 Qz (F0 m 19 ls []) := by
    intro rec_4_0 hrec_4_0
    intro N
    induction N with
    | zero =>
      intro v1 v2 v3 H locs ls h hw hl
      exact absurd (show (none : Option (Int32)) = some y from h) (by simp)
    | succ N ih =>
      intro v1 v2 v3 H locs ls h hw hl
      have h : lb_X7_circleCount_19 o_me o_me_court_isles rec_4_0 (lp_X7_circleCount_19 o_me o_me_court_isles rec_4_0 N) v1 v2 v3 = some y := h
      unfold lb_X7_circleCount_19 at h
      refine lv_iload_n hx hb dX7_circleCount_19 rfl (lv_at hl 3 rfl) ?_
      refine lv_aload_n hx hb dX7_circleCount_20 rfl (lv_at hl 0 rfl) ?_
      refine fgX7_1 hx hb hts hown hK hw 0 rfl kw387 dX7_circleCount_21 ?_
      refine fgX2_7 hx hb hts hown hK hw 1 rfl kw316 dX7_circleCount_24 ?_
      refine lv_icmp_ge (tgt := 84) hx hb dX7_circleCount_27 (by decide) (fun c => ?_) (fun c => ?_)
      · have h := z_t h c
        obtain ⟨x2, ex2, h⟩ := z_lt h
        refine lv_iinc (v := x2) (lv' := [(2, .int x2), (0, .ref h_me), (1, .int v1), (3, .int v3)]) hx hb dX7_circleCount_84 hl (k := 2) rfl ((congrArg (v2 + ·) (show Int32.ofInt 1 = (1 : Int32) from by decide)).trans ex2.symm) (by decide) rfl (fun ls hl => ?_)
        refine lv_goto (tgt := 4) hx hb dX7_circleCount_87 (by decide) ?_
        exact hrec_4_0 v1 x2 _ _ _ h hw (lv_sub hl [1, 2, 0] rfl)
      · have h := z_f h c
        refine lv_iload_n hx hb dX7_circleCount_30 rfl (lv_at hl 3 rfl) ?_
        refine lv_iconst (v := 1) hx hb dX7_circleCount_31 (by decide) ?_
        refine lv_iadd hx hb dX7_circleCount_32 ?_
        obtain ⟨x3, ex3, h⟩ := z_lt h
        refine lv_fi (v := x3) ex3.symm ?_
        refine lv_istore (lv' := [(4, .int x3), (0, .ref h_me), (1, .int v1), (2, .int v2), (3, .int v3)]) hx hb dX7_circleCount_33 hl (by decide) rfl (fun ls hl => ?_)
        exact lp_35_2 rec_4_0 hrec_4_0 (lp_X7_circleCount_19 o_me o_me_court_isles rec_4_0 N) ih zfu v1 v2 v3 x3 _ _ _ h hw (lv_sub hl [1, 2, 3, 4, 0] rfl)
  have lp_4_0 : ∀ (N : Nat), ∀ (v1 : Int32) (v2 : Int32) (H : Heap) (locs : List Loc) (ls : Array Slot), lp_X7_circleCount_4 o_me o_me_court_isles  N (v1, v2) = some y → Wd dC dI A s.heap [wX7 h_me h_me_court h_me_court_isles q_me k_me o_me, wX2 h_me_court_isles h_me_court_isles_now q_me_court_isles k_me_court_isles o_me_court_isles] H locs → lv_has ls 5 [(0, .ref h_me), (1, .int v1), (2, .int v2)] → W p l e ({ frames := 1, cells := 0, slots := 0, locals := 23 } : Room) s m ([.ref h_me] : List Value).toArray below meth c H locs 0 0 Qz (F0 m 4 ls []) := by
    intro N
    induction N with
    | zero =>
      intro v1 v2 H locs ls h hw hl
      exact absurd (show (none : Option (Int32)) = some y from h) (by simp)
    | succ N ih =>
      intro v1 v2 H locs ls h hw hl
      have h : lb_X7_circleCount_4 o_me o_me_court_isles  (lp_X7_circleCount_4 o_me o_me_court_isles  N) v1 v2 = some y := h
      unfold lb_X7_circleCount_4 at h
      refine lv_iload_n hx hb dX7_circleCount_4 rfl (lv_at hl 2 rfl) ?_
      refine lv_aload_n hx hb dX7_circleCount_5 rfl (lv_at hl 0 rfl) ?_
      refine fgX7_1 hx hb hts hown hK hw 0 rfl kw387 dX7_circleCount_6 ?_
      refine fgX2_7 hx hb hts hown hK hw 1 rfl kw316 dX7_circleCount_9 ?_
      refine lv_icmp_ge (tgt := 90) hx hb dX7_circleCount_12 (by decide) (fun c => ?_) (fun c => ?_)
      · have h := z_t h c
        refine lv_iload_n hx hb dX7_circleCount_90 rfl (lv_at hl 1 rfl) ?_
        have hy := Option.some.inj h
        rw [← hQz, ← hy]
        exact xr_i (v := v1) hx hb hr rfl hlk hK hw dX7_circleCount_91
      · have h := z_f h c
        refine lv_iload_n hx hb dX7_circleCount_15 rfl (lv_at hl 2 rfl) ?_
        refine lv_iconst (v := 1) hx hb dX7_circleCount_16 (by decide) ?_
        refine lv_iadd hx hb dX7_circleCount_17 ?_
        obtain ⟨x1, ex1, h⟩ := z_lt h
        refine lv_fi (v := x1) ex1.symm ?_
        refine lv_istore_n (lv' := [(3, .int x1), (0, .ref h_me), (1, .int v1), (2, .int v2)]) hx hb dX7_circleCount_18 rfl hl (by decide) rfl (fun ls hl => ?_)
        exact lp_19_1 (lp_X7_circleCount_4 o_me o_me_court_isles  N) ih zfu v1 v2 x1 _ _ _ h hw (lv_sub hl [1, 2, 3, 0] rfl)
  unfold f_X7_circleCount at h
  refine lv_iconst (v := 0) hx hb dX7_circleCount_0 (by decide) ?_
  refine lv_istore_n (lv' := [(1, .int (0 : Int32)), (0, .ref h_me)]) hx hb dX7_circleCount_1 rfl hl (by decide) rfl (fun ls hl => ?_)
  refine lv_iconst (v := 0) hx hb dX7_circleCount_2 (by decide) ?_
  refine lv_istore_n (lv' := [(2, .int (0 : Int32)), (1, .int (0 : Int32)), (0, .ref h_me)]) hx hb dX7_circleCount_3 rfl hl (by decide) rfl (fun ls hl => ?_)
  exact lp_4_0  zfu (0 : Int32) (0 : Int32) _ _ _ h hw (lv_sub hl [2, 1, 0] rfl)

def f_X8_circles (o_me : Ob) (o_me_isles : Ob) (o_me_study : Ob) : Option (Int32) :=
  (f_X7_circleCount o_me_study o_me_isles).bind fun z1 =>
  some z1
set_option maxHeartbeats 4000000 in
set_option maxRecDepth 100000 in
theorem m_X8_circles (l : Launch) (dC : Nat → ClassId) (dI : Nat → Nat → Nat) (sz : Nat) (h_me : Nat) (h_me_reader : Nat) (h_me_machine : Nat) (h_me_isles : Nat) (h_me_court : Nat) (h_me_study : Nat) (h_me_paper : Nat) (h_me_paperCourt : Nat) (h_me_past : Nat) (h_me_pastAhead : Nat) (h_me_movingAhead : Nat) (h_me_isles_now : Nat) (q_me : Nat → Nat) (k_me : Nat → ClassId) (q_me_isles : Nat → Nat) (k_me_isles : Nat → ClassId) (q_me_study : Nat → Nat) (k_me_study : Nat → ClassId) (o_me : Ob) (o_me_isles : Ob) (o_me_study : Ob) (y : Int32) (h : f_X8_circles o_me o_me_isles o_me_study = some y) : CI l yX8_circles cX8_circles 1 (some .int) ({ frames := 2, cells := 0, slots := 0, locals := 47 } : Room) dC dI sz [.ref h_me] [wX8 h_me h_me_reader h_me_machine h_me_isles h_me_court h_me_study h_me_paper h_me_paperCourt h_me_past h_me_pastAhead h_me_movingAhead q_me k_me o_me, wX2 h_me_isles h_me_isles_now q_me_isles k_me_isles o_me_isles, wX7 h_me_study h_me_court h_me_isles q_me_study k_me_study o_me_study] [tX8 k_me, tX2 k_me_isles, tX7 k_me_study] y [wX8 h_me h_me_reader h_me_machine h_me_isles h_me_court h_me_study h_me_paper h_me_paperCourt h_me_past h_me_pastAhead h_me_movingAhead q_me k_me o_me, wX2 h_me_isles h_me_isles_now q_me_isles k_me_isles o_me_isles, wX7 h_me_study h_me_court h_me_isles q_me_study k_me_study o_me_study] := by
  refine CC_of (by decide) (Nat.le_of_ble_eq_true rfl) ?_
  intro p e s m below meth c A ls hx hb hml hr hlk hnm hown hts hX hK hP hD hA hl
  have hl : lv_has ls 1 [(0, .ref h_me)] := hl
  have hown : s.vm.findClass RX8 = some m.cls := hown
  have hw : Wd dC dI A s.heap [wX8 h_me h_me_reader h_me_machine h_me_isles h_me_court h_me_study h_me_paper h_me_paperCourt h_me_past h_me_pastAhead h_me_movingAhead q_me k_me o_me, wX2 h_me_isles h_me_isles_now q_me_isles k_me_isles o_me_isles, wX7 h_me_study h_me_court h_me_isles q_me_study k_me_study o_me_study] s.heap [] := ⟨hP, hD, va_S.rf⟩
  generalize hQz : (MQ below (QI dC dI (fun r (_ : Unit) => r = y) (fun _ => Jn [wX8 h_me h_me_reader h_me_machine h_me_isles h_me_court h_me_study h_me_paper h_me_paperCourt h_me_past h_me_pastAhead h_me_movingAhead q_me k_me o_me, wX2 h_me_isles h_me_isles_now q_me_isles k_me_isles o_me_isles, wX7 h_me_study h_me_court h_me_isles q_me_study k_me_study o_me_study]) (fun _ => Jt [tX8 k_me, tX2 k_me_isles, tX7 k_me_study]) A) ([.ref h_me] : List Value).toArray s 0 0 A) = Qz
  clear hP hD hnm
  unfold f_X8_circles at h
  refine lv_aload_n hx hb dX8_circles_0 rfl (lv_at hl 0 rfl) ?_
  refine fgX8_4 hx hb hts hown hK hw 0 rfl kw446 dX8_circles_1 ?_
  obtain ⟨z1, ez1, h⟩ := z_bd h
  refine xj_i (xrV (As := []) (rest := []) ⟨hx, hb, hml, hown, hts⟩ (m_X7_circleCount l dC dI _ h_me_study h_me_court h_me_isles h_me_isles_now q_me_study k_me_study q_me_isles k_me_isles o_me_study o_me_isles z1 ez1) kw1033 kw1030 kw1031 kw1032 kw118 hd_X7_circleCount ⟨rfl, rfl⟩ rfl rfl ⟨rfl, rfl⟩ hX hK hw [2, 1] (by decide) rfl rfl rfl rfl rfl hl.1 rfl rfl dX8_circles_4) hw hA [2, 1] (by decide) rfl rfl (fun H locs hw => ?_)
  have hw : Wd dC dI A s.heap [wX8 h_me h_me_reader h_me_machine h_me_isles h_me_court h_me_study h_me_paper h_me_paperCourt h_me_past h_me_pastAhead h_me_movingAhead q_me k_me o_me, wX2 h_me_isles h_me_isles_now q_me_isles k_me_isles o_me_isles, wX7 h_me_study h_me_court h_me_isles q_me_study k_me_study o_me_study] H locs := hw
  have hy := Option.some.inj h
  rw [← hQz, ← hy]
  exact xr_i (v := z1) hx hb hr rfl hlk hK hw dX8_circles_7

def bk_X8_compare_16 (o_me : Ob) (o_me_isles : Ob) (o_me_isles_now : Ob) (o_pool : List CR)  (v1 : Int32) (v2 : Int32) (o_me_machine : Ob) (o_me_court : Ob) : Option (Int32 × Ob × Ob) :=
  (f_X8_isRace v2).bind fun z1 =>
  if z1 = (0 : Int32) then
  (some ((-1 : Int32), o_me_machine, o_me_court))
  else
  ((f_X2_lawAt o_me_isles v1).bind fun z2 =>
  (f_X1_lineUp_Q o_me_court o_me_isles o_me_isles_now o_me_machine o_pool z2 v2).bind fun z3 =>
  (f_X1_at z3.2.1 (1 : Int32)).bind fun z4 =>
  some (z4, z3.2.2, z3.2.1))
def f_X8_compare (o_me : Ob) (o_me_machine : Ob) (o_me_isles : Ob) (o_me_isles_now : Ob) (o_me_court : Ob) (o_pool : List CR) (p0 : Int32) (p1 : Int32) : Option (Int32 × Ob × Ob) :=
  if p0 = (-1 : Int32) then
  (bk_X8_compare_16 o_me o_me_isles o_me_isles_now o_pool  p0 p1 o_me_machine o_me_court)
  else
  ((f_X2_isLaw o_me_isles p0).bind fun z5 =>
  if z5 = (0 : Int32) then
  (some ((-1 : Int32), o_me_machine, o_me_court))
  else
  (bk_X8_compare_16 o_me o_me_isles o_me_isles_now o_pool  p0 p1 o_me_machine o_me_court))
set_option maxHeartbeats 4000000 in
set_option maxRecDepth 100000 in
theorem m_X8_compare (l : Launch) (dC : Nat → ClassId) (dI : Nat → Nat → Nat) (sz : Nat) (h_me : Nat) (h_me_reader : Nat) (h_me_machine : Nat) (h_me_isles : Nat) (h_me_court : Nat) (h_me_study : Nat) (h_me_paper : Nat) (h_me_paperCourt : Nat) (h_me_past : Nat) (h_me_pastAhead : Nat) (h_me_movingAhead : Nat) (h_me_isles_now : Nat) (q_me : Nat → Nat) (k_me : Nat → ClassId) (q_me_machine : Nat → Nat) (k_me_machine : Nat → ClassId) (q_me_isles : Nat → Nat) (k_me_isles : Nat → ClassId) (q_me_isles_now : Nat → Nat) (k_me_isles_now : Nat → ClassId) (q_me_court : Nat → Nat) (k_me_court : Nat → ClassId) (o_me : Ob) (o_me_machine : Ob) (o_me_isles : Ob) (o_me_isles_now : Ob) (o_me_court : Ob) (o_pool : List CR) (p0 : Int32) (p1 : Int32) (y : Int32 × Ob × Ob) (h : f_X8_compare o_me o_me_machine o_me_isles o_me_isles_now o_me_court o_pool p0 p1 = some y) : CI l yX8_compare cX8_compare 3 (some .int) ({ frames := 5, cells := 0, slots := 0, locals := 133 } : Room) dC dI sz [.ref h_me, .int p0, .int p1] [wX8 h_me h_me_reader h_me_machine h_me_isles h_me_court h_me_study h_me_paper h_me_paperCourt h_me_past h_me_pastAhead h_me_movingAhead q_me k_me o_me, wX3 h_me_machine q_me_machine k_me_machine o_me_machine, wX2 h_me_isles h_me_isles_now q_me_isles k_me_isles o_me_isles, wX4 h_me_isles_now q_me_isles_now k_me_isles_now o_me_isles_now, wX1 h_me_court h_me_isles h_me_machine q_me_court k_me_court o_me_court, wPL o_pool] [tX8 k_me, tX3 k_me_machine, tX2 k_me_isles, tX4 k_me_isles_now, tX1 k_me_court, tPL o_pool] y.1 [wX8 h_me h_me_reader h_me_machine h_me_isles h_me_court h_me_study h_me_paper h_me_paperCourt h_me_past h_me_pastAhead h_me_movingAhead q_me k_me o_me, wX3 h_me_machine q_me_machine k_me_machine y.2.1, wX2 h_me_isles h_me_isles_now q_me_isles k_me_isles o_me_isles, wX4 h_me_isles_now q_me_isles_now k_me_isles_now o_me_isles_now, wX1 h_me_court h_me_isles h_me_machine q_me_court k_me_court y.2.2, wPL o_pool] := by
  refine CC_of (by decide) (Nat.le_of_ble_eq_true rfl) ?_
  intro p e s m below meth c A ls hx hb hml hr hlk hnm hown hts hX hK hP hD hA hl
  have hl : lv_has ls 3 [(0, .ref h_me), (1, .int p0), (2, .int p1)] := hl
  have hown : s.vm.findClass RX8 = some m.cls := hown
  have hw : Wd dC dI A s.heap [wX8 h_me h_me_reader h_me_machine h_me_isles h_me_court h_me_study h_me_paper h_me_paperCourt h_me_past h_me_pastAhead h_me_movingAhead q_me k_me o_me, wX3 h_me_machine q_me_machine k_me_machine o_me_machine, wX2 h_me_isles h_me_isles_now q_me_isles k_me_isles o_me_isles, wX4 h_me_isles_now q_me_isles_now k_me_isles_now o_me_isles_now, wX1 h_me_court h_me_isles h_me_machine q_me_court k_me_court o_me_court, wPL o_pool] s.heap [] := ⟨hP, hD, va_S.rf⟩
  generalize hQz : (MQ below (QI dC dI (fun r (_ : Unit) => r = y.1) (fun _ => Jn [wX8 h_me h_me_reader h_me_machine h_me_isles h_me_court h_me_study h_me_paper h_me_paperCourt h_me_past h_me_pastAhead h_me_movingAhead q_me k_me o_me, wX3 h_me_machine q_me_machine k_me_machine y.2.1, wX2 h_me_isles h_me_isles_now q_me_isles k_me_isles o_me_isles, wX4 h_me_isles_now q_me_isles_now k_me_isles_now o_me_isles_now, wX1 h_me_court h_me_isles h_me_machine q_me_court k_me_court y.2.2, wPL o_pool]) (fun _ => Jt [tX8 k_me, tX3 k_me_machine, tX2 k_me_isles, tX4 k_me_isles_now, tX1 k_me_court, tPL o_pool]) A) ([.ref h_me, .int p0, .int p1] : List Value).toArray s 0 0 A) = Qz
  clear hP hD hnm
  have bk_16_0 : ∀ (v1 : Int32) (v2 : Int32) (o_me_machine : Ob) (o_me_court : Ob) (H : Heap) (locs : List Loc) (ls : Array Slot), bk_X8_compare_16 o_me o_me_isles o_me_isles_now o_pool  v1 v2 o_me_machine o_me_court = some y → Wd dC dI A s.heap [wX8 h_me h_me_reader h_me_machine h_me_isles h_me_court h_me_study h_me_paper h_me_paperCourt h_me_past h_me_pastAhead h_me_movingAhead q_me k_me o_me, wX3 h_me_machine q_me_machine k_me_machine o_me_machine, wX2 h_me_isles h_me_isles_now q_me_isles k_me_isles o_me_isles, wX4 h_me_isles_now q_me_isles_now k_me_isles_now o_me_isles_now, wX1 h_me_court h_me_isles h_me_machine q_me_court k_me_court o_me_court, wPL o_pool] H locs → lv_has ls 3 [(0, .ref h_me), (1, .int v1), (2, .int v2)] → W p l e ({ frames := 5, cells := 0, slots := 0, locals := 133 } : Room) s m ([.ref h_me, .int p0, .int p1] : List Value).toArray below meth c H locs 0 0 Qz (F0 m 16 ls []) := by
    intro v1 v2 o_me_machine o_me_court H locs ls h hw hl
    unfold bk_X8_compare_16 at h
    refine lv_iload_n hx hb dX8_compare_16 rfl (lv_at hl 2 rfl) ?_
    obtain ⟨z1, ez1, h⟩ := z_bd h
    refine xj_i (xrS (As := [.int v2]) (rest := []) ⟨hx, hb, hml, hown, hts⟩ (m_X8_isRace l dC dI _  v2 z1 ez1) kw527 kw525 kw526 kw110 hd_X8_isRace ⟨rfl, rfl⟩ rfl rfl ⟨rfl, rfl⟩ hX hK hw [] (by decide) rfl rfl hl.1 rfl rfl dX8_compare_17) hw hA [] (by decide) rfl rfl (fun H locs hw => ?_)
    refine lv_if_ne (tgt := 25) hx hb dX8_compare_20 (by decide) (fun c => ?_) (fun c => ?_)
    · have h := z_f h c
      refine lv_aload_n hx hb dX8_compare_25 rfl (lv_at hl 0 rfl) ?_
      refine fgX8_3 hx hb hts hown hK hw 0 rfl kw445 dX8_compare_26 ?_
      refine lv_aload_n hx hb dX8_compare_29 rfl (lv_at hl 0 rfl) ?_
      refine fgX8_2 hx hb hts hown hK hw 0 rfl kw444 dX8_compare_30 ?_
      refine lv_iload_n hx hb dX8_compare_33 rfl (lv_at hl 1 rfl) ?_
      obtain ⟨z2, ez2, h⟩ := z_bd h
      refine xj_q (xrV (As := [.int v1]) (rest := [.ref h_me_court]) ⟨hx, hb, hml, hown, hts⟩ (m_X2_lawAt l dC dI _ h_me_isles h_me_isles_now q_me_isles k_me_isles o_me_isles v1 z2 ez2) kw535 kw1109 kw533 kw534 kw115 hd_X2_lawAt ⟨rfl, rfl⟩ rfl rfl ⟨rfl, rfl⟩ hX hK hw [2] (by decide) rfl rfl rfl rfl rfl hl.1 rfl rfl dX8_compare_34) hw hA [2] (by decide) rfl rfl (fun H locs hw => ?_)
      have hw : Wd dC dI A s.heap [wX8 h_me h_me_reader h_me_machine h_me_isles h_me_court h_me_study h_me_paper h_me_paperCourt h_me_past h_me_pastAhead h_me_movingAhead q_me k_me o_me, wX3 h_me_machine q_me_machine k_me_machine o_me_machine, wX2 h_me_isles h_me_isles_now q_me_isles k_me_isles o_me_isles, wX4 h_me_isles_now q_me_isles_now k_me_isles_now o_me_isles_now, wX1 h_me_court h_me_isles h_me_machine q_me_court k_me_court o_me_court, wPL o_pool] H locs := hw
      refine lv_iload_n hx hb dX8_compare_37 rfl (lv_at hl 2 rfl) ?_
      obtain ⟨z3, ez3, h⟩ := z_bd h
      refine xj_i (xrV (As := [va_rf z2, .int v2]) (rest := []) ⟨hx, hb, hml, hown, hts⟩ (m_X1_lineUp_Q l dC dI _ h_me_court h_me_isles h_me_machine h_me_isles_now q_me_court k_me_court q_me_isles k_me_isles q_me_isles_now k_me_isles_now q_me_machine k_me_machine o_me_court o_me_isles o_me_isles_now o_me_machine o_pool z2 v2 z3 ez3) kw605 kw602 kw603 kw604 kw117 hd_X1_lineUp ⟨rfl, rfl⟩ rfl rfl ⟨rfl, rfl⟩ hX hK hw [4, 2, 3, 1, 5] (by decide) rfl rfl rfl rfl rfl hl.1 rfl rfl dX8_compare_38) hw hA [4, 2, 3, 1, 5] (by decide) rfl rfl (fun H locs hw => ?_)
      have hw : Wd dC dI A s.heap [wX8 h_me h_me_reader h_me_machine h_me_isles h_me_court h_me_study h_me_paper h_me_paperCourt h_me_past h_me_pastAhead h_me_movingAhead q_me k_me o_me, wX3 h_me_machine q_me_machine k_me_machine z3.2.2, wX2 h_me_isles h_me_isles_now q_me_isles k_me_isles o_me_isles, wX4 h_me_isles_now q_me_isles_now k_me_isles_now o_me_isles_now, wX1 h_me_court h_me_isles h_me_machine q_me_court k_me_court z3.2.1, wPL o_pool] H locs := hw
      refine lv_pop hx hb dX8_compare_41 rfl ?_
      refine lv_aload_n hx hb dX8_compare_42 rfl (lv_at hl 0 rfl) ?_
      refine fgX8_3 hx hb hts hown hK hw 0 rfl kw445 dX8_compare_43 ?_
      refine lv_iconst (v := 1) hx hb dX8_compare_46 (by decide) ?_
      obtain ⟨z4, ez4, h⟩ := z_bd h
      refine xj_i (xrV (As := [.int (1 : Int32)]) (rest := []) ⟨hx, hb, hml, hown, hts⟩ (m_X1_at l dC dI _ h_me_court h_me_isles h_me_machine q_me_court k_me_court z3.2.1 (1 : Int32) z4 ez4) kw615 kw612 kw613 kw614 kw117 hd_X1_at ⟨rfl, rfl⟩ rfl rfl ⟨rfl, rfl⟩ hX hK hw [4] (by decide) rfl rfl rfl rfl rfl hl.1 rfl rfl dX8_compare_47) hw hA [4] (by decide) rfl rfl (fun H locs hw => ?_)
      have hw : Wd dC dI A s.heap [wX8 h_me h_me_reader h_me_machine h_me_isles h_me_court h_me_study h_me_paper h_me_paperCourt h_me_past h_me_pastAhead h_me_movingAhead q_me k_me o_me, wX3 h_me_machine q_me_machine k_me_machine z3.2.2, wX2 h_me_isles h_me_isles_now q_me_isles k_me_isles o_me_isles, wX4 h_me_isles_now q_me_isles_now k_me_isles_now o_me_isles_now, wX1 h_me_court h_me_isles h_me_machine q_me_court k_me_court z3.2.1, wPL o_pool] H locs := hw
      have hy := Option.some.inj h
      rw [← hQz, ← hy]
      exact xr_i (v := z4) hx hb hr rfl hlk hK hw dX8_compare_50
    · have h := z_t h c
      refine lv_iconst (v := (-1)) hx hb dX8_compare_23 (by decide) ?_
      have hy := Option.some.inj h
      rw [← hQz, ← hy]
      exact xr_i (v := (-1 : Int32)) hx hb hr rfl hlk hK hw dX8_compare_24
  unfold f_X8_compare at h
  refine lv_iload_n hx hb dX8_compare_0 rfl (lv_at hl 1 rfl) ?_
  refine lv_iconst (v := (-1)) hx hb dX8_compare_1 (by decide) ?_
  refine lv_icmp_eq (tgt := 16) hx hb dX8_compare_2 (by decide) (fun c => ?_) (fun c => ?_)
  · have h := z_t h c
    exact bk_16_0  p0 p1 o_me_machine o_me_court _ _ _ h hw (lv_sub hl [0, 1, 2] rfl)
  · have h := z_f h c
    refine lv_aload_n hx hb dX8_compare_5 rfl (lv_at hl 0 rfl) ?_
    refine fgX8_2 hx hb hts hown hK hw 0 rfl kw444 dX8_compare_6 ?_
    refine lv_iload_n hx hb dX8_compare_9 rfl (lv_at hl 1 rfl) ?_
    obtain ⟨z5, ez5, h⟩ := z_bd h
    refine xj_i (xrV (As := [.int p0]) (rest := []) ⟨hx, hb, hml, hown, hts⟩ (m_X2_isLaw l dC dI _ h_me_isles h_me_isles_now q_me_isles k_me_isles o_me_isles p0 z5 ez5) kw539 kw910 kw537 kw538 kw115 hd_X2_isLaw ⟨rfl, rfl⟩ rfl rfl ⟨rfl, rfl⟩ hX hK hw [2] (by decide) rfl rfl rfl rfl rfl hl.1 rfl rfl dX8_compare_10) hw hA [2] (by decide) rfl rfl (fun H locs hw => ?_)
    have hw : Wd dC dI A s.heap [wX8 h_me h_me_reader h_me_machine h_me_isles h_me_court h_me_study h_me_paper h_me_paperCourt h_me_past h_me_pastAhead h_me_movingAhead q_me k_me o_me, wX3 h_me_machine q_me_machine k_me_machine o_me_machine, wX2 h_me_isles h_me_isles_now q_me_isles k_me_isles o_me_isles, wX4 h_me_isles_now q_me_isles_now k_me_isles_now o_me_isles_now, wX1 h_me_court h_me_isles h_me_machine q_me_court k_me_court o_me_court, wPL o_pool] H locs := hw
    refine lv_if_eq (tgt := 23) hx hb dX8_compare_13 (by decide) (fun c => ?_) (fun c => ?_)
    · have h := z_t h c
      refine lv_iconst (v := (-1)) hx hb dX8_compare_23 (by decide) ?_
      have hy := Option.some.inj h
      rw [← hQz, ← hy]
      exact xr_i (v := (-1 : Int32)) hx hb hr rfl hlk hK hw dX8_compare_24
    · have h := z_f h c
      exact bk_16_0  p0 p1 o_me_machine o_me_court _ _ _ h hw (lv_sub hl [0, 1, 2] rfl)

def lb_X2_allPrizes_4 (o_me : Ob) (o_me_now : Ob)  (rec_4_0 : Int32 × Int32 → Option (Int32)) (v1 : Int32) (v2 : Int32) : Option (Int32) :=
  if (gI o_me 7) ≤ v2 then
  (some v1)
  else
  (zgd (zin v2 7) <|
  zlt (v1 + (gA o_me_now 1 v2.toNatClampNeg)) fun x2 =>
  zlt (v2 + (1 : Int32)) fun x3 =>
  rec_4_0 (x2, x3))
def lp_X2_allPrizes_4 (o_me : Ob) (o_me_now : Ob)  : Nat → (Int32 × Int32) → Option (Int32) := zit (fun rec a => lb_X2_allPrizes_4 o_me o_me_now  rec a.1 a.2)
def f_X2_allPrizes (o_me : Ob) (o_me_now : Ob) : Option (Int32) :=
  lp_X2_allPrizes_4 o_me o_me_now  zfu ((0 : Int32), (0 : Int32))
set_option maxHeartbeats 4000000 in
set_option maxRecDepth 100000 in
theorem m_X2_allPrizes (l : Launch) (dC : Nat → ClassId) (dI : Nat → Nat → Nat) (sz : Nat) (h_me : Nat) (h_me_now : Nat) (q_me : Nat → Nat) (k_me : Nat → ClassId) (q_me_now : Nat → Nat) (k_me_now : Nat → ClassId) (o_me : Ob) (o_me_now : Ob) (y : Int32) (h : f_X2_allPrizes o_me o_me_now = some y) : CI l yX2_allPrizes cX2_allPrizes 3 (some .int) ({ frames := 0, cells := 0, slots := 0, locals := 0 } : Room) dC dI sz [.ref h_me] [wX2 h_me h_me_now q_me k_me o_me, wX4 h_me_now q_me_now k_me_now o_me_now] [tX2 k_me, tX4 k_me_now] y [wX2 h_me h_me_now q_me k_me o_me, wX4 h_me_now q_me_now k_me_now o_me_now] := by
  refine CC_of (by decide) (Nat.le_of_ble_eq_true rfl) ?_
  intro p e s m below meth c A ls hx hb hml hr hlk hnm hown hts hX hK hP hD hA hl
  have hl : lv_has ls 3 [(0, .ref h_me)] := hl
  have hown : s.vm.findClass RX2 = some m.cls := hown
  have hw : Wd dC dI A s.heap [wX2 h_me h_me_now q_me k_me o_me, wX4 h_me_now q_me_now k_me_now o_me_now] s.heap [] := ⟨hP, hD, va_S.rf⟩
  generalize hQz : (MQ below (QI dC dI (fun r (_ : Unit) => r = y) (fun _ => Jn [wX2 h_me h_me_now q_me k_me o_me, wX4 h_me_now q_me_now k_me_now o_me_now]) (fun _ => Jt [tX2 k_me, tX4 k_me_now]) A) ([.ref h_me] : List Value).toArray s 0 0 A) = Qz
  clear hP hD hnm
  have lp_4_0 : ∀ (N : Nat), ∀ (v1 : Int32) (v2 : Int32) (H : Heap) (locs : List Loc) (ls : Array Slot), lp_X2_allPrizes_4 o_me o_me_now  N (v1, v2) = some y → Wd dC dI A s.heap [wX2 h_me h_me_now q_me k_me o_me, wX4 h_me_now q_me_now k_me_now o_me_now] H locs → lv_has ls 3 [(0, .ref h_me), (1, .int v1), (2, .int v2)] → W p l e ({ frames := 0, cells := 0, slots := 0, locals := 0 } : Room) s m ([.ref h_me] : List Value).toArray below meth c H locs 0 0 Qz (F0 m 4 ls []) := by
    intro N
    induction N with
    | zero =>
      intro v1 v2 H locs ls h hw hl
      exact absurd (show (none : Option (Int32)) = some y from h) (by simp)
    | succ N ih =>
      intro v1 v2 H locs ls h hw hl
      have h : lb_X2_allPrizes_4 o_me o_me_now  (lp_X2_allPrizes_4 o_me o_me_now  N) v1 v2 = some y := h
      unfold lb_X2_allPrizes_4 at h
      refine lv_iload_n hx hb dX2_allPrizes_4 rfl (lv_at hl 2 rfl) ?_
      refine lv_aload_n hx hb dX2_allPrizes_5 rfl (lv_at hl 0 rfl) ?_
      refine fgX2_7 hx hb hts hown hK hw 0 rfl kw315 dX2_allPrizes_6 ?_
      refine lv_icmp_ge (tgt := 30) hx hb dX2_allPrizes_9 (by decide) (fun c => ?_) (fun c => ?_)
      · have h := z_t h c
        refine lv_iload_n hx hb dX2_allPrizes_30 rfl (lv_at hl 1 rfl) ?_
        have hy := Option.some.inj h
        rw [← hQz, ← hy]
        exact xr_i (v := v1) hx hb hr rfl hlk hK hw dX2_allPrizes_31
      · have h := z_f h c
        refine lv_iload_n hx hb dX2_allPrizes_12 rfl (lv_at hl 1 rfl) ?_
        refine lv_aload_n hx hb dX2_allPrizes_13 rfl (lv_at hl 0 rfl) ?_
        refine fgX2_0 hx hb hts hown hK hw 0 rfl kw295 dX2_allPrizes_14 ?_
        refine fgX4_1 hx hb hts hown hK hw 1 rfl kw267 dX2_allPrizes_17 ?_
        refine lv_iload_n hx hb dX2_allPrizes_20 rfl (lv_at hl 2 rfl) ?_
        obtain ⟨g1, h⟩ := z_gd h
        refine faX4_1 hx hb hK hw 1 rfl rfl g1 dX2_allPrizes_21 ?_
        refine lv_iadd hx hb dX2_allPrizes_22 ?_
        obtain ⟨x2, ex2, h⟩ := z_lt h
        refine lv_fi (v := x2) ex2.symm ?_
        refine lv_istore_n (lv' := [(1, .int x2), (0, .ref h_me), (2, .int v2)]) hx hb dX2_allPrizes_23 rfl hl (by decide) rfl (fun ls hl => ?_)
        obtain ⟨x3, ex3, h⟩ := z_lt h
        refine lv_iinc (v := x3) (lv' := [(2, .int x3), (1, .int x2), (0, .ref h_me)]) hx hb dX2_allPrizes_24 hl (k := 2) rfl ((congrArg (v2 + ·) (show Int32.ofInt 1 = (1 : Int32) from by decide)).trans ex3.symm) (by decide) rfl (fun ls hl => ?_)
        refine lv_goto (tgt := 4) hx hb dX2_allPrizes_27 (by decide) ?_
        exact ih x2 x3 _ _ _ h hw (lv_sub hl [2, 1, 0] rfl)
  unfold f_X2_allPrizes at h
  refine lv_iconst (v := 0) hx hb dX2_allPrizes_0 (by decide) ?_
  refine lv_istore_n (lv' := [(1, .int (0 : Int32)), (0, .ref h_me)]) hx hb dX2_allPrizes_1 rfl hl (by decide) rfl (fun ls hl => ?_)
  refine lv_iconst (v := 0) hx hb dX2_allPrizes_2 (by decide) ?_
  refine lv_istore_n (lv' := [(2, .int (0 : Int32)), (1, .int (0 : Int32)), (0, .ref h_me)]) hx hb dX2_allPrizes_3 rfl hl (by decide) rfl (fun ls hl => ?_)
  exact lp_4_0  zfu (0 : Int32) (0 : Int32) _ _ _ h hw (lv_sub hl [2, 1, 0] rfl)

def f_X2_term (o_me : Ob) (o_me_now : Ob) (p0 : Int32) : Option (Int32) :=
  if p0 = (0 : Int32) then
  (some (gI o_me_now 4))
  else
  (if p0 = (1 : Int32) then
  (some (gI o_me 11))
  else
  (some (gI o_me 12)))
set_option maxHeartbeats 4000000 in
set_option maxRecDepth 100000 in
theorem m_X2_term (l : Launch) (dC : Nat → ClassId) (dI : Nat → Nat → Nat) (sz : Nat) (h_me : Nat) (h_me_now : Nat) (q_me : Nat → Nat) (k_me : Nat → ClassId) (q_me_now : Nat → Nat) (k_me_now : Nat → ClassId) (o_me : Ob) (o_me_now : Ob) (p0 : Int32) (y : Int32) (h : f_X2_term o_me o_me_now p0 = some y) : CI l yX2_term cX2_term 2 (some .int) ({ frames := 0, cells := 0, slots := 0, locals := 0 } : Room) dC dI sz [.ref h_me, .int p0] [wX2 h_me h_me_now q_me k_me o_me, wX4 h_me_now q_me_now k_me_now o_me_now] [tX2 k_me, tX4 k_me_now] y [wX2 h_me h_me_now q_me k_me o_me, wX4 h_me_now q_me_now k_me_now o_me_now] := by
  refine CC_of (by decide) (Nat.le_of_ble_eq_true rfl) ?_
  intro p e s m below meth c A ls hx hb hml hr hlk hnm hown hts hX hK hP hD hA hl
  have hl : lv_has ls 2 [(0, .ref h_me), (1, .int p0)] := hl
  have hown : s.vm.findClass RX2 = some m.cls := hown
  have hw : Wd dC dI A s.heap [wX2 h_me h_me_now q_me k_me o_me, wX4 h_me_now q_me_now k_me_now o_me_now] s.heap [] := ⟨hP, hD, va_S.rf⟩
  generalize hQz : (MQ below (QI dC dI (fun r (_ : Unit) => r = y) (fun _ => Jn [wX2 h_me h_me_now q_me k_me o_me, wX4 h_me_now q_me_now k_me_now o_me_now]) (fun _ => Jt [tX2 k_me, tX4 k_me_now]) A) ([.ref h_me, .int p0] : List Value).toArray s 0 0 A) = Qz
  clear hP hD hnm
  unfold f_X2_term at h
  refine lv_iload_n hx hb dX2_term_0 rfl (lv_at hl 1 rfl) ?_
  refine lv_if_ne (tgt := 14) hx hb dX2_term_1 (by decide) (fun c => ?_) (fun c => ?_)
  · have h := z_f h c
    refine lv_iload_n hx hb dX2_term_14 rfl (lv_at hl 1 rfl) ?_
    refine lv_iconst (v := 1) hx hb dX2_term_15 (by decide) ?_
    refine lv_icmp_ne (tgt := 26) hx hb dX2_term_16 (by decide) (fun c => ?_) (fun c => ?_)
    · have h := z_f h c
      refine lv_aload_n hx hb dX2_term_26 rfl (lv_at hl 0 rfl) ?_
      refine fgX2_12 hx hb hts hown hK hw 0 rfl kw328 dX2_term_27 ?_
      have hy := Option.some.inj h
      rw [← hQz, ← hy]
      exact xr_i (v := gI o_me 12) hx hb hr rfl hlk hK hw dX2_term_30
    · have h := z_t h c
      refine lv_aload_n hx hb dX2_term_19 rfl (lv_at hl 0 rfl) ?_
      refine fgX2_11 hx hb hts hown hK hw 0 rfl kw326 dX2_term_20 ?_
      refine lv_goto (tgt := 30) hx hb dX2_term_23 (by decide) ?_
      have hy := Option.some.inj h
      rw [← hQz, ← hy]
      exact xr_i (v := gI o_me 11) hx hb hr rfl hlk hK hw dX2_term_30
  · have h := z_t h c
    refine lv_aload_n hx hb dX2_term_4 rfl (lv_at hl 0 rfl) ?_
    refine fgX2_0 hx hb hts hown hK hw 0 rfl kw295 dX2_term_5 ?_
    refine fgX4_4 hx hb hts hown hK hw 1 rfl kw279 dX2_term_8 ?_
    refine lv_goto (tgt := 30) hx hb dX2_term_11 (by decide) ?_
    have hy := Option.some.inj h
    rw [← hQz, ← hy]
    exact xr_i (v := gI o_me_now 4) hx hb hr rfl hlk hK hw dX2_term_30

def f_X8_count (o_me : Ob) (o_me_reader : Ob) (o_me_isles : Ob) (o_me_isles_now : Ob) (o_me_past : Ob) (p0 : Int32) : Option (Int32) :=
  if p0 = (0 : Int32) then
  (some (gI o_me_isles 7))
  else
  (if p0 = (1 : Int32) then
  ((f_J6_bitCount_0f7a4 (gI o_me_isles_now 2)).bind fun z2 =>
  some z2)
  else
  (if p0 = (2 : Int32) then
  (some (gI o_me_isles_now 3))
  else
  (if p0 = (3 : Int32) then
  ((f_X2_allPrizes o_me_isles o_me_isles_now).bind fun z3 =>
  some z3)
  else
  (if p0 = (4 : Int32) then
  (some (gI o_me_isles 8))
  else
  (if p0 = (5 : Int32) then
  (some (gI o_me_isles 9))
  else
  (if p0 = (6 : Int32) then
  (some (gI o_me_past 3))
  else
  (if p0 = (7 : Int32) then
  (some (gI o_me_reader 2))
  else
  (if p0 = (8 : Int32) then
  (some (gA o_me 11 (1 : Int32).toNatClampNeg))
  else
  (if p0 = (9 : Int32) then
  (some (gA o_me 11 (2 : Int32).toNatClampNeg))
  else
  (if p0 = (10 : Int32) then
  (some (gA o_me 11 (3 : Int32).toNatClampNeg))
  else
  (if p0 = (11 : Int32) then
  (some (gA o_me 11 (5 : Int32).toNatClampNeg))
  else
  (if p0 = (12 : Int32) then
  (some (gA o_me 11 (6 : Int32).toNatClampNeg))
  else
  (if p0 = (13 : Int32) then
  (some (gI o_me_isles 10))
  else
  (if p0 = (14 : Int32) then
  ((f_X2_term o_me_isles o_me_isles_now (0 : Int32)).bind fun z4 =>
  some z4)
  else
  (if p0 = (15 : Int32) then
  ((f_X2_term o_me_isles o_me_isles_now (1 : Int32)).bind fun z5 =>
  some z5)
  else
  (if p0 = (16 : Int32) then
  ((f_X2_term o_me_isles o_me_isles_now (2 : Int32)).bind fun z6 =>
  some z6)
  else
  (some (-1 : Int32))))))))))))))))))
set_option maxHeartbeats 4000000 in
set_option maxRecDepth 100000 in
theorem m_X8_count (l : Launch) (dC : Nat → ClassId) (dI : Nat → Nat → Nat) (sz : Nat) (h_me : Nat) (h_me_reader : Nat) (h_me_machine : Nat) (h_me_isles : Nat) (h_me_court : Nat) (h_me_study : Nat) (h_me_paper : Nat) (h_me_paperCourt : Nat) (h_me_past : Nat) (h_me_pastAhead : Nat) (h_me_movingAhead : Nat) (h_me_reader_code : Nat) (h_me_isles_now : Nat) (q_me : Nat → Nat) (k_me : Nat → ClassId) (q_me_reader : Nat → Nat) (k_me_reader : Nat → ClassId) (q_me_isles : Nat → Nat) (k_me_isles : Nat → ClassId) (q_me_isles_now : Nat → Nat) (k_me_isles_now : Nat → ClassId) (q_me_past : Nat → Nat) (k_me_past : Nat → ClassId) (o_me : Ob) (o_me_reader : Ob) (o_me_isles : Ob) (o_me_isles_now : Ob) (o_me_past : Ob) (p0 : Int32) (y : Int32) (h : f_X8_count o_me o_me_reader o_me_isles o_me_isles_now o_me_past p0 = some y) : CI l yX8_count cX8_count 2 (some .int) ({ frames := 1, cells := 0, slots := 0, locals := 22 } : Room) dC dI sz [.ref h_me, .int p0] [wX8 h_me h_me_reader h_me_machine h_me_isles h_me_court h_me_study h_me_paper h_me_paperCourt h_me_past h_me_pastAhead h_me_movingAhead q_me k_me o_me, wX6 h_me_reader h_me_reader_code q_me_reader k_me_reader o_me_reader, wX2 h_me_isles h_me_isles_now q_me_isles k_me_isles o_me_isles, wX4 h_me_isles_now q_me_isles_now k_me_isles_now o_me_isles_now, wX5 h_me_past q_me_past k_me_past o_me_past] [tX8 k_me, tX6 k_me_reader, tX2 k_me_isles, tX4 k_me_isles_now, tX5 k_me_past] y [wX8 h_me h_me_reader h_me_machine h_me_isles h_me_court h_me_study h_me_paper h_me_paperCourt h_me_past h_me_pastAhead h_me_movingAhead q_me k_me o_me, wX6 h_me_reader h_me_reader_code q_me_reader k_me_reader o_me_reader, wX2 h_me_isles h_me_isles_now q_me_isles k_me_isles o_me_isles, wX4 h_me_isles_now q_me_isles_now k_me_isles_now o_me_isles_now, wX5 h_me_past q_me_past k_me_past o_me_past] := by
  refine CC_of (by decide) (Nat.le_of_ble_eq_true rfl) ?_
  intro p e s m below meth c A ls hx hb hml hr hlk hnm hown hts hX hK hP hD hA hl
  have hl : lv_has ls 2 [(0, .ref h_me), (1, .int p0)] := hl
  have hown : s.vm.findClass RX8 = some m.cls := hown
  have hw : Wd dC dI A s.heap [wX8 h_me h_me_reader h_me_machine h_me_isles h_me_court h_me_study h_me_paper h_me_paperCourt h_me_past h_me_pastAhead h_me_movingAhead q_me k_me o_me, wX6 h_me_reader h_me_reader_code q_me_reader k_me_reader o_me_reader, wX2 h_me_isles h_me_isles_now q_me_isles k_me_isles o_me_isles, wX4 h_me_isles_now q_me_isles_now k_me_isles_now o_me_isles_now, wX5 h_me_past q_me_past k_me_past o_me_past] s.heap [] := ⟨hP, hD, va_S.rf⟩
  generalize hQz : (MQ below (QI dC dI (fun r (_ : Unit) => r = y) (fun _ => Jn [wX8 h_me h_me_reader h_me_machine h_me_isles h_me_court h_me_study h_me_paper h_me_paperCourt h_me_past h_me_pastAhead h_me_movingAhead q_me k_me o_me, wX6 h_me_reader h_me_reader_code q_me_reader k_me_reader o_me_reader, wX2 h_me_isles h_me_isles_now q_me_isles k_me_isles o_me_isles, wX4 h_me_isles_now q_me_isles_now k_me_isles_now o_me_isles_now, wX5 h_me_past q_me_past k_me_past o_me_past]) (fun _ => Jt [tX8 k_me, tX6 k_me_reader, tX2 k_me_isles, tX4 k_me_isles_now, tX5 k_me_past]) A) ([.ref h_me, .int p0] : List Value).toArray s 0 0 A) = Qz
  clear hP hD hnm
  unfold f_X8_count at h
  refine lv_iload_n hx hb dX8_count_0 rfl (lv_at hl 1 rfl) ?_
  rcases (show p0.toInt = 0 ∨ p0.toInt = 1 ∨ p0.toInt = 2 ∨ p0.toInt = 3 ∨ p0.toInt = 4 ∨ p0.toInt = 5 ∨ p0.toInt = 6 ∨ p0.toInt = 7 ∨ p0.toInt = 8 ∨ p0.toInt = 9 ∨ p0.toInt = 10 ∨ p0.toInt = 11 ∨ p0.toInt = 12 ∨ p0.toInt = 13 ∨ p0.toInt = 14 ∨ p0.toInt = 15 ∨ p0.toInt = 16 ∨ (p0.toInt < 0 ∨ 16 < p0.toInt) by omega) with c1 | c1 | c1 | c1 | c1 | c1 | c1 | c1 | c1 | c1 | c1 | c1 | c1 | c1 | c1 | c1 | c1 | c1
  · skip
    have ec1 : p0 = (0 : Int32) := Int32.toInt_inj.mp (c1.trans (by decide))
    have h := z_t h ec1
    refine lv_fi (v := 0) ec1 ?_
    refine lv_tableIn (tgt := 84) hx hb dX8_count_1 (by decide) (by decide) rfl (by decide) ?_
    refine lv_aload_n hx hb dX8_count_84 rfl (lv_at hl 0 rfl) ?_
    refine fgX8_2 hx hb hts hown hK hw 0 rfl kw444 dX8_count_85 ?_
    refine fgX2_7 hx hb hts hown hK hw 2 rfl kw317 dX8_count_88 ?_
    have hy := Option.some.inj h
    rw [← hQz, ← hy]
    exact xr_i (v := gI o_me_isles 7) hx hb hr rfl hlk hK hw dX8_count_91
  · skip
    have h := z_f h (fun e9 => by rw [e9] at c1; revert c1; decide)
    have ec1 : p0 = (1 : Int32) := Int32.toInt_inj.mp (c1.trans (by decide))
    have h := z_t h ec1
    refine lv_fi (v := 1) ec1 ?_
    refine lv_tableIn (tgt := 92) hx hb dX8_count_1 (by decide) (by decide) rfl (by decide) ?_
    refine lv_aload_n hx hb dX8_count_92 rfl (lv_at hl 0 rfl) ?_
    refine fgX8_2 hx hb hts hown hK hw 0 rfl kw444 dX8_count_93 ?_
    refine fgX2_0 hx hb hts hown hK hw 2 rfl kw297 dX8_count_96 ?_
    refine fgX4_2 hx hb hts hown hK hw 3 rfl kw272 dX8_count_99 ?_
    obtain ⟨z2, ez2, h⟩ := z_bd h
    refine xj_i (xrS (As := [.int (gI o_me_isles_now 2)]) (rest := []) ⟨hx, hb, hml, hown, hts⟩ (m_J6_bitCount_0f7a4 l dC dI _  (gI o_me_isles_now 2) z2 ez2) kw842 kw966 kw841 kw126 hd_J6_bitCount_0f7a4 ⟨rfl, rfl⟩ rfl rfl ⟨rfl, rfl⟩ hX hK hw [] (by decide) rfl rfl hl.1 rfl rfl dX8_count_102) hw hA [] (by decide) rfl rfl (fun H locs hw => ?_)
    have hy := Option.some.inj h
    rw [← hQz, ← hy]
    exact xr_i (v := z2) hx hb hr rfl hlk hK hw dX8_count_105
  · skip
    have h := z_f h (fun e9 => by rw [e9] at c1; revert c1; decide)
    have h := z_f h (fun e9 => by rw [e9] at c1; revert c1; decide)
    have ec1 : p0 = (2 : Int32) := Int32.toInt_inj.mp (c1.trans (by decide))
    have h := z_t h ec1
    refine lv_fi (v := 2) ec1 ?_
    refine lv_tableIn (tgt := 106) hx hb dX8_count_1 (by decide) (by decide) rfl (by decide) ?_
    refine lv_aload_n hx hb dX8_count_106 rfl (lv_at hl 0 rfl) ?_
    refine fgX8_2 hx hb hts hown hK hw 0 rfl kw444 dX8_count_107 ?_
    refine fgX2_0 hx hb hts hown hK hw 2 rfl kw297 dX8_count_110 ?_
    refine fgX4_3 hx hb hts hown hK hw 3 rfl kw276 dX8_count_113 ?_
    have hy := Option.some.inj h
    rw [← hQz, ← hy]
    exact xr_i (v := gI o_me_isles_now 3) hx hb hr rfl hlk hK hw dX8_count_116
  · skip
    have h := z_f h (fun e9 => by rw [e9] at c1; revert c1; decide)
    have h := z_f h (fun e9 => by rw [e9] at c1; revert c1; decide)
    have h := z_f h (fun e9 => by rw [e9] at c1; revert c1; decide)
    have ec1 : p0 = (3 : Int32) := Int32.toInt_inj.mp (c1.trans (by decide))
    have h := z_t h ec1
    refine lv_fi (v := 3) ec1 ?_
    refine lv_tableIn (tgt := 117) hx hb dX8_count_1 (by decide) (by decide) rfl (by decide) ?_
    refine lv_aload_n hx hb dX8_count_117 rfl (lv_at hl 0 rfl) ?_
    refine fgX8_2 hx hb hts hown hK hw 0 rfl kw444 dX8_count_118 ?_
    obtain ⟨z3, ez3, h⟩ := z_bd h
    refine xj_i (xrV (As := []) (rest := []) ⟨hx, hb, hml, hown, hts⟩ (m_X2_allPrizes l dC dI _ h_me_isles h_me_isles_now q_me_isles k_me_isles q_me_isles_now k_me_isles_now o_me_isles o_me_isles_now z3 ez3) kw1146 kw1143 kw1144 kw1145 kw115 hd_X2_allPrizes ⟨rfl, rfl⟩ rfl rfl ⟨rfl, rfl⟩ hX hK hw [2, 3] (by decide) rfl rfl rfl rfl rfl hl.1 rfl rfl dX8_count_121) hw hA [2, 3] (by decide) rfl rfl (fun H locs hw => ?_)
    have hw : Wd dC dI A s.heap [wX8 h_me h_me_reader h_me_machine h_me_isles h_me_court h_me_study h_me_paper h_me_paperCourt h_me_past h_me_pastAhead h_me_movingAhead q_me k_me o_me, wX6 h_me_reader h_me_reader_code q_me_reader k_me_reader o_me_reader, wX2 h_me_isles h_me_isles_now q_me_isles k_me_isles o_me_isles, wX4 h_me_isles_now q_me_isles_now k_me_isles_now o_me_isles_now, wX5 h_me_past q_me_past k_me_past o_me_past] H locs := hw
    have hy := Option.some.inj h
    rw [← hQz, ← hy]
    exact xr_i (v := z3) hx hb hr rfl hlk hK hw dX8_count_124
  · skip
    have h := z_f h (fun e9 => by rw [e9] at c1; revert c1; decide)
    have h := z_f h (fun e9 => by rw [e9] at c1; revert c1; decide)
    have h := z_f h (fun e9 => by rw [e9] at c1; revert c1; decide)
    have h := z_f h (fun e9 => by rw [e9] at c1; revert c1; decide)
    have ec1 : p0 = (4 : Int32) := Int32.toInt_inj.mp (c1.trans (by decide))
    have h := z_t h ec1
    refine lv_fi (v := 4) ec1 ?_
    refine lv_tableIn (tgt := 125) hx hb dX8_count_1 (by decide) (by decide) rfl (by decide) ?_
    refine lv_aload_n hx hb dX8_count_125 rfl (lv_at hl 0 rfl) ?_
    refine fgX8_2 hx hb hts hown hK hw 0 rfl kw444 dX8_count_126 ?_
    refine fgX2_8 hx hb hts hown hK hw 2 rfl kw321 dX8_count_129 ?_
    have hy := Option.some.inj h
    rw [← hQz, ← hy]
    exact xr_i (v := gI o_me_isles 8) hx hb hr rfl hlk hK hw dX8_count_132
  · skip
    have h := z_f h (fun e9 => by rw [e9] at c1; revert c1; decide)
    have h := z_f h (fun e9 => by rw [e9] at c1; revert c1; decide)
    have h := z_f h (fun e9 => by rw [e9] at c1; revert c1; decide)
    have h := z_f h (fun e9 => by rw [e9] at c1; revert c1; decide)
    have h := z_f h (fun e9 => by rw [e9] at c1; revert c1; decide)
    have ec1 : p0 = (5 : Int32) := Int32.toInt_inj.mp (c1.trans (by decide))
    have h := z_t h ec1
    refine lv_fi (v := 5) ec1 ?_
    refine lv_tableIn (tgt := 133) hx hb dX8_count_1 (by decide) (by decide) rfl (by decide) ?_
    refine lv_aload_n hx hb dX8_count_133 rfl (lv_at hl 0 rfl) ?_
    refine fgX8_2 hx hb hts hown hK hw 0 rfl kw444 dX8_count_134 ?_
    refine fgX2_9 hx hb hts hown hK hw 2 rfl kw323 dX8_count_137 ?_
    have hy := Option.some.inj h
    rw [← hQz, ← hy]
    exact xr_i (v := gI o_me_isles 9) hx hb hr rfl hlk hK hw dX8_count_140
  · skip
    have h := z_f h (fun e9 => by rw [e9] at c1; revert c1; decide)
    have h := z_f h (fun e9 => by rw [e9] at c1; revert c1; decide)
    have h := z_f h (fun e9 => by rw [e9] at c1; revert c1; decide)
    have h := z_f h (fun e9 => by rw [e9] at c1; revert c1; decide)
    have h := z_f h (fun e9 => by rw [e9] at c1; revert c1; decide)
    have h := z_f h (fun e9 => by rw [e9] at c1; revert c1; decide)
    have ec1 : p0 = (6 : Int32) := Int32.toInt_inj.mp (c1.trans (by decide))
    have h := z_t h ec1
    refine lv_fi (v := 6) ec1 ?_
    refine lv_tableIn (tgt := 141) hx hb dX8_count_1 (by decide) (by decide) rfl (by decide) ?_
    refine lv_aload_n hx hb dX8_count_141 rfl (lv_at hl 0 rfl) ?_
    refine fgX8_8 hx hb hts hown hK hw 0 rfl kw450 dX8_count_142 ?_
    refine fgX5_3 hx hb hts hown hK hw 4 rfl kw430 dX8_count_145 ?_
    have hy := Option.some.inj h
    rw [← hQz, ← hy]
    exact xr_i (v := gI o_me_past 3) hx hb hr rfl hlk hK hw dX8_count_148
  · skip
    have h := z_f h (fun e9 => by rw [e9] at c1; revert c1; decide)
    have h := z_f h (fun e9 => by rw [e9] at c1; revert c1; decide)
    have h := z_f h (fun e9 => by rw [e9] at c1; revert c1; decide)
    have h := z_f h (fun e9 => by rw [e9] at c1; revert c1; decide)
    have h := z_f h (fun e9 => by rw [e9] at c1; revert c1; decide)
    have h := z_f h (fun e9 => by rw [e9] at c1; revert c1; decide)
    have h := z_f h (fun e9 => by rw [e9] at c1; revert c1; decide)
    have ec1 : p0 = (7 : Int32) := Int32.toInt_inj.mp (c1.trans (by decide))
    have h := z_t h ec1
    refine lv_fi (v := 7) ec1 ?_
    refine lv_tableIn (tgt := 149) hx hb dX8_count_1 (by decide) (by decide) rfl (by decide) ?_
    refine lv_aload_n hx hb dX8_count_149 rfl (lv_at hl 0 rfl) ?_
    refine fgX8_0 hx hb hts hown hK hw 0 rfl kw442 dX8_count_150 ?_
    refine fgX6_2 hx hb hts hown hK hw 1 rfl kw205 dX8_count_153 ?_
    have hy := Option.some.inj h
    rw [← hQz, ← hy]
    exact xr_i (v := gI o_me_reader 2) hx hb hr rfl hlk hK hw dX8_count_156
  · skip
    have h := z_f h (fun e9 => by rw [e9] at c1; revert c1; decide)
    have h := z_f h (fun e9 => by rw [e9] at c1; revert c1; decide)
    have h := z_f h (fun e9 => by rw [e9] at c1; revert c1; decide)
    have h := z_f h (fun e9 => by rw [e9] at c1; revert c1; decide)
    have h := z_f h (fun e9 => by rw [e9] at c1; revert c1; decide)
    have h := z_f h (fun e9 => by rw [e9] at c1; revert c1; decide)
    have h := z_f h (fun e9 => by rw [e9] at c1; revert c1; decide)
    have h := z_f h (fun e9 => by rw [e9] at c1; revert c1; decide)
    have ec1 : p0 = (8 : Int32) := Int32.toInt_inj.mp (c1.trans (by decide))
    have h := z_t h ec1
    refine lv_fi (v := 8) ec1 ?_
    refine lv_tableIn (tgt := 157) hx hb dX8_count_1 (by decide) (by decide) rfl (by decide) ?_
    refine lv_aload_n hx hb dX8_count_157 rfl (lv_at hl 0 rfl) ?_
    refine fgX8_11 hx hb hts hown hK hw 0 rfl kw453 dX8_count_158 ?_
    refine lv_iconst (v := 1) hx hb dX8_count_161 (by decide) ?_
    refine faX8_11 hx hb hK hw 0 rfl rfl (by decide) dX8_count_162 ?_
    have hy := Option.some.inj h
    rw [← hQz, ← hy]
    exact xr_i (v := gA o_me 11 (1 : Int32).toNatClampNeg) hx hb hr rfl hlk hK hw dX8_count_163
  · skip
    have h := z_f h (fun e9 => by rw [e9] at c1; revert c1; decide)
    have h := z_f h (fun e9 => by rw [e9] at c1; revert c1; decide)
    have h := z_f h (fun e9 => by rw [e9] at c1; revert c1; decide)
    have h := z_f h (fun e9 => by rw [e9] at c1; revert c1; decide)
    have h := z_f h (fun e9 => by rw [e9] at c1; revert c1; decide)
    have h := z_f h (fun e9 => by rw [e9] at c1; revert c1; decide)
    have h := z_f h (fun e9 => by rw [e9] at c1; revert c1; decide)
    have h := z_f h (fun e9 => by rw [e9] at c1; revert c1; decide)
    have h := z_f h (fun e9 => by rw [e9] at c1; revert c1; decide)
    have ec1 : p0 = (9 : Int32) := Int32.toInt_inj.mp (c1.trans (by decide))
    have h := z_t h ec1
    refine lv_fi (v := 9) ec1 ?_
    refine lv_tableIn (tgt := 164) hx hb dX8_count_1 (by decide) (by decide) rfl (by decide) ?_
    refine lv_aload_n hx hb dX8_count_164 rfl (lv_at hl 0 rfl) ?_
    refine fgX8_11 hx hb hts hown hK hw 0 rfl kw453 dX8_count_165 ?_
    refine lv_iconst (v := 2) hx hb dX8_count_168 (by decide) ?_
    refine faX8_11 hx hb hK hw 0 rfl rfl (by decide) dX8_count_169 ?_
    have hy := Option.some.inj h
    rw [← hQz, ← hy]
    exact xr_i (v := gA o_me 11 (2 : Int32).toNatClampNeg) hx hb hr rfl hlk hK hw dX8_count_170
  · skip
    have h := z_f h (fun e9 => by rw [e9] at c1; revert c1; decide)
    have h := z_f h (fun e9 => by rw [e9] at c1; revert c1; decide)
    have h := z_f h (fun e9 => by rw [e9] at c1; revert c1; decide)
    have h := z_f h (fun e9 => by rw [e9] at c1; revert c1; decide)
    have h := z_f h (fun e9 => by rw [e9] at c1; revert c1; decide)
    have h := z_f h (fun e9 => by rw [e9] at c1; revert c1; decide)
    have h := z_f h (fun e9 => by rw [e9] at c1; revert c1; decide)
    have h := z_f h (fun e9 => by rw [e9] at c1; revert c1; decide)
    have h := z_f h (fun e9 => by rw [e9] at c1; revert c1; decide)
    have h := z_f h (fun e9 => by rw [e9] at c1; revert c1; decide)
    have ec1 : p0 = (10 : Int32) := Int32.toInt_inj.mp (c1.trans (by decide))
    have h := z_t h ec1
    refine lv_fi (v := 10) ec1 ?_
    refine lv_tableIn (tgt := 171) hx hb dX8_count_1 (by decide) (by decide) rfl (by decide) ?_
    refine lv_aload_n hx hb dX8_count_171 rfl (lv_at hl 0 rfl) ?_
    refine fgX8_11 hx hb hts hown hK hw 0 rfl kw453 dX8_count_172 ?_
    refine lv_iconst (v := 3) hx hb dX8_count_175 (by decide) ?_
    refine faX8_11 hx hb hK hw 0 rfl rfl (by decide) dX8_count_176 ?_
    have hy := Option.some.inj h
    rw [← hQz, ← hy]
    exact xr_i (v := gA o_me 11 (3 : Int32).toNatClampNeg) hx hb hr rfl hlk hK hw dX8_count_177
  · skip
    have h := z_f h (fun e9 => by rw [e9] at c1; revert c1; decide)
    have h := z_f h (fun e9 => by rw [e9] at c1; revert c1; decide)
    have h := z_f h (fun e9 => by rw [e9] at c1; revert c1; decide)
    have h := z_f h (fun e9 => by rw [e9] at c1; revert c1; decide)
    have h := z_f h (fun e9 => by rw [e9] at c1; revert c1; decide)
    have h := z_f h (fun e9 => by rw [e9] at c1; revert c1; decide)
    have h := z_f h (fun e9 => by rw [e9] at c1; revert c1; decide)
    have h := z_f h (fun e9 => by rw [e9] at c1; revert c1; decide)
    have h := z_f h (fun e9 => by rw [e9] at c1; revert c1; decide)
    have h := z_f h (fun e9 => by rw [e9] at c1; revert c1; decide)
    have h := z_f h (fun e9 => by rw [e9] at c1; revert c1; decide)
    have ec1 : p0 = (11 : Int32) := Int32.toInt_inj.mp (c1.trans (by decide))
    have h := z_t h ec1
    refine lv_fi (v := 11) ec1 ?_
    refine lv_tableIn (tgt := 178) hx hb dX8_count_1 (by decide) (by decide) rfl (by decide) ?_
    refine lv_aload_n hx hb dX8_count_178 rfl (lv_at hl 0 rfl) ?_
    refine fgX8_11 hx hb hts hown hK hw 0 rfl kw453 dX8_count_179 ?_
    refine lv_iconst (v := 5) hx hb dX8_count_182 (by decide) ?_
    refine faX8_11 hx hb hK hw 0 rfl rfl (by decide) dX8_count_183 ?_
    have hy := Option.some.inj h
    rw [← hQz, ← hy]
    exact xr_i (v := gA o_me 11 (5 : Int32).toNatClampNeg) hx hb hr rfl hlk hK hw dX8_count_184
  · skip
    have h := z_f h (fun e9 => by rw [e9] at c1; revert c1; decide)
    have h := z_f h (fun e9 => by rw [e9] at c1; revert c1; decide)
    have h := z_f h (fun e9 => by rw [e9] at c1; revert c1; decide)
    have h := z_f h (fun e9 => by rw [e9] at c1; revert c1; decide)
    have h := z_f h (fun e9 => by rw [e9] at c1; revert c1; decide)
    have h := z_f h (fun e9 => by rw [e9] at c1; revert c1; decide)
    have h := z_f h (fun e9 => by rw [e9] at c1; revert c1; decide)
    have h := z_f h (fun e9 => by rw [e9] at c1; revert c1; decide)
    have h := z_f h (fun e9 => by rw [e9] at c1; revert c1; decide)
    have h := z_f h (fun e9 => by rw [e9] at c1; revert c1; decide)
    have h := z_f h (fun e9 => by rw [e9] at c1; revert c1; decide)
    have h := z_f h (fun e9 => by rw [e9] at c1; revert c1; decide)
    have ec1 : p0 = (12 : Int32) := Int32.toInt_inj.mp (c1.trans (by decide))
    have h := z_t h ec1
    refine lv_fi (v := 12) ec1 ?_
    refine lv_tableIn (tgt := 185) hx hb dX8_count_1 (by decide) (by decide) rfl (by decide) ?_
    refine lv_aload_n hx hb dX8_count_185 rfl (lv_at hl 0 rfl) ?_
    refine fgX8_11 hx hb hts hown hK hw 0 rfl kw453 dX8_count_186 ?_
    refine lv_bipush (v := 6) hx hb dX8_count_189 (by decide) ?_
    refine faX8_11 hx hb hK hw 0 rfl rfl (by decide) dX8_count_191 ?_
    have hy := Option.some.inj h
    rw [← hQz, ← hy]
    exact xr_i (v := gA o_me 11 (6 : Int32).toNatClampNeg) hx hb hr rfl hlk hK hw dX8_count_192
  · skip
    have h := z_f h (fun e9 => by rw [e9] at c1; revert c1; decide)
    have h := z_f h (fun e9 => by rw [e9] at c1; revert c1; decide)
    have h := z_f h (fun e9 => by rw [e9] at c1; revert c1; decide)
    have h := z_f h (fun e9 => by rw [e9] at c1; revert c1; decide)
    have h := z_f h (fun e9 => by rw [e9] at c1; revert c1; decide)
    have h := z_f h (fun e9 => by rw [e9] at c1; revert c1; decide)
    have h := z_f h (fun e9 => by rw [e9] at c1; revert c1; decide)
    have h := z_f h (fun e9 => by rw [e9] at c1; revert c1; decide)
    have h := z_f h (fun e9 => by rw [e9] at c1; revert c1; decide)
    have h := z_f h (fun e9 => by rw [e9] at c1; revert c1; decide)
    have h := z_f h (fun e9 => by rw [e9] at c1; revert c1; decide)
    have h := z_f h (fun e9 => by rw [e9] at c1; revert c1; decide)
    have h := z_f h (fun e9 => by rw [e9] at c1; revert c1; decide)
    have ec1 : p0 = (13 : Int32) := Int32.toInt_inj.mp (c1.trans (by decide))
    have h := z_t h ec1
    refine lv_fi (v := 13) ec1 ?_
    refine lv_tableIn (tgt := 193) hx hb dX8_count_1 (by decide) (by decide) rfl (by decide) ?_
    refine lv_aload_n hx hb dX8_count_193 rfl (lv_at hl 0 rfl) ?_
    refine fgX8_2 hx hb hts hown hK hw 0 rfl kw444 dX8_count_194 ?_
    refine fgX2_10 hx hb hts hown hK hw 2 rfl kw325 dX8_count_197 ?_
    have hy := Option.some.inj h
    rw [← hQz, ← hy]
    exact xr_i (v := gI o_me_isles 10) hx hb hr rfl hlk hK hw dX8_count_200
  · skip
    have h := z_f h (fun e9 => by rw [e9] at c1; revert c1; decide)
    have h := z_f h (fun e9 => by rw [e9] at c1; revert c1; decide)
    have h := z_f h (fun e9 => by rw [e9] at c1; revert c1; decide)
    have h := z_f h (fun e9 => by rw [e9] at c1; revert c1; decide)
    have h := z_f h (fun e9 => by rw [e9] at c1; revert c1; decide)
    have h := z_f h (fun e9 => by rw [e9] at c1; revert c1; decide)
    have h := z_f h (fun e9 => by rw [e9] at c1; revert c1; decide)
    have h := z_f h (fun e9 => by rw [e9] at c1; revert c1; decide)
    have h := z_f h (fun e9 => by rw [e9] at c1; revert c1; decide)
    have h := z_f h (fun e9 => by rw [e9] at c1; revert c1; decide)
    have h := z_f h (fun e9 => by rw [e9] at c1; revert c1; decide)
    have h := z_f h (fun e9 => by rw [e9] at c1; revert c1; decide)
    have h := z_f h (fun e9 => by rw [e9] at c1; revert c1; decide)
    have h := z_f h (fun e9 => by rw [e9] at c1; revert c1; decide)
    have ec1 : p0 = (14 : Int32) := Int32.toInt_inj.mp (c1.trans (by decide))
    have h := z_t h ec1
    refine lv_fi (v := 14) ec1 ?_
    refine lv_tableIn (tgt := 201) hx hb dX8_count_1 (by decide) (by decide) rfl (by decide) ?_
    refine lv_aload_n hx hb dX8_count_201 rfl (lv_at hl 0 rfl) ?_
    refine fgX8_2 hx hb hts hown hK hw 0 rfl kw444 dX8_count_202 ?_
    refine lv_iconst (v := 0) hx hb dX8_count_205 (by decide) ?_
    obtain ⟨z4, ez4, h⟩ := z_bd h
    refine xj_i (xrV (As := [.int (0 : Int32)]) (rest := []) ⟨hx, hb, hml, hown, hts⟩ (m_X2_term l dC dI _ h_me_isles h_me_isles_now q_me_isles k_me_isles q_me_isles_now k_me_isles_now o_me_isles o_me_isles_now (0 : Int32) z4 ez4) kw623 kw620 kw621 kw622 kw115 hd_X2_term ⟨rfl, rfl⟩ rfl rfl ⟨rfl, rfl⟩ hX hK hw [2, 3] (by decide) rfl rfl rfl rfl rfl hl.1 rfl rfl dX8_count_206) hw hA [2, 3] (by decide) rfl rfl (fun H locs hw => ?_)
    have hw : Wd dC dI A s.heap [wX8 h_me h_me_reader h_me_machine h_me_isles h_me_court h_me_study h_me_paper h_me_paperCourt h_me_past h_me_pastAhead h_me_movingAhead q_me k_me o_me, wX6 h_me_reader h_me_reader_code q_me_reader k_me_reader o_me_reader, wX2 h_me_isles h_me_isles_now q_me_isles k_me_isles o_me_isles, wX4 h_me_isles_now q_me_isles_now k_me_isles_now o_me_isles_now, wX5 h_me_past q_me_past k_me_past o_me_past] H locs := hw
    have hy := Option.some.inj h
    rw [← hQz, ← hy]
    exact xr_i (v := z4) hx hb hr rfl hlk hK hw dX8_count_209
  · skip
    have h := z_f h (fun e9 => by rw [e9] at c1; revert c1; decide)
    have h := z_f h (fun e9 => by rw [e9] at c1; revert c1; decide)
    have h := z_f h (fun e9 => by rw [e9] at c1; revert c1; decide)
    have h := z_f h (fun e9 => by rw [e9] at c1; revert c1; decide)
    have h := z_f h (fun e9 => by rw [e9] at c1; revert c1; decide)
    have h := z_f h (fun e9 => by rw [e9] at c1; revert c1; decide)
    have h := z_f h (fun e9 => by rw [e9] at c1; revert c1; decide)
    have h := z_f h (fun e9 => by rw [e9] at c1; revert c1; decide)
    have h := z_f h (fun e9 => by rw [e9] at c1; revert c1; decide)
    have h := z_f h (fun e9 => by rw [e9] at c1; revert c1; decide)
    have h := z_f h (fun e9 => by rw [e9] at c1; revert c1; decide)
    have h := z_f h (fun e9 => by rw [e9] at c1; revert c1; decide)
    have h := z_f h (fun e9 => by rw [e9] at c1; revert c1; decide)
    have h := z_f h (fun e9 => by rw [e9] at c1; revert c1; decide)
    have h := z_f h (fun e9 => by rw [e9] at c1; revert c1; decide)
    have ec1 : p0 = (15 : Int32) := Int32.toInt_inj.mp (c1.trans (by decide))
    have h := z_t h ec1
    refine lv_fi (v := 15) ec1 ?_
    refine lv_tableIn (tgt := 210) hx hb dX8_count_1 (by decide) (by decide) rfl (by decide) ?_
    refine lv_aload_n hx hb dX8_count_210 rfl (lv_at hl 0 rfl) ?_
    refine fgX8_2 hx hb hts hown hK hw 0 rfl kw444 dX8_count_211 ?_
    refine lv_iconst (v := 1) hx hb dX8_count_214 (by decide) ?_
    obtain ⟨z5, ez5, h⟩ := z_bd h
    refine xj_i (xrV (As := [.int (1 : Int32)]) (rest := []) ⟨hx, hb, hml, hown, hts⟩ (m_X2_term l dC dI _ h_me_isles h_me_isles_now q_me_isles k_me_isles q_me_isles_now k_me_isles_now o_me_isles o_me_isles_now (1 : Int32) z5 ez5) kw623 kw620 kw621 kw622 kw115 hd_X2_term ⟨rfl, rfl⟩ rfl rfl ⟨rfl, rfl⟩ hX hK hw [2, 3] (by decide) rfl rfl rfl rfl rfl hl.1 rfl rfl dX8_count_215) hw hA [2, 3] (by decide) rfl rfl (fun H locs hw => ?_)
    have hw : Wd dC dI A s.heap [wX8 h_me h_me_reader h_me_machine h_me_isles h_me_court h_me_study h_me_paper h_me_paperCourt h_me_past h_me_pastAhead h_me_movingAhead q_me k_me o_me, wX6 h_me_reader h_me_reader_code q_me_reader k_me_reader o_me_reader, wX2 h_me_isles h_me_isles_now q_me_isles k_me_isles o_me_isles, wX4 h_me_isles_now q_me_isles_now k_me_isles_now o_me_isles_now, wX5 h_me_past q_me_past k_me_past o_me_past] H locs := hw
    have hy := Option.some.inj h
    rw [← hQz, ← hy]
    exact xr_i (v := z5) hx hb hr rfl hlk hK hw dX8_count_218
  · skip
    have h := z_f h (fun e9 => by rw [e9] at c1; revert c1; decide)
    have h := z_f h (fun e9 => by rw [e9] at c1; revert c1; decide)
    have h := z_f h (fun e9 => by rw [e9] at c1; revert c1; decide)
    have h := z_f h (fun e9 => by rw [e9] at c1; revert c1; decide)
    have h := z_f h (fun e9 => by rw [e9] at c1; revert c1; decide)
    have h := z_f h (fun e9 => by rw [e9] at c1; revert c1; decide)
    have h := z_f h (fun e9 => by rw [e9] at c1; revert c1; decide)
    have h := z_f h (fun e9 => by rw [e9] at c1; revert c1; decide)
    have h := z_f h (fun e9 => by rw [e9] at c1; revert c1; decide)
    have h := z_f h (fun e9 => by rw [e9] at c1; revert c1; decide)
    have h := z_f h (fun e9 => by rw [e9] at c1; revert c1; decide)
    have h := z_f h (fun e9 => by rw [e9] at c1; revert c1; decide)
    have h := z_f h (fun e9 => by rw [e9] at c1; revert c1; decide)
    have h := z_f h (fun e9 => by rw [e9] at c1; revert c1; decide)
    have h := z_f h (fun e9 => by rw [e9] at c1; revert c1; decide)
    have h := z_f h (fun e9 => by rw [e9] at c1; revert c1; decide)
    have ec1 : p0 = (16 : Int32) := Int32.toInt_inj.mp (c1.trans (by decide))
    have h := z_t h ec1
    refine lv_fi (v := 16) ec1 ?_
    refine lv_tableIn (tgt := 219) hx hb dX8_count_1 (by decide) (by decide) rfl (by decide) ?_
    refine lv_aload_n hx hb dX8_count_219 rfl (lv_at hl 0 rfl) ?_
    refine fgX8_2 hx hb hts hown hK hw 0 rfl kw444 dX8_count_220 ?_
    refine lv_iconst (v := 2) hx hb dX8_count_223 (by decide) ?_
    obtain ⟨z6, ez6, h⟩ := z_bd h
    refine xj_i (xrV (As := [.int (2 : Int32)]) (rest := []) ⟨hx, hb, hml, hown, hts⟩ (m_X2_term l dC dI _ h_me_isles h_me_isles_now q_me_isles k_me_isles q_me_isles_now k_me_isles_now o_me_isles o_me_isles_now (2 : Int32) z6 ez6) kw623 kw620 kw621 kw622 kw115 hd_X2_term ⟨rfl, rfl⟩ rfl rfl ⟨rfl, rfl⟩ hX hK hw [2, 3] (by decide) rfl rfl rfl rfl rfl hl.1 rfl rfl dX8_count_224) hw hA [2, 3] (by decide) rfl rfl (fun H locs hw => ?_)
    have hw : Wd dC dI A s.heap [wX8 h_me h_me_reader h_me_machine h_me_isles h_me_court h_me_study h_me_paper h_me_paperCourt h_me_past h_me_pastAhead h_me_movingAhead q_me k_me o_me, wX6 h_me_reader h_me_reader_code q_me_reader k_me_reader o_me_reader, wX2 h_me_isles h_me_isles_now q_me_isles k_me_isles o_me_isles, wX4 h_me_isles_now q_me_isles_now k_me_isles_now o_me_isles_now, wX5 h_me_past q_me_past k_me_past o_me_past] H locs := hw
    have hy := Option.some.inj h
    rw [← hQz, ← hy]
    exact xr_i (v := z6) hx hb hr rfl hlk hK hw dX8_count_227
  · skip
    have h := z_f h (fun e9 => by rw [e9] at c1; revert c1; decide)
    have h := z_f h (fun e9 => by rw [e9] at c1; revert c1; decide)
    have h := z_f h (fun e9 => by rw [e9] at c1; revert c1; decide)
    have h := z_f h (fun e9 => by rw [e9] at c1; revert c1; decide)
    have h := z_f h (fun e9 => by rw [e9] at c1; revert c1; decide)
    have h := z_f h (fun e9 => by rw [e9] at c1; revert c1; decide)
    have h := z_f h (fun e9 => by rw [e9] at c1; revert c1; decide)
    have h := z_f h (fun e9 => by rw [e9] at c1; revert c1; decide)
    have h := z_f h (fun e9 => by rw [e9] at c1; revert c1; decide)
    have h := z_f h (fun e9 => by rw [e9] at c1; revert c1; decide)
    have h := z_f h (fun e9 => by rw [e9] at c1; revert c1; decide)
    have h := z_f h (fun e9 => by rw [e9] at c1; revert c1; decide)
    have h := z_f h (fun e9 => by rw [e9] at c1; revert c1; decide)
    have h := z_f h (fun e9 => by rw [e9] at c1; revert c1; decide)
    have h := z_f h (fun e9 => by rw [e9] at c1; revert c1; decide)
    have h := z_f h (fun e9 => by rw [e9] at c1; revert c1; decide)
    have h := z_f h (fun e9 => by rw [e9] at c1; revert c1; decide)
    refine lv_tableOut (tgt := 228) hx hb dX8_count_1 c1 (by decide) ?_
    refine lv_iconst (v := (-1)) hx hb dX8_count_228 (by decide) ?_
    have hy := Option.some.inj h
    rw [← hQz, ← hy]
    exact xr_i (v := (-1 : Int32)) hx hb hr rfl hlk hK hw dX8_count_229

def f_X7_scoreWith (o_me : Ob) (p0 : Int32) (p1 : Int32) (p2 : Int32) : Option (Int32) :=
  zgd (zin ((p1 * (7 : Int32)) + p0) 28) <|
  zlt (gA o_me 5 ((p1 * (7 : Int32)) + p0).toNatClampNeg) fun x2 =>
  if x2 = (-1 : Int32) then
  (some (-1 : Int32))
  else
  (if ((p2 >>> (p0 &&& 31)) &&& (1 : Int32)) = (1 : Int32) then
  (some (-1 : Int32))
  else
  (zgd (zin (((p1 + (1 : Int32)) * (128 : Int32)) + (p2 ||| ((1 : Int32) <<< (p0 &&& 31)))) 640) <|
  some (x2 + (gA o_me 4 (((p1 + (1 : Int32)) * (128 : Int32)) + (p2 ||| ((1 : Int32) <<< (p0 &&& 31)))).toNatClampNeg))))
set_option maxHeartbeats 4000000 in
set_option maxRecDepth 100000 in
theorem m_X7_scoreWith (l : Launch) (dC : Nat → ClassId) (dI : Nat → Nat → Nat) (sz : Nat) (h_me : Nat) (h_me_court : Nat) (h_me_court_isles : Nat) (q_me : Nat → Nat) (k_me : Nat → ClassId) (o_me : Ob) (p0 : Int32) (p1 : Int32) (p2 : Int32) (y : Int32) (h : f_X7_scoreWith o_me p0 p1 p2 = some y) : CI l yX7_scoreWith cX7_scoreWith 5 (some .int) ({ frames := 0, cells := 0, slots := 0, locals := 0 } : Room) dC dI sz [.ref h_me, .int p0, .int p1, .int p2] [wX7 h_me h_me_court h_me_court_isles q_me k_me o_me] [tX7 k_me] y [wX7 h_me h_me_court h_me_court_isles q_me k_me o_me] := by
  refine CC_of (by decide) (Nat.le_of_ble_eq_true rfl) ?_
  intro p e s m below meth c A ls hx hb hml hr hlk hnm hown hts hX hK hP hD hA hl
  have hl : lv_has ls 5 [(0, .ref h_me), (1, .int p0), (2, .int p1), (3, .int p2)] := hl
  have hown : s.vm.findClass RX7 = some m.cls := hown
  have hw : Wd dC dI A s.heap [wX7 h_me h_me_court h_me_court_isles q_me k_me o_me] s.heap [] := ⟨hP, hD, va_S.rf⟩
  generalize hQz : (MQ below (QI dC dI (fun r (_ : Unit) => r = y) (fun _ => Jn [wX7 h_me h_me_court h_me_court_isles q_me k_me o_me]) (fun _ => Jt [tX7 k_me]) A) ([.ref h_me, .int p0, .int p1, .int p2] : List Value).toArray s 0 0 A) = Qz
  clear hP hD hnm
  unfold f_X7_scoreWith at h
  refine lv_aload_n hx hb dX7_scoreWith_0 rfl (lv_at hl 0 rfl) ?_
  refine fgX7_5 hx hb hts hown hK hw 0 rfl kw392 dX7_scoreWith_1 ?_
  refine lv_iload_n hx hb dX7_scoreWith_4 rfl (lv_at hl 2 rfl) ?_
  refine lv_bipush (v := 7) hx hb dX7_scoreWith_5 (by decide) ?_
  refine lv_imul hx hb dX7_scoreWith_7 ?_
  refine lv_iload_n hx hb dX7_scoreWith_8 rfl (lv_at hl 1 rfl) ?_
  refine lv_iadd hx hb dX7_scoreWith_9 ?_
  obtain ⟨g1, h⟩ := z_gd h
  refine faX7_5 hx hb hK hw 0 rfl rfl g1 dX7_scoreWith_10 ?_
  obtain ⟨x2, ex2, h⟩ := z_lt h
  refine lv_fi (v := x2) ex2.symm ?_
  refine lv_istore (lv' := [(4, .int x2), (0, .ref h_me), (1, .int p0), (2, .int p1), (3, .int p2)]) hx hb dX7_scoreWith_11 hl (by decide) rfl (fun ls hl => ?_)
  refine lv_iload hx hb dX7_scoreWith_13 (lv_at hl 0 rfl) ?_
  refine lv_iconst (v := (-1)) hx hb dX7_scoreWith_15 (by decide) ?_
  refine lv_icmp_eq (tgt := 28) hx hb dX7_scoreWith_16 (by decide) (fun c => ?_) (fun c => ?_)
  · have h := z_t h c
    refine lv_iconst (v := (-1)) hx hb dX7_scoreWith_28 (by decide) ?_
    have hy := Option.some.inj h
    rw [← hQz, ← hy]
    exact xr_i (v := (-1 : Int32)) hx hb hr rfl hlk hK hw dX7_scoreWith_29
  · have h := z_f h c
    refine lv_iload_n hx hb dX7_scoreWith_19 rfl (lv_at hl 4 rfl) ?_
    refine lv_iload_n hx hb dX7_scoreWith_20 rfl (lv_at hl 2 rfl) ?_
    refine lv_ishr hx hb dX7_scoreWith_21 ?_
    refine lv_iconst (v := 1) hx hb dX7_scoreWith_22 (by decide) ?_
    refine lv_iand hx hb dX7_scoreWith_23 ?_
    refine lv_iconst (v := 1) hx hb dX7_scoreWith_24 (by decide) ?_
    refine lv_icmp_ne (tgt := 30) hx hb dX7_scoreWith_25 (by decide) (fun c => ?_) (fun c => ?_)
    · have h := z_f h c
      refine lv_iload hx hb dX7_scoreWith_30 (lv_at hl 0 rfl) ?_
      refine lv_aload_n hx hb dX7_scoreWith_32 rfl (lv_at hl 1 rfl) ?_
      refine fgX7_4 hx hb hts hown hK hw 0 rfl kw391 dX7_scoreWith_33 ?_
      refine lv_iload_n hx hb dX7_scoreWith_36 rfl (lv_at hl 3 rfl) ?_
      refine lv_iconst (v := 1) hx hb dX7_scoreWith_37 (by decide) ?_
      refine lv_iadd hx hb dX7_scoreWith_38 ?_
      refine lv_sipush (v := 128) hx hb dX7_scoreWith_39 (by decide) ?_
      refine lv_imul hx hb dX7_scoreWith_42 ?_
      refine lv_iload_n hx hb dX7_scoreWith_43 rfl (lv_at hl 4 rfl) ?_
      refine lv_iconst (v := 1) hx hb dX7_scoreWith_44 (by decide) ?_
      refine lv_iload_n hx hb dX7_scoreWith_45 rfl (lv_at hl 2 rfl) ?_
      refine lv_ishl hx hb dX7_scoreWith_46 ?_
      refine lv_ior hx hb dX7_scoreWith_47 ?_
      refine lv_iadd hx hb dX7_scoreWith_48 ?_
      obtain ⟨g3, h⟩ := z_gd h
      refine faX7_4 hx hb hK hw 0 rfl rfl g3 dX7_scoreWith_49 ?_
      refine lv_iadd hx hb dX7_scoreWith_50 ?_
      have hy := Option.some.inj h
      rw [← hQz, ← hy]
      exact xr_i (v := x2 + (gA o_me 4 (((p1 + (1 : Int32)) * (128 : Int32)) + (p2 ||| ((1 : Int32) <<< (p0 &&& 31)))).toNatClampNeg)) hx hb hr rfl hlk hK hw dX7_scoreWith_51
    · have h := z_t h c
      refine lv_iconst (v := (-1)) hx hb dX7_scoreWith_28 (by decide) ?_
      have hy := Option.some.inj h
      rw [← hQz, ← hy]
      exact xr_i (v := (-1 : Int32)) hx hb hr rfl hlk hK hw dX7_scoreWith_29

def lb_X7_firstCrowned_2 (o_me : Ob) (o_me_court_isles : Ob)  (rec_2_0 : Int32 × Int32 × Int32 → Option (Int32)) (v1 : Int32) (v2 : Int32) (v3 : Int32) : Option (Int32) :=
  if (gI o_me_court_isles 7) ≤ v3 then
  (some (7 : Int32))
  else
  ((f_X7_scoreWith o_me v3 v1 v2).bind fun z1 =>
  zgd (zin ((v1 * (128 : Int32)) + v2) 640) <|
  if z1 = (gA o_me 4 ((v1 * (128 : Int32)) + v2).toNatClampNeg) then
  (some v3)
  else
  (zlt (v3 + (1 : Int32)) fun x3 =>
  rec_2_0 (v1, v2, x3)))
def lp_X7_firstCrowned_2 (o_me : Ob) (o_me_court_isles : Ob)  : Nat → (Int32 × Int32 × Int32) → Option (Int32) := zit (fun rec a => lb_X7_firstCrowned_2 o_me o_me_court_isles  rec a.1 a.2.1 a.2.2)
def f_X7_firstCrowned (o_me : Ob) (o_me_court_isles : Ob) (p0 : Int32) (p1 : Int32) : Option (Int32) :=
  lp_X7_firstCrowned_2 o_me o_me_court_isles  zfu (p0, p1, (0 : Int32))
set_option maxHeartbeats 4000000 in
set_option maxRecDepth 100000 in
theorem m_X7_firstCrowned (l : Launch) (dC : Nat → ClassId) (dI : Nat → Nat → Nat) (sz : Nat) (h_me : Nat) (h_me_court : Nat) (h_me_court_isles : Nat) (h_me_court_isles_now : Nat) (q_me : Nat → Nat) (k_me : Nat → ClassId) (q_me_court_isles : Nat → Nat) (k_me_court_isles : Nat → ClassId) (o_me : Ob) (o_me_court_isles : Ob) (p0 : Int32) (p1 : Int32) (y : Int32) (h : f_X7_firstCrowned o_me o_me_court_isles p0 p1 = some y) : CI l yX7_firstCrowned cX7_firstCrowned 4 (some .int) ({ frames := 1, cells := 0, slots := 0, locals := 24 } : Room) dC dI sz [.ref h_me, .int p0, .int p1] [wX7 h_me h_me_court h_me_court_isles q_me k_me o_me, wX2 h_me_court_isles h_me_court_isles_now q_me_court_isles k_me_court_isles o_me_court_isles] [tX7 k_me, tX2 k_me_court_isles] y [wX7 h_me h_me_court h_me_court_isles q_me k_me o_me, wX2 h_me_court_isles h_me_court_isles_now q_me_court_isles k_me_court_isles o_me_court_isles] := by
  refine CC_of (by decide) (Nat.le_of_ble_eq_true rfl) ?_
  intro p e s m below meth c A ls hx hb hml hr hlk hnm hown hts hX hK hP hD hA hl
  have hl : lv_has ls 4 [(0, .ref h_me), (1, .int p0), (2, .int p1)] := hl
  have hown : s.vm.findClass RX7 = some m.cls := hown
  have hw : Wd dC dI A s.heap [wX7 h_me h_me_court h_me_court_isles q_me k_me o_me, wX2 h_me_court_isles h_me_court_isles_now q_me_court_isles k_me_court_isles o_me_court_isles] s.heap [] := ⟨hP, hD, va_S.rf⟩
  generalize hQz : (MQ below (QI dC dI (fun r (_ : Unit) => r = y) (fun _ => Jn [wX7 h_me h_me_court h_me_court_isles q_me k_me o_me, wX2 h_me_court_isles h_me_court_isles_now q_me_court_isles k_me_court_isles o_me_court_isles]) (fun _ => Jt [tX7 k_me, tX2 k_me_court_isles]) A) ([.ref h_me, .int p0, .int p1] : List Value).toArray s 0 0 A) = Qz
  clear hP hD hnm
  have lp_2_0 : ∀ (N : Nat), ∀ (v1 : Int32) (v2 : Int32) (v3 : Int32) (H : Heap) (locs : List Loc) (ls : Array Slot), lp_X7_firstCrowned_2 o_me o_me_court_isles  N (v1, v2, v3) = some y → Wd dC dI A s.heap [wX7 h_me h_me_court h_me_court_isles q_me k_me o_me, wX2 h_me_court_isles h_me_court_isles_now q_me_court_isles k_me_court_isles o_me_court_isles] H locs → lv_has ls 4 [(0, .ref h_me), (1, .int v1), (2, .int v2), (3, .int v3)] → W p l e ({ frames := 1, cells := 0, slots := 0, locals := 24 } : Room) s m ([.ref h_me, .int p0, .int p1] : List Value).toArray below meth c H locs 0 0 Qz (F0 m 2 ls []) := by
    intro N
    induction N with
    | zero =>
      intro v1 v2 v3 H locs ls h hw hl
      exact absurd (show (none : Option (Int32)) = some y from h) (by simp)
    | succ N ih =>
      intro v1 v2 v3 H locs ls h hw hl
      have h : lb_X7_firstCrowned_2 o_me o_me_court_isles  (lp_X7_firstCrowned_2 o_me o_me_court_isles  N) v1 v2 v3 = some y := h
      unfold lb_X7_firstCrowned_2 at h
      refine lv_iload_n hx hb dX7_firstCrowned_2 rfl (lv_at hl 3 rfl) ?_
      refine lv_aload_n hx hb dX7_firstCrowned_3 rfl (lv_at hl 0 rfl) ?_
      refine fgX7_1 hx hb hts hown hK hw 0 rfl kw387 dX7_firstCrowned_4 ?_
      refine fgX2_7 hx hb hts hown hK hw 1 rfl kw316 dX7_firstCrowned_7 ?_
      refine lv_icmp_ge (tgt := 43) hx hb dX7_firstCrowned_10 (by decide) (fun c => ?_) (fun c => ?_)
      · have h := z_t h c
        refine lv_bipush (v := 7) hx hb dX7_firstCrowned_43 (by decide) ?_
        have hy := Option.some.inj h
        rw [← hQz, ← hy]
        exact xr_i (v := (7 : Int32)) hx hb hr rfl hlk hK hw dX7_firstCrowned_45
      · have h := z_f h c
        refine lv_aload_n hx hb dX7_firstCrowned_13 rfl (lv_at hl 0 rfl) ?_
        refine lv_iload_n hx hb dX7_firstCrowned_14 rfl (lv_at hl 3 rfl) ?_
        refine lv_iload_n hx hb dX7_firstCrowned_15 rfl (lv_at hl 1 rfl) ?_
        refine lv_iload_n hx hb dX7_firstCrowned_16 rfl (lv_at hl 2 rfl) ?_
        obtain ⟨z1, ez1, h⟩ := z_bd h
        refine xj_i (xrV (As := [.int v3, .int v1, .int v2]) (rest := []) ⟨hx, hb, hml, hown, hts⟩ (m_X7_scoreWith l dC dI _ h_me h_me_court h_me_court_isles q_me k_me o_me v3 v1 v2 z1 ez1) kw1053 kw1050 kw1052 kw35 kw118 hd_X7_scoreWith ⟨rfl, rfl⟩ rfl rfl ⟨rfl, rfl⟩ hX hK hw [0] (by decide) rfl rfl rfl rfl rfl hl.1 rfl rfl dX7_firstCrowned_17) hw hA [0] (by decide) rfl rfl (fun H locs hw => ?_)
        have hw : Wd dC dI A s.heap [wX7 h_me h_me_court h_me_court_isles q_me k_me o_me, wX2 h_me_court_isles h_me_court_isles_now q_me_court_isles k_me_court_isles o_me_court_isles] H locs := hw
        refine lv_aload_n hx hb dX7_firstCrowned_20 rfl (lv_at hl 0 rfl) ?_
        refine fgX7_4 hx hb hts hown hK hw 0 rfl kw391 dX7_firstCrowned_21 ?_
        refine lv_iload_n hx hb dX7_firstCrowned_24 rfl (lv_at hl 1 rfl) ?_
        refine lv_sipush (v := 128) hx hb dX7_firstCrowned_25 (by decide) ?_
        refine lv_imul hx hb dX7_firstCrowned_28 ?_
        refine lv_iload_n hx hb dX7_firstCrowned_29 rfl (lv_at hl 2 rfl) ?_
        refine lv_iadd hx hb dX7_firstCrowned_30 ?_
        obtain ⟨g2, h⟩ := z_gd h
        refine faX7_4 hx hb hK hw 0 rfl rfl g2 dX7_firstCrowned_31 ?_
        refine lv_icmp_ne (tgt := 37) hx hb dX7_firstCrowned_32 (by decide) (fun c => ?_) (fun c => ?_)
        · have h := z_f h c
          obtain ⟨x3, ex3, h⟩ := z_lt h
          refine lv_iinc (v := x3) (lv' := [(3, .int x3), (0, .ref h_me), (1, .int v1), (2, .int v2)]) hx hb dX7_firstCrowned_37 hl (k := 3) rfl ((congrArg (v3 + ·) (show Int32.ofInt 1 = (1 : Int32) from by decide)).trans ex3.symm) (by decide) rfl (fun ls hl => ?_)
          refine lv_goto (tgt := 2) hx hb dX7_firstCrowned_40 (by decide) ?_
          exact ih v1 v2 x3 _ _ _ h hw (lv_sub hl [1, 2, 3, 0] rfl)
        · have h := z_t h c
          refine lv_iload_n hx hb dX7_firstCrowned_35 rfl (lv_at hl 3 rfl) ?_
          have hy := Option.some.inj h
          rw [← hQz, ← hy]
          exact xr_i (v := v3) hx hb hr rfl hlk hK hw dX7_firstCrowned_36
  unfold f_X7_firstCrowned at h
  refine lv_iconst (v := 0) hx hb dX7_firstCrowned_0 (by decide) ?_
  refine lv_istore_n (lv' := [(3, .int (0 : Int32)), (0, .ref h_me), (1, .int p0), (2, .int p1)]) hx hb dX7_firstCrowned_1 rfl hl (by decide) rfl (fun ls hl => ?_)
  exact lp_2_0  zfu p0 p1 (0 : Int32) _ _ _ h hw (lv_sub hl [1, 2, 3, 0] rfl)

def lb_X7_bestFrom_18 (o_me : Ob) (o_me_court_isles : Ob)  (rec_18_0 : Int32 × Int32 × Int32 × Int32 → Option (Int32)) (v1 : Int32) (v2 : Int32) (v3 : Int32) (v4 : Int32) : Option (Int32) :=
  if (gI o_me_court_isles 7) ≤ v4 then
  (some v3)
  else
  ((f_X7_scoreWith o_me v4 v1 v2).bind fun z3 =>
  zlt (if v3 < z3 then z3 else v3) fun x4 =>
  zlt (v4 + (1 : Int32)) fun x5 =>
  rec_18_0 (v1, v2, x4, x5))
def lp_X7_bestFrom_18 (o_me : Ob) (o_me_court_isles : Ob)  : Nat → (Int32 × Int32 × Int32 × Int32) → Option (Int32) := zit (fun rec a => lb_X7_bestFrom_18 o_me o_me_court_isles  rec a.1 a.2.1 a.2.2.1 a.2.2.2)
def f_X7_bestFrom (o_me : Ob) (o_me_court_isles : Ob) (p0 : Int32) (p1 : Int32) : Option (Int32) :=
  zgd (zin (((p0 + (1 : Int32)) * (128 : Int32)) + p1) 640) <|
  zlt (gA o_me 4 (((p0 + (1 : Int32)) * (128 : Int32)) + p1).toNatClampNeg) fun x2 =>
  lp_X7_bestFrom_18 o_me o_me_court_isles  zfu (p0, p1, x2, (0 : Int32))
set_option maxHeartbeats 4000000 in
set_option maxRecDepth 100000 in
theorem m_X7_bestFrom (l : Launch) (dC : Nat → ClassId) (dI : Nat → Nat → Nat) (sz : Nat) (h_me : Nat) (h_me_court : Nat) (h_me_court_isles : Nat) (h_me_court_isles_now : Nat) (q_me : Nat → Nat) (k_me : Nat → ClassId) (q_me_court_isles : Nat → Nat) (k_me_court_isles : Nat → ClassId) (o_me : Ob) (o_me_court_isles : Ob) (p0 : Int32) (p1 : Int32) (y : Int32) (h : f_X7_bestFrom o_me o_me_court_isles p0 p1 = some y) : CI l yX7_bestFrom cX7_bestFrom 5 (some .int) ({ frames := 1, cells := 0, slots := 0, locals := 24 } : Room) dC dI sz [.ref h_me, .int p0, .int p1] [wX7 h_me h_me_court h_me_court_isles q_me k_me o_me, wX2 h_me_court_isles h_me_court_isles_now q_me_court_isles k_me_court_isles o_me_court_isles] [tX7 k_me, tX2 k_me_court_isles] y [wX7 h_me h_me_court h_me_court_isles q_me k_me o_me, wX2 h_me_court_isles h_me_court_isles_now q_me_court_isles k_me_court_isles o_me_court_isles] := by
  refine CC_of (by decide) (Nat.le_of_ble_eq_true rfl) ?_
  intro p e s m below meth c A ls hx hb hml hr hlk hnm hown hts hX hK hP hD hA hl
  have hl : lv_has ls 5 [(0, .ref h_me), (1, .int p0), (2, .int p1)] := hl
  have hown : s.vm.findClass RX7 = some m.cls := hown
  have hw : Wd dC dI A s.heap [wX7 h_me h_me_court h_me_court_isles q_me k_me o_me, wX2 h_me_court_isles h_me_court_isles_now q_me_court_isles k_me_court_isles o_me_court_isles] s.heap [] := ⟨hP, hD, va_S.rf⟩
  generalize hQz : (MQ below (QI dC dI (fun r (_ : Unit) => r = y) (fun _ => Jn [wX7 h_me h_me_court h_me_court_isles q_me k_me o_me, wX2 h_me_court_isles h_me_court_isles_now q_me_court_isles k_me_court_isles o_me_court_isles]) (fun _ => Jt [tX7 k_me, tX2 k_me_court_isles]) A) ([.ref h_me, .int p0, .int p1] : List Value).toArray s 0 0 A) = Qz
  clear hP hD hnm
  have lp_18_0 : ∀ (N : Nat), ∀ (v1 : Int32) (v2 : Int32) (v3 : Int32) (v4 : Int32) (H : Heap) (locs : List Loc) (ls : Array Slot), lp_X7_bestFrom_18 o_me o_me_court_isles  N (v1, v2, v3, v4) = some y → Wd dC dI A s.heap [wX7 h_me h_me_court h_me_court_isles q_me k_me o_me, wX2 h_me_court_isles h_me_court_isles_now q_me_court_isles k_me_court_isles o_me_court_isles] H locs → lv_has ls 5 [(0, .ref h_me), (1, .int v1), (2, .int v2), (3, .int v3), (4, .int v4)] → W p l e ({ frames := 1, cells := 0, slots := 0, locals := 24 } : Room) s m ([.ref h_me, .int p0, .int p1] : List Value).toArray below meth c H locs 0 0 Qz (F0 m 18 ls []) := by
    intro N
    induction N with
    | zero =>
      intro v1 v2 v3 v4 H locs ls h hw hl
      exact absurd (show (none : Option (Int32)) = some y from h) (by simp)
    | succ N ih =>
      intro v1 v2 v3 v4 H locs ls h hw hl
      have h : lb_X7_bestFrom_18 o_me o_me_court_isles  (lp_X7_bestFrom_18 o_me o_me_court_isles  N) v1 v2 v3 v4 = some y := h
      unfold lb_X7_bestFrom_18 at h
      refine lv_iload hx hb dX7_bestFrom_18 (lv_at hl 4 rfl) ?_
      refine lv_aload_n hx hb dX7_bestFrom_20 rfl (lv_at hl 0 rfl) ?_
      refine fgX7_1 hx hb hts hown hK hw 0 rfl kw387 dX7_bestFrom_21 ?_
      refine fgX2_7 hx hb hts hown hK hw 1 rfl kw316 dX7_bestFrom_24 ?_
      refine lv_icmp_ge (tgt := 49) hx hb dX7_bestFrom_27 (by decide) (fun c => ?_) (fun c => ?_)
      · have h := z_t h c
        refine lv_iload_n hx hb dX7_bestFrom_49 rfl (lv_at hl 3 rfl) ?_
        have hy := Option.some.inj h
        rw [← hQz, ← hy]
        exact xr_i (v := v3) hx hb hr rfl hlk hK hw dX7_bestFrom_50
      · have h := z_f h c
        refine lv_iload_n hx hb dX7_bestFrom_30 rfl (lv_at hl 3 rfl) ?_
        refine lv_aload_n hx hb dX7_bestFrom_31 rfl (lv_at hl 0 rfl) ?_
        refine lv_iload hx hb dX7_bestFrom_32 (lv_at hl 4 rfl) ?_
        refine lv_iload_n hx hb dX7_bestFrom_34 rfl (lv_at hl 1 rfl) ?_
        refine lv_iload_n hx hb dX7_bestFrom_35 rfl (lv_at hl 2 rfl) ?_
        obtain ⟨z3, ez3, h⟩ := z_bd h
        refine xj_i (xrV (As := [.int v4, .int v1, .int v2]) (rest := [.int v3]) ⟨hx, hb, hml, hown, hts⟩ (m_X7_scoreWith l dC dI _ h_me h_me_court h_me_court_isles q_me k_me o_me v4 v1 v2 z3 ez3) kw1053 kw1050 kw1052 kw35 kw118 hd_X7_scoreWith ⟨rfl, rfl⟩ rfl rfl ⟨rfl, rfl⟩ hX hK hw [0] (by decide) rfl rfl rfl rfl rfl hl.1 rfl rfl dX7_bestFrom_36) hw hA [0] (by decide) rfl rfl (fun H locs hw => ?_)
        have hw : Wd dC dI A s.heap [wX7 h_me h_me_court h_me_court_isles q_me k_me o_me, wX2 h_me_court_isles h_me_court_isles_now q_me_court_isles k_me_court_isles o_me_court_isles] H locs := hw
        refine va_mmax hx hb (hml.trans hl.1.symm) hown (hts _ kw1008) (hts _ kw149) (hts _ kw113) (hts _ kw150) (Nat.le_of_ble_eq_true rfl) (Nat.le_of_ble_eq_true rfl) (Nat.le_of_ble_eq_true rfl) (Nat.le_of_ble_eq_true rfl) dX7_bestFrom_39 ?_
        obtain ⟨x4, ex4, h⟩ := z_lt h
        refine lv_fi (v := x4) ex4.symm ?_
        refine lv_istore_n (lv' := [(3, .int x4), (0, .ref h_me), (1, .int v1), (2, .int v2), (4, .int v4)]) hx hb dX7_bestFrom_42 rfl hl (by decide) rfl (fun ls hl => ?_)
        obtain ⟨x5, ex5, h⟩ := z_lt h
        refine lv_iinc (v := x5) (lv' := [(4, .int x5), (3, .int x4), (0, .ref h_me), (1, .int v1), (2, .int v2)]) hx hb dX7_bestFrom_43 hl (k := 4) rfl ((congrArg (v4 + ·) (show Int32.ofInt 1 = (1 : Int32) from by decide)).trans ex5.symm) (by decide) rfl (fun ls hl => ?_)
        refine lv_goto (tgt := 18) hx hb dX7_bestFrom_46 (by decide) ?_
        exact ih v1 v2 x4 x5 _ _ _ h hw (lv_sub hl [2, 3, 4, 1, 0] rfl)
  unfold f_X7_bestFrom at h
  refine lv_aload_n hx hb dX7_bestFrom_0 rfl (lv_at hl 0 rfl) ?_
  refine fgX7_4 hx hb hts hown hK hw 0 rfl kw391 dX7_bestFrom_1 ?_
  refine lv_iload_n hx hb dX7_bestFrom_4 rfl (lv_at hl 1 rfl) ?_
  refine lv_iconst (v := 1) hx hb dX7_bestFrom_5 (by decide) ?_
  refine lv_iadd hx hb dX7_bestFrom_6 ?_
  refine lv_sipush (v := 128) hx hb dX7_bestFrom_7 (by decide) ?_
  refine lv_imul hx hb dX7_bestFrom_10 ?_
  refine lv_iload_n hx hb dX7_bestFrom_11 rfl (lv_at hl 2 rfl) ?_
  refine lv_iadd hx hb dX7_bestFrom_12 ?_
  obtain ⟨g1, h⟩ := z_gd h
  refine faX7_4 hx hb hK hw 0 rfl rfl g1 dX7_bestFrom_13 ?_
  obtain ⟨x2, ex2, h⟩ := z_lt h
  refine lv_fi (v := x2) ex2.symm ?_
  refine lv_istore_n (lv' := [(3, .int x2), (0, .ref h_me), (1, .int p0), (2, .int p1)]) hx hb dX7_bestFrom_14 rfl hl (by decide) rfl (fun ls hl => ?_)
  refine lv_iconst (v := 0) hx hb dX7_bestFrom_15 (by decide) ?_
  refine lv_istore (lv' := [(4, .int (0 : Int32)), (3, .int x2), (0, .ref h_me), (1, .int p0), (2, .int p1)]) hx hb dX7_bestFrom_16 hl (by decide) rfl (fun ls hl => ?_)
  exact lp_18_0  zfu p0 p1 x2 (0 : Int32) _ _ _ h hw (lv_sub hl [2, 3, 4, 1, 0] rfl)

def bk_X7_crownAll_133 (o_me_court : Ob) (o_me_court_isles : Ob) (o_me_court_isles_now : Ob) (o_pool : List CR) (rec_92_2 : Int32 × Int32 × Ob × Ob → Option (Int32 × Ob × Ob)) (v3 : Int32) (s0 : Int32) (s1 : Int32) (o_me : Ob) (o_me_court_machine : Ob) : Option (Int32 × Ob × Ob) :=
  zlt (s1 ||| s0) fun x7 =>
  zlt (v3 + (1 : Int32)) fun x8 =>
  rec_92_2 (x7, x8, o_me, o_me_court_machine)
def lb_X7_crownAll_92 (o_me_court : Ob) (o_me_court_isles : Ob) (o_me_court_isles_now : Ob) (o_pool : List CR)  (rec_92_2 : Int32 × Int32 × Ob × Ob → Option (Int32 × Ob × Ob)) (v2 : Int32) (v3 : Int32) (o_me : Ob) (o_me_court_machine : Ob) : Option (Int32 × Ob × Ob) :=
  if (4 : Int32) ≤ v3 then
  (some (gA o_me 4 (0 : Int32).toNatClampNeg, o_me, o_me_court_machine))
  else
  ((f_X7_firstCrowned o_me o_me_court_isles v3 v2).bind fun z2 =>
  zgd (zin v3 7) <|
  zlt (tA o_me 2 v3.toNatClampNeg z2) fun o4 =>
  zgd (zin v3 7) <|
  if (gA o4 2 v3.toNatClampNeg) = (7 : Int32) then
  (bk_X7_crownAll_133 o_me_court o_me_court_isles o_me_court_isles_now o_pool rec_92_2 v3 (0 : Int32) v2 o4 o_me_court_machine)
  else
  (zgd (zin v3 7) <|
  bk_X7_crownAll_133 o_me_court o_me_court_isles o_me_court_isles_now o_pool rec_92_2 v3 ((1 : Int32) <<< ((gA o4 2 v3.toNatClampNeg) &&& 31)) v2 o4 o_me_court_machine))
def lp_X7_crownAll_92 (o_me_court : Ob) (o_me_court_isles : Ob) (o_me_court_isles_now : Ob) (o_pool : List CR)  : Nat → (Int32 × Int32 × Ob × Ob) → Option (Int32 × Ob × Ob) := zit (fun rec a => lb_X7_crownAll_92 o_me_court o_me_court_isles o_me_court_isles_now o_pool  rec a.1 a.2.1 a.2.2.1 a.2.2.2)
def bk_X7_crownAll_76 (o_me_court : Ob) (o_me_court_isles : Ob) (o_me_court_isles_now : Ob) (o_pool : List CR) (rec_30_1 : Int32 × Int32 × Ob × Ob → Option (Int32 × Ob × Ob)) (rec_36_4 : Int32 × Int32 × Int32 × Ob × Ob → Option (Int32 × Ob × Ob)) (v1 : Int32) (v2 : Int32) (v3 : Int32) (o_me : Ob) (o_me_court_machine : Ob) : Option (Int32 × Ob × Ob) :=
  zlt (v3 + (1 : Int32)) fun x11 =>
  rec_36_4 (v1, v2, x11, o_me, o_me_court_machine)
def bk_X7_crownAll_75 (o_me_court : Ob) (o_me_court_isles : Ob) (o_me_court_isles_now : Ob) (o_pool : List CR) (rec_30_1 : Int32 × Int32 × Ob × Ob → Option (Int32 × Ob × Ob)) (rec_36_4 : Int32 × Int32 × Int32 × Ob × Ob → Option (Int32 × Ob × Ob)) (v1 : Int32) (v2 : Int32) (v3 : Int32) (s0 : Int32) (s1 : Int32) (o_me : Ob) (o_me_court_machine : Ob) : Option (Int32 × Ob × Ob) :=
  zgd (zin s1 640) <|
  zlt (tA o_me 4 s1.toNatClampNeg s0) fun o14 =>
  bk_X7_crownAll_76 o_me_court o_me_court_isles o_me_court_isles_now o_pool rec_30_1 rec_36_4 v1 v2 v3 o14 o_me_court_machine
def lb_X7_crownAll_36 (o_me_court : Ob) (o_me_court_isles : Ob) (o_me_court_isles_now : Ob) (o_pool : List CR) (rec_30_1 : Int32 × Int32 × Ob × Ob → Option (Int32 × Ob × Ob)) (rec_36_4 : Int32 × Int32 × Int32 × Ob × Ob → Option (Int32 × Ob × Ob)) (v1 : Int32) (v2 : Int32) (v3 : Int32) (o_me : Ob) (o_me_court_machine : Ob) : Option (Int32 × Ob × Ob) :=
  if v1 ≤ v3 then
  (zlt (v2 + (-1 : Int32)) fun x9 =>
  rec_30_1 (v1, x9, o_me, o_me_court_machine))
  else
  ((f_J6_bitCount_0f7a4 v3).bind fun z10 =>
  if v2 < z10 then
  (bk_X7_crownAll_76 o_me_court o_me_court_isles o_me_court_isles_now o_pool rec_30_1 rec_36_4 v1 v2 v3 o_me o_me_court_machine)
  else
  (if v2 = (4 : Int32) then
  (bk_X7_crownAll_75 o_me_court o_me_court_isles o_me_court_isles_now o_pool rec_30_1 rec_36_4 v1 v2 v3 (0 : Int32) ((v2 * (128 : Int32)) + v3) o_me o_me_court_machine)
  else
  ((f_X7_bestFrom o_me o_me_court_isles v2 v3).bind fun z12 =>
  bk_X7_crownAll_75 o_me_court o_me_court_isles o_me_court_isles_now o_pool rec_30_1 rec_36_4 v1 v2 v3 z12 ((v2 * (128 : Int32)) + v3) o_me o_me_court_machine)))
def lp_X7_crownAll_36 (o_me_court : Ob) (o_me_court_isles : Ob) (o_me_court_isles_now : Ob) (o_pool : List CR) (rec_30_1 : Int32 × Int32 × Ob × Ob → Option (Int32 × Ob × Ob)) : Nat → (Int32 × Int32 × Int32 × Ob × Ob) → Option (Int32 × Ob × Ob) := zit (fun rec a => lb_X7_crownAll_36 o_me_court o_me_court_isles o_me_court_isles_now o_pool rec_30_1 rec a.1 a.2.1 a.2.2.1 a.2.2.2.1 a.2.2.2.2)
def lb_X7_crownAll_30 (o_me_court : Ob) (o_me_court_isles : Ob) (o_me_court_isles_now : Ob) (o_pool : List CR)  (rec_30_1 : Int32 × Int32 × Ob × Ob → Option (Int32 × Ob × Ob)) (v1 : Int32) (v2 : Int32) (o_me : Ob) (o_me_court_machine : Ob) : Option (Int32 × Ob × Ob) :=
  if v2 < (0 : Int32) then
  (lp_X7_crownAll_92 o_me_court o_me_court_isles o_me_court_isles_now o_pool  zfu ((0 : Int32), (0 : Int32), o_me, o_me_court_machine))
  else
  (lp_X7_crownAll_36 o_me_court o_me_court_isles o_me_court_isles_now o_pool rec_30_1 zfu (v1, v2, (0 : Int32), o_me, o_me_court_machine))
def lp_X7_crownAll_30 (o_me_court : Ob) (o_me_court_isles : Ob) (o_me_court_isles_now : Ob) (o_pool : List CR)  : Nat → (Int32 × Int32 × Ob × Ob) → Option (Int32 × Ob × Ob) := zit (fun rec a => lb_X7_crownAll_30 o_me_court o_me_court_isles o_me_court_isles_now o_pool  rec a.1 a.2.1 a.2.2.1 a.2.2.2)
def lb_X7_crownAll_2 (o_me_court : Ob) (o_me_court_isles : Ob) (o_me_court_isles_now : Ob) (o_pool : List CR)  (rec_2_0 : Int32 × Ob × Ob → Option (Int32 × Ob × Ob)) (v1 : Int32) (o_me : Ob) (o_me_court_machine : Ob) : Option (Int32 × Ob × Ob) :=
  if (4 : Int32) ≤ v1 then
  (zlt ((1 : Int32) <<< ((gI o_me_court_isles 7) &&& 31)) fun x1 =>
  lp_X7_crownAll_30 o_me_court o_me_court_isles o_me_court_isles_now o_pool  zfu (x1, (4 : Int32), o_me, o_me_court_machine))
  else
  ((f_X7_setScores o_me o_me_court o_me_court_isles o_me_court_isles_now o_me_court_machine o_pool v1).bind fun z15 =>
  zlt (v1 + (1 : Int32)) fun x16 =>
  rec_2_0 (x16, z15.1, z15.2))
def lp_X7_crownAll_2 (o_me_court : Ob) (o_me_court_isles : Ob) (o_me_court_isles_now : Ob) (o_pool : List CR)  : Nat → (Int32 × Ob × Ob) → Option (Int32 × Ob × Ob) := zit (fun rec a => lb_X7_crownAll_2 o_me_court o_me_court_isles o_me_court_isles_now o_pool  rec a.1 a.2.1 a.2.2)
def f_X7_crownAll (o_me : Ob) (o_me_court : Ob) (o_me_court_isles : Ob) (o_me_court_isles_now : Ob) (o_me_court_machine : Ob) (o_pool : List CR) : Option (Int32 × Ob × Ob) :=
  lp_X7_crownAll_2 o_me_court o_me_court_isles o_me_court_isles_now o_pool  zfu ((0 : Int32), o_me, o_me_court_machine)
set_option maxHeartbeats 4000000 in
set_option maxRecDepth 100000 in
theorem m_X7_crownAll (l : Launch) (dC : Nat → ClassId) (dI : Nat → Nat → Nat) (sz : Nat) (h_me : Nat) (h_me_court : Nat) (h_me_court_isles : Nat) (h_me_court_machine : Nat) (h_me_court_isles_now : Nat) (q_me : Nat → Nat) (k_me : Nat → ClassId) (q_me_court : Nat → Nat) (k_me_court : Nat → ClassId) (q_me_court_isles : Nat → Nat) (k_me_court_isles : Nat → ClassId) (q_me_court_isles_now : Nat → Nat) (k_me_court_isles_now : Nat → ClassId) (q_me_court_machine : Nat → Nat) (k_me_court_machine : Nat → ClassId) (o_me : Ob) (o_me_court : Ob) (o_me_court_isles : Ob) (o_me_court_isles_now : Ob) (o_me_court_machine : Ob) (o_pool : List CR) (y : Int32 × Ob × Ob) (h : f_X7_crownAll o_me o_me_court o_me_court_isles o_me_court_isles_now o_me_court_machine o_pool = some y) : CI l yX7_crownAll cX7_crownAll 4 (some .int) ({ frames := 5, cells := 0, slots := 0, locals := 132 } : Room) dC dI sz [.ref h_me] [wX7 h_me h_me_court h_me_court_isles q_me k_me o_me, wX1 h_me_court h_me_court_isles h_me_court_machine q_me_court k_me_court o_me_court, wX2 h_me_court_isles h_me_court_isles_now q_me_court_isles k_me_court_isles o_me_court_isles, wX4 h_me_court_isles_now q_me_court_isles_now k_me_court_isles_now o_me_court_isles_now, wX3 h_me_court_machine q_me_court_machine k_me_court_machine o_me_court_machine, wPL o_pool] [tX7 k_me, tX1 k_me_court, tX2 k_me_court_isles, tX4 k_me_court_isles_now, tX3 k_me_court_machine, tPL o_pool] y.1 [wX7 h_me h_me_court h_me_court_isles q_me k_me y.2.1, wX1 h_me_court h_me_court_isles h_me_court_machine q_me_court k_me_court o_me_court, wX2 h_me_court_isles h_me_court_isles_now q_me_court_isles k_me_court_isles o_me_court_isles, wX4 h_me_court_isles_now q_me_court_isles_now k_me_court_isles_now o_me_court_isles_now, wX3 h_me_court_machine q_me_court_machine k_me_court_machine y.2.2, wPL o_pool] := by
  refine CC_of (by decide) (Nat.le_of_ble_eq_true rfl) ?_
  intro p e s m below meth c A ls hx hb hml hr hlk hnm hown hts hX hK hP hD hA hl
  have hl : lv_has ls 4 [(0, .ref h_me)] := hl
  have hown : s.vm.findClass RX7 = some m.cls := hown
  have hw : Wd dC dI A s.heap [wX7 h_me h_me_court h_me_court_isles q_me k_me o_me, wX1 h_me_court h_me_court_isles h_me_court_machine q_me_court k_me_court o_me_court, wX2 h_me_court_isles h_me_court_isles_now q_me_court_isles k_me_court_isles o_me_court_isles, wX4 h_me_court_isles_now q_me_court_isles_now k_me_court_isles_now o_me_court_isles_now, wX3 h_me_court_machine q_me_court_machine k_me_court_machine o_me_court_machine, wPL o_pool] s.heap [] := ⟨hP, hD, va_S.rf⟩
  generalize hQz : (MQ below (QI dC dI (fun r (_ : Unit) => r = y.1) (fun _ => Jn [wX7 h_me h_me_court h_me_court_isles q_me k_me y.2.1, wX1 h_me_court h_me_court_isles h_me_court_machine q_me_court k_me_court o_me_court, wX2 h_me_court_isles h_me_court_isles_now q_me_court_isles k_me_court_isles o_me_court_isles, wX4 h_me_court_isles_now q_me_court_isles_now k_me_court_isles_now o_me_court_isles_now, wX3 h_me_court_machine q_me_court_machine k_me_court_machine y.2.2, wPL o_pool]) (fun _ => Jt [tX7 k_me, tX1 k_me_court, tX2 k_me_court_isles, tX4 k_me_court_isles_now, tX3 k_me_court_machine, tPL o_pool]) A) ([.ref h_me] : List Value).toArray s 0 0 A) = Qz
  clear hP hD hnm
  have bk_133_3 : ∀ (rec_92_2 : Int32 × Int32 × Ob × Ob → Option (Int32 × Ob × Ob)) (hrec_92_2 : ∀ (v2 : Int32) (v3 : Int32) (o_me : Ob) (o_me_court_machine : Ob) (H : Heap) (locs : List Loc) (ls : Array Slot), rec_92_2 (v2, v3, o_me, o_me_court_machine) = some y → Wd dC dI A s.heap [wX7 h_me h_me_court h_me_court_isles q_me k_me o_me, wX1 h_me_court h_me_court_isles h_me_court_machine q_me_court k_me_court o_me_court, wX2 h_me_court_isles h_me_court_isles_now q_me_court_isles k_me_court_isles o_me_court_isles, wX4 h_me_court_isles_now q_me_court_isles_now k_me_court_isles_now o_me_court_isles_now, wX3 h_me_court_machine q_me_court_machine k_me_court_machine o_me_court_machine, wPL o_pool] H locs → lv_has ls 4 [(0, .ref h_me), (2, .int v2), (3, .int v3)] → W p l e ({ frames := 5, cells := 0, slots := 0, locals := 132 } : Room) s m ([.ref h_me] : List Value).toArray below meth c H locs 0 0 Qz (F0 m 92 ls [])), ∀ (v3 : Int32) (s0 : Int32) (s1 : Int32) (o_me : Ob) (o_me_court_machine : Ob) (H : Heap) (locs : List Loc) (ls : Array Slot), bk_X7_crownAll_133 o_me_court o_me_court_isles o_me_court_isles_now o_pool rec_92_2 v3 s0 s1 o_me o_me_court_machine = some y → Wd dC dI A s.heap [wX7 h_me h_me_court h_me_court_isles q_me k_me o_me, wX1 h_me_court h_me_court_isles h_me_court_machine q_me_court k_me_court o_me_court, wX2 h_me_court_isles h_me_court_isles_now q_me_court_isles k_me_court_isles o_me_court_isles, wX4 h_me_court_isles_now q_me_court_isles_now k_me_court_isles_now o_me_court_isles_now, wX3 h_me_court_machine q_me_court_machine k_me_court_machine o_me_court_machine, wPL o_pool] H locs → lv_has ls 4 [(0, .ref h_me), (3, .int v3)] → W p l e ({ frames := 5, cells := 0, slots := 0, locals := 132 } : Room) s m ([.ref h_me] : List Value).toArray below meth c H locs 0 0 Qz (F0 m 133 ls [.int s0, .int s1]) := by
    intro rec_92_2 hrec_92_2
    intro v3 s0 s1 o_me o_me_court_machine H locs ls h hw hl
    unfold bk_X7_crownAll_133 at h
    refine lv_ior hx hb dX7_crownAll_133 ?_
    obtain ⟨x7, ex7, h⟩ := z_lt h
    refine lv_fi (v := x7) ex7.symm ?_
    refine lv_istore_n (lv' := [(2, .int x7), (0, .ref h_me), (3, .int v3)]) hx hb dX7_crownAll_134 rfl hl (by decide) rfl (fun ls hl => ?_)
    obtain ⟨x8, ex8, h⟩ := z_lt h
    refine lv_iinc (v := x8) (lv' := [(3, .int x8), (2, .int x7), (0, .ref h_me)]) hx hb dX7_crownAll_135 hl (k := 2) rfl ((congrArg (v3 + ·) (show Int32.ofInt 1 = (1 : Int32) from by decide)).trans ex8.symm) (by decide) rfl (fun ls hl => ?_)
    refine lv_goto (tgt := 92) hx hb dX7_crownAll_138 (by decide) ?_
    exact hrec_92_2 x7 x8 o_me o_me_court_machine _ _ _ h hw (lv_sub hl [2, 1, 0] rfl)
  have lp_92_2 : ∀ (N : Nat), ∀ (v2 : Int32) (v3 : Int32) (o_me : Ob) (o_me_court_machine : Ob) (H : Heap) (locs : List Loc) (ls : Array Slot), lp_X7_crownAll_92 o_me_court o_me_court_isles o_me_court_isles_now o_pool  N (v2, v3, o_me, o_me_court_machine) = some y → Wd dC dI A s.heap [wX7 h_me h_me_court h_me_court_isles q_me k_me o_me, wX1 h_me_court h_me_court_isles h_me_court_machine q_me_court k_me_court o_me_court, wX2 h_me_court_isles h_me_court_isles_now q_me_court_isles k_me_court_isles o_me_court_isles, wX4 h_me_court_isles_now q_me_court_isles_now k_me_court_isles_now o_me_court_isles_now, wX3 h_me_court_machine q_me_court_machine k_me_court_machine o_me_court_machine, wPL o_pool] H locs → lv_has ls 4 [(0, .ref h_me), (2, .int v2), (3, .int v3)] → W p l e ({ frames := 5, cells := 0, slots := 0, locals := 132 } : Room) s m ([.ref h_me] : List Value).toArray below meth c H locs 0 0 Qz (F0 m 92 ls []) := by
    intro N
    induction N with
    | zero =>
      intro v2 v3 o_me o_me_court_machine H locs ls h hw hl
      exact absurd (show (none : Option (Int32 × Ob × Ob)) = some y from h) (by simp)
    | succ N ih =>
      intro v2 v3 o_me o_me_court_machine H locs ls h hw hl
      have h : lb_X7_crownAll_92 o_me_court o_me_court_isles o_me_court_isles_now o_pool  (lp_X7_crownAll_92 o_me_court o_me_court_isles o_me_court_isles_now o_pool  N) v2 v3 o_me o_me_court_machine = some y := h
      unfold lb_X7_crownAll_92 at h
      refine lv_iload_n hx hb dX7_crownAll_92 rfl (lv_at hl 2 rfl) ?_
      refine lv_iconst (v := 4) hx hb dX7_crownAll_93 (by decide) ?_
      refine lv_icmp_ge (tgt := 141) hx hb dX7_crownAll_94 (by decide) (fun c => ?_) (fun c => ?_)
      · have h := z_t h c
        refine lv_aload_n hx hb dX7_crownAll_141 rfl (lv_at hl 0 rfl) ?_
        refine fgX7_4 hx hb hts hown hK hw 0 rfl kw391 dX7_crownAll_142 ?_
        refine lv_iconst (v := 0) hx hb dX7_crownAll_145 (by decide) ?_
        refine faX7_4 hx hb hK hw 0 rfl rfl (by decide) dX7_crownAll_146 ?_
        have hy := Option.some.inj h
        rw [← hQz, ← hy]
        exact xr_i (v := gA o_me 4 (0 : Int32).toNatClampNeg) hx hb hr rfl hlk hK hw dX7_crownAll_147
      · have h := z_f h c
        refine lv_aload_n hx hb dX7_crownAll_97 rfl (lv_at hl 0 rfl) ?_
        refine fgX7_2 hx hb hts hown hK hw 0 rfl kw388 dX7_crownAll_98 ?_
        refine lv_iload_n hx hb dX7_crownAll_101 rfl (lv_at hl 2 rfl) ?_
        refine lv_aload_n hx hb dX7_crownAll_102 rfl (lv_at hl 0 rfl) ?_
        refine lv_iload_n hx hb dX7_crownAll_103 rfl (lv_at hl 2 rfl) ?_
        refine lv_iload_n hx hb dX7_crownAll_104 rfl (lv_at hl 1 rfl) ?_
        obtain ⟨z2, ez2, h⟩ := z_bd h
        refine xj_i (xrV (As := [.int v3, .int v2]) (rest := [.int v3, .ref (q_me 2)]) ⟨hx, hb, hml, hown, hts⟩ (m_X7_firstCrowned l dC dI _ h_me h_me_court h_me_court_isles h_me_court_isles_now q_me k_me q_me_court_isles k_me_court_isles o_me o_me_court_isles v3 v2 z2 ez2) kw1057 kw1054 kw1056 kw36 kw118 hd_X7_firstCrowned ⟨rfl, rfl⟩ rfl rfl ⟨rfl, rfl⟩ hX hK hw [0, 2] (by decide) rfl rfl rfl rfl rfl hl.1 rfl rfl dX7_crownAll_105) hw hA [0, 2] (by decide) rfl rfl (fun H locs hw => ?_)
        have hw : Wd dC dI A s.heap [wX7 h_me h_me_court h_me_court_isles q_me k_me o_me, wX1 h_me_court h_me_court_isles h_me_court_machine q_me_court k_me_court o_me_court, wX2 h_me_court_isles h_me_court_isles_now q_me_court_isles k_me_court_isles o_me_court_isles, wX4 h_me_court_isles_now q_me_court_isles_now k_me_court_isles_now o_me_court_isles_now, wX3 h_me_court_machine q_me_court_machine k_me_court_machine o_me_court_machine, wPL o_pool] H locs := hw
        obtain ⟨g3, h⟩ := z_gd h
        refine fbX7_2 hx hb hK hw 0 rfl rfl g3 dX7_crownAll_108 (fun H locs hw => ?_)
        obtain ⟨o4, eo4, h⟩ := z_lt h
        have hw : Wd dC dI A s.heap [wX7 h_me h_me_court h_me_court_isles q_me k_me o4, wX1 h_me_court h_me_court_isles h_me_court_machine q_me_court k_me_court o_me_court, wX2 h_me_court_isles h_me_court_isles_now q_me_court_isles k_me_court_isles o_me_court_isles, wX4 h_me_court_isles_now q_me_court_isles_now k_me_court_isles_now o_me_court_isles_now, wX3 h_me_court_machine q_me_court_machine k_me_court_machine o_me_court_machine, wPL o_pool] H locs := by rw [eo4]; exact hw
        refine lv_iload_n hx hb dX7_crownAll_109 rfl (lv_at hl 1 rfl) ?_
        refine lv_aload_n hx hb dX7_crownAll_110 rfl (lv_at hl 0 rfl) ?_
        refine fgX7_2 hx hb hts hown hK hw 0 rfl kw388 dX7_crownAll_111 ?_
        refine lv_iload_n hx hb dX7_crownAll_114 rfl (lv_at hl 2 rfl) ?_
        obtain ⟨g5, h⟩ := z_gd h
        refine faX7_2 hx hb hK hw 0 rfl rfl g5 dX7_crownAll_115 ?_
        refine lv_bipush (v := 7) hx hb dX7_crownAll_116 (by decide) ?_
        refine lv_icmp_ne (tgt := 125) hx hb dX7_crownAll_118 (by decide) (fun c => ?_) (fun c => ?_)
        · have h := z_f h c
          refine lv_iconst (v := 1) hx hb dX7_crownAll_125 (by decide) ?_
          refine lv_aload_n hx hb dX7_crownAll_126 rfl (lv_at hl 0 rfl) ?_
          refine fgX7_2 hx hb hts hown hK hw 0 rfl kw388 dX7_crownAll_127 ?_
          refine lv_iload_n hx hb dX7_crownAll_130 rfl (lv_at hl 2 rfl) ?_
          obtain ⟨g6, h⟩ := z_gd h
          refine faX7_2 hx hb hK hw 0 rfl rfl g6 dX7_crownAll_131 ?_
          refine lv_ishl hx hb dX7_crownAll_132 ?_
          exact bk_133_3 (lp_X7_crownAll_92 o_me_court o_me_court_isles o_me_court_isles_now o_pool  N) ih v3 ((1 : Int32) <<< ((gA o4 2 v3.toNatClampNeg) &&& 31)) v2 o4 o_me_court_machine _ _ _ h hw (lv_sub hl [0, 2] rfl)
        · have h := z_t h c
          refine lv_iconst (v := 0) hx hb dX7_crownAll_121 (by decide) ?_
          refine lv_goto (tgt := 133) hx hb dX7_crownAll_122 (by decide) ?_
          exact bk_133_3 (lp_X7_crownAll_92 o_me_court o_me_court_isles o_me_court_isles_now o_pool  N) ih v3 (0 : Int32) v2 o4 o_me_court_machine _ _ _ h hw (lv_sub hl [0, 2] rfl)
  have bk_76_5 : ∀ (rec_30_1 : Int32 × Int32 × Ob × Ob → Option (Int32 × Ob × Ob)) (hrec_30_1 : ∀ (v1 : Int32) (v2 : Int32) (o_me : Ob) (o_me_court_machine : Ob) (H : Heap) (locs : List Loc) (ls : Array Slot), rec_30_1 (v1, v2, o_me, o_me_court_machine) = some y → Wd dC dI A s.heap [wX7 h_me h_me_court h_me_court_isles q_me k_me o_me, wX1 h_me_court h_me_court_isles h_me_court_machine q_me_court k_me_court o_me_court, wX2 h_me_court_isles h_me_court_isles_now q_me_court_isles k_me_court_isles o_me_court_isles, wX4 h_me_court_isles_now q_me_court_isles_now k_me_court_isles_now o_me_court_isles_now, wX3 h_me_court_machine q_me_court_machine k_me_court_machine o_me_court_machine, wPL o_pool] H locs → lv_has ls 4 [(0, .ref h_me), (1, .int v1), (2, .int v2)] → W p l e ({ frames := 5, cells := 0, slots := 0, locals := 132 } : Room) s m ([.ref h_me] : List Value).toArray below meth c H locs 0 0 Qz (F0 m 30 ls [])) (rec_36_4 : Int32 × Int32 × Int32 × Ob × Ob → Option (Int32 × Ob × Ob)) (hrec_36_4 : ∀ (v1 : Int32) (v2 : Int32) (v3 : Int32) (o_me : Ob) (o_me_court_machine : Ob) (H : Heap) (locs : List Loc) (ls : Array Slot), rec_36_4 (v1, v2, v3, o_me, o_me_court_machine) = some y → Wd dC dI A s.heap [wX7 h_me h_me_court h_me_court_isles q_me k_me o_me, wX1 h_me_court h_me_court_isles h_me_court_machine q_me_court k_me_court o_me_court, wX2 h_me_court_isles h_me_court_isles_now q_me_court_isles k_me_court_isles o_me_court_isles, wX4 h_me_court_isles_now q_me_court_isles_now k_me_court_isles_now o_me_court_isles_now, wX3 h_me_court_machine q_me_court_machine k_me_court_machine o_me_court_machine, wPL o_pool] H locs → lv_has ls 4 [(0, .ref h_me), (1, .int v1), (2, .int v2), (3, .int v3)] → W p l e ({ frames := 5, cells := 0, slots := 0, locals := 132 } : Room) s m ([.ref h_me] : List Value).toArray below meth c H locs 0 0 Qz (F0 m 36 ls [])), ∀ (v1 : Int32) (v2 : Int32) (v3 : Int32) (o_me : Ob) (o_me_court_machine : Ob) (H : Heap) (locs : List Loc) (ls : Array Slot), bk_X7_crownAll_76 o_me_court o_me_court_isles o_me_court_isles_now o_pool rec_30_1 rec_36_4 v1 v2 v3 o_me o_me_court_machine = some y → Wd dC dI A s.heap [wX7 h_me h_me_court h_me_court_isles q_me k_me o_me, wX1 h_me_court h_me_court_isles h_me_court_machine q_me_court k_me_court o_me_court, wX2 h_me_court_isles h_me_court_isles_now q_me_court_isles k_me_court_isles o_me_court_isles, wX4 h_me_court_isles_now q_me_court_isles_now k_me_court_isles_now o_me_court_isles_now, wX3 h_me_court_machine q_me_court_machine k_me_court_machine o_me_court_machine, wPL o_pool] H locs → lv_has ls 4 [(0, .ref h_me), (1, .int v1), (2, .int v2), (3, .int v3)] → W p l e ({ frames := 5, cells := 0, slots := 0, locals := 132 } : Room) s m ([.ref h_me] : List Value).toArray below meth c H locs 0 0 Qz (F0 m 76 ls []) := by
    intro rec_30_1 hrec_30_1 rec_36_4 hrec_36_4
    intro v1 v2 v3 o_me o_me_court_machine H locs ls h hw hl
    unfold bk_X7_crownAll_76 at h
    obtain ⟨x11, ex11, h⟩ := z_lt h
    refine lv_iinc (v := x11) (lv' := [(3, .int x11), (0, .ref h_me), (1, .int v1), (2, .int v2)]) hx hb dX7_crownAll_76 hl (k := 3) rfl ((congrArg (v3 + ·) (show Int32.ofInt 1 = (1 : Int32) from by decide)).trans ex11.symm) (by decide) rfl (fun ls hl => ?_)
    refine lv_goto (tgt := 36) hx hb dX7_crownAll_79 (by decide) ?_
    exact hrec_36_4 v1 v2 x11 o_me o_me_court_machine _ _ _ h hw (lv_sub hl [1, 2, 3, 0] rfl)
  have bk_75_6 : ∀ (rec_30_1 : Int32 × Int32 × Ob × Ob → Option (Int32 × Ob × Ob)) (hrec_30_1 : ∀ (v1 : Int32) (v2 : Int32) (o_me : Ob) (o_me_court_machine : Ob) (H : Heap) (locs : List Loc) (ls : Array Slot), rec_30_1 (v1, v2, o_me, o_me_court_machine) = some y → Wd dC dI A s.heap [wX7 h_me h_me_court h_me_court_isles q_me k_me o_me, wX1 h_me_court h_me_court_isles h_me_court_machine q_me_court k_me_court o_me_court, wX2 h_me_court_isles h_me_court_isles_now q_me_court_isles k_me_court_isles o_me_court_isles, wX4 h_me_court_isles_now q_me_court_isles_now k_me_court_isles_now o_me_court_isles_now, wX3 h_me_court_machine q_me_court_machine k_me_court_machine o_me_court_machine, wPL o_pool] H locs → lv_has ls 4 [(0, .ref h_me), (1, .int v1), (2, .int v2)] → W p l e ({ frames := 5, cells := 0, slots := 0, locals := 132 } : Room) s m ([.ref h_me] : List Value).toArray below meth c H locs 0 0 Qz (F0 m 30 ls [])) (rec_36_4 : Int32 × Int32 × Int32 × Ob × Ob → Option (Int32 × Ob × Ob)) (hrec_36_4 : ∀ (v1 : Int32) (v2 : Int32) (v3 : Int32) (o_me : Ob) (o_me_court_machine : Ob) (H : Heap) (locs : List Loc) (ls : Array Slot), rec_36_4 (v1, v2, v3, o_me, o_me_court_machine) = some y → Wd dC dI A s.heap [wX7 h_me h_me_court h_me_court_isles q_me k_me o_me, wX1 h_me_court h_me_court_isles h_me_court_machine q_me_court k_me_court o_me_court, wX2 h_me_court_isles h_me_court_isles_now q_me_court_isles k_me_court_isles o_me_court_isles, wX4 h_me_court_isles_now q_me_court_isles_now k_me_court_isles_now o_me_court_isles_now, wX3 h_me_court_machine q_me_court_machine k_me_court_machine o_me_court_machine, wPL o_pool] H locs → lv_has ls 4 [(0, .ref h_me), (1, .int v1), (2, .int v2), (3, .int v3)] → W p l e ({ frames := 5, cells := 0, slots := 0, locals := 132 } : Room) s m ([.ref h_me] : List Value).toArray below meth c H locs 0 0 Qz (F0 m 36 ls [])), ∀ (v1 : Int32) (v2 : Int32) (v3 : Int32) (s0 : Int32) (s1 : Int32) (o_me : Ob) (o_me_court_machine : Ob) (H : Heap) (locs : List Loc) (ls : Array Slot), bk_X7_crownAll_75 o_me_court o_me_court_isles o_me_court_isles_now o_pool rec_30_1 rec_36_4 v1 v2 v3 s0 s1 o_me o_me_court_machine = some y → Wd dC dI A s.heap [wX7 h_me h_me_court h_me_court_isles q_me k_me o_me, wX1 h_me_court h_me_court_isles h_me_court_machine q_me_court k_me_court o_me_court, wX2 h_me_court_isles h_me_court_isles_now q_me_court_isles k_me_court_isles o_me_court_isles, wX4 h_me_court_isles_now q_me_court_isles_now k_me_court_isles_now o_me_court_isles_now, wX3 h_me_court_machine q_me_court_machine k_me_court_machine o_me_court_machine, wPL o_pool] H locs → lv_has ls 4 [(0, .ref h_me), (1, .int v1), (2, .int v2), (3, .int v3)] → W p l e ({ frames := 5, cells := 0, slots := 0, locals := 132 } : Room) s m ([.ref h_me] : List Value).toArray below meth c H locs 0 0 Qz (F0 m 75 ls [.int s0, .int s1, .ref (q_me 4)]) := by
    intro rec_30_1 hrec_30_1 rec_36_4 hrec_36_4
    intro v1 v2 v3 s0 s1 o_me o_me_court_machine H locs ls h hw hl
    unfold bk_X7_crownAll_75 at h
    obtain ⟨g13, h⟩ := z_gd h
    refine fbX7_4 hx hb hK hw 0 rfl rfl g13 dX7_crownAll_75 (fun H locs hw => ?_)
    obtain ⟨o14, eo14, h⟩ := z_lt h
    have hw : Wd dC dI A s.heap [wX7 h_me h_me_court h_me_court_isles q_me k_me o14, wX1 h_me_court h_me_court_isles h_me_court_machine q_me_court k_me_court o_me_court, wX2 h_me_court_isles h_me_court_isles_now q_me_court_isles k_me_court_isles o_me_court_isles, wX4 h_me_court_isles_now q_me_court_isles_now k_me_court_isles_now o_me_court_isles_now, wX3 h_me_court_machine q_me_court_machine k_me_court_machine o_me_court_machine, wPL o_pool] H locs := by rw [eo14]; exact hw
    exact bk_76_5 rec_30_1 hrec_30_1 rec_36_4 hrec_36_4 v1 v2 v3 o14 o_me_court_machine _ _ _ h hw (lv_sub hl [0, 1, 2, 3] rfl)
  have lp_36_4 : ∀ (rec_30_1 : Int32 × Int32 × Ob × Ob → Option (Int32 × Ob × Ob)) (hrec_30_1 : ∀ (v1 : Int32) (v2 : Int32) (o_me : Ob) (o_me_court_machine : Ob) (H : Heap) (locs : List Loc) (ls : Array Slot), rec_30_1 (v1, v2, o_me, o_me_court_machine) = some y → Wd dC dI A s.heap [wX7 h_me h_me_court h_me_court_isles q_me k_me o_me, wX1 h_me_court h_me_court_isles h_me_court_machine q_me_court k_me_court o_me_court, wX2 h_me_court_isles h_me_court_isles_now q_me_court_isles k_me_court_isles o_me_court_isles, wX4 h_me_court_isles_now q_me_court_isles_now k_me_court_isles_now o_me_court_isles_now, wX3 h_me_court_machine q_me_court_machine k_me_court_machine o_me_court_machine, wPL o_pool] H locs → lv_has ls 4 [(0, .ref h_me), (1, .int v1), (2, .int v2)] → W p l e ({ frames := 5, cells := 0, slots := 0, locals := 132 } : Room) s m ([.ref h_me] : List Value).toArray below meth c H locs 0 0 Qz (F0 m 30 ls [])) (N : Nat), ∀ (v1 : Int32) (v2 : Int32) (v3 : Int32) (o_me : Ob) (o_me_court_machine : Ob) (H : Heap) (locs : List Loc) (ls : Array Slot), lp_X7_crownAll_36 o_me_court o_me_court_isles o_me_court_isles_now o_pool rec_30_1 N (v1, v2, v3, o_me, o_me_court_machine) = some y → Wd dC dI A s.heap [wX7 h_me h_me_court h_me_court_isles q_me k_me o_me, wX1 h_me_court h_me_court_isles h_me_court_machine q_me_court k_me_court o_me_court, wX2 h_me_court_isles h_me_court_isles_now q_me_court_isles k_me_court_isles o_me_court_isles, wX4 h_me_court_isles_now q_me_court_isles_now k_me_court_isles_now o_me_court_isles_now, wX3 h_me_court_machine q_me_court_machine k_me_court_machine o_me_court_machine, wPL o_pool] H locs → lv_has ls 4 [(0, .ref h_me), (1, .int v1), (2, .int v2), (3, .int v3)] → W p l e ({ frames := 5, cells := 0, slots := 0, locals := 132 } : Room) s m ([.ref h_me] : List Value).toArray below meth c H locs 0 0 Qz (F0 m 36 ls []) := by
    intro rec_30_1 hrec_30_1
    intro N
    induction N with
    | zero =>
      intro v1 v2 v3 o_me o_me_court_machine H locs ls h hw hl
      exact absurd (show (none : Option (Int32 × Ob × Ob)) = some y from h) (by simp)
    | succ N ih =>
      intro v1 v2 v3 o_me o_me_court_machine H locs ls h hw hl
      have h : lb_X7_crownAll_36 o_me_court o_me_court_isles o_me_court_isles_now o_pool rec_30_1 (lp_X7_crownAll_36 o_me_court o_me_court_isles o_me_court_isles_now o_pool rec_30_1 N) v1 v2 v3 o_me o_me_court_machine = some y := h
      unfold lb_X7_crownAll_36 at h
      refine lv_iload_n hx hb dX7_crownAll_36 rfl (lv_at hl 3 rfl) ?_
      refine lv_iload_n hx hb dX7_crownAll_37 rfl (lv_at hl 1 rfl) ?_
      refine lv_icmp_ge (tgt := 82) hx hb dX7_crownAll_38 (by decide) (fun c => ?_) (fun c => ?_)
      · have h := z_t h c
        obtain ⟨x9, ex9, h⟩ := z_lt h
        refine lv_iinc (v := x9) (lv' := [(2, .int x9), (0, .ref h_me), (1, .int v1), (3, .int v3)]) hx hb dX7_crownAll_82 hl (k := 2) rfl ((congrArg (v2 + ·) (show Int32.ofInt (-1) = (-1 : Int32) from by decide)).trans ex9.symm) (by decide) rfl (fun ls hl => ?_)
        refine lv_goto (tgt := 30) hx hb dX7_crownAll_85 (by decide) ?_
        exact hrec_30_1 v1 x9 o_me o_me_court_machine _ _ _ h hw (lv_sub hl [1, 2, 0] rfl)
      · have h := z_f h c
        refine lv_iload_n hx hb dX7_crownAll_41 rfl (lv_at hl 3 rfl) ?_
        obtain ⟨z10, ez10, h⟩ := z_bd h
        refine xj_i (xrS (As := [.int v3]) (rest := []) ⟨hx, hb, hml, hown, hts⟩ (m_J6_bitCount_0f7a4 l dC dI _  v3 z10 ez10) kw842 kw962 kw841 kw126 hd_J6_bitCount_0f7a4 ⟨rfl, rfl⟩ rfl rfl ⟨rfl, rfl⟩ hX hK hw [] (by decide) rfl rfl hl.1 rfl rfl dX7_crownAll_42) hw hA [] (by decide) rfl rfl (fun H locs hw => ?_)
        refine lv_iload_n hx hb dX7_crownAll_45 rfl (lv_at hl 2 rfl) ?_
        refine lv_icmp_gt (tgt := 76) hx hb dX7_crownAll_46 (by decide) (fun c => ?_) (fun c => ?_)
        · have h := z_t h c
          exact bk_76_5 rec_30_1 hrec_30_1 (lp_X7_crownAll_36 o_me_court o_me_court_isles o_me_court_isles_now o_pool rec_30_1 N) ih v1 v2 v3 o_me o_me_court_machine _ _ _ h hw (lv_sub hl [0, 1, 2, 3] rfl)
        · have h := z_f h c
          refine lv_aload_n hx hb dX7_crownAll_49 rfl (lv_at hl 0 rfl) ?_
          refine fgX7_4 hx hb hts hown hK hw 0 rfl kw391 dX7_crownAll_50 ?_
          refine lv_iload_n hx hb dX7_crownAll_53 rfl (lv_at hl 2 rfl) ?_
          refine lv_sipush (v := 128) hx hb dX7_crownAll_54 (by decide) ?_
          refine lv_imul hx hb dX7_crownAll_57 ?_
          refine lv_iload_n hx hb dX7_crownAll_58 rfl (lv_at hl 3 rfl) ?_
          refine lv_iadd hx hb dX7_crownAll_59 ?_
          refine lv_iload_n hx hb dX7_crownAll_60 rfl (lv_at hl 2 rfl) ?_
          refine lv_iconst (v := 4) hx hb dX7_crownAll_61 (by decide) ?_
          refine lv_icmp_ne (tgt := 69) hx hb dX7_crownAll_62 (by decide) (fun c => ?_) (fun c => ?_)
          · have h := z_f h c
            refine lv_aload_n hx hb dX7_crownAll_69 rfl (lv_at hl 0 rfl) ?_
            refine lv_iload_n hx hb dX7_crownAll_70 rfl (lv_at hl 2 rfl) ?_
            refine lv_iload_n hx hb dX7_crownAll_71 rfl (lv_at hl 3 rfl) ?_
            obtain ⟨z12, ez12, h⟩ := z_bd h
            refine xj_i (xrV (As := [.int v2, .int v3]) (rest := [.int ((v2 * (128 : Int32)) + v3), .ref (q_me 4)]) ⟨hx, hb, hml, hown, hts⟩ (m_X7_bestFrom l dC dI _ h_me h_me_court h_me_court_isles h_me_court_isles_now q_me k_me q_me_court_isles k_me_court_isles o_me o_me_court_isles v2 v3 z12 ez12) kw1049 kw1046 kw1048 kw34 kw118 hd_X7_bestFrom ⟨rfl, rfl⟩ rfl rfl ⟨rfl, rfl⟩ hX hK hw [0, 2] (by decide) rfl rfl rfl rfl rfl hl.1 rfl rfl dX7_crownAll_72) hw hA [0, 2] (by decide) rfl rfl (fun H locs hw => ?_)
            have hw : Wd dC dI A s.heap [wX7 h_me h_me_court h_me_court_isles q_me k_me o_me, wX1 h_me_court h_me_court_isles h_me_court_machine q_me_court k_me_court o_me_court, wX2 h_me_court_isles h_me_court_isles_now q_me_court_isles k_me_court_isles o_me_court_isles, wX4 h_me_court_isles_now q_me_court_isles_now k_me_court_isles_now o_me_court_isles_now, wX3 h_me_court_machine q_me_court_machine k_me_court_machine o_me_court_machine, wPL o_pool] H locs := hw
            exact bk_75_6 rec_30_1 hrec_30_1 (lp_X7_crownAll_36 o_me_court o_me_court_isles o_me_court_isles_now o_pool rec_30_1 N) ih v1 v2 v3 z12 ((v2 * (128 : Int32)) + v3) o_me o_me_court_machine _ _ _ h hw (lv_sub hl [0, 1, 2, 3] rfl)
          · have h := z_t h c
            refine lv_iconst (v := 0) hx hb dX7_crownAll_65 (by decide) ?_
            refine lv_goto (tgt := 75) hx hb dX7_crownAll_66 (by decide) ?_
            exact bk_75_6 rec_30_1 hrec_30_1 (lp_X7_crownAll_36 o_me_court o_me_court_isles o_me_court_isles_now o_pool rec_30_1 N) ih v1 v2 v3 (0 : Int32) ((v2 * (128 : Int32)) + v3) o_me o_me_court_machine _ _ _ h hw (lv_sub hl [0, 1, 2, 3] rfl)
  have lp_30_1 : ∀ (N : Nat), ∀ (v1 : Int32) (v2 : Int32) (o_me : Ob) (o_me_court_machine : Ob) (H : Heap) (locs : List Loc) (ls : Array Slot), lp_X7_crownAll_30 o_me_court o_me_court_isles o_me_court_isles_now o_pool  N (v1, v2, o_me, o_me_court_machine) = some y → Wd dC dI A s.heap [wX7 h_me h_me_court h_me_court_isles q_me k_me o_me, wX1 h_me_court h_me_court_isles h_me_court_machine q_me_court k_me_court o_me_court, wX2 h_me_court_isles h_me_court_isles_now q_me_court_isles k_me_court_isles o_me_court_isles, wX4 h_me_court_isles_now q_me_court_isles_now k_me_court_isles_now o_me_court_isles_now, wX3 h_me_court_machine q_me_court_machine k_me_court_machine o_me_court_machine, wPL o_pool] H locs → lv_has ls 4 [(0, .ref h_me), (1, .int v1), (2, .int v2)] → W p l e ({ frames := 5, cells := 0, slots := 0, locals := 132 } : Room) s m ([.ref h_me] : List Value).toArray below meth c H locs 0 0 Qz (F0 m 30 ls []) := by
    intro N
    induction N with
    | zero =>
      intro v1 v2 o_me o_me_court_machine H locs ls h hw hl
      exact absurd (show (none : Option (Int32 × Ob × Ob)) = some y from h) (by simp)
    | succ N ih =>
      intro v1 v2 o_me o_me_court_machine H locs ls h hw hl
      have h : lb_X7_crownAll_30 o_me_court o_me_court_isles o_me_court_isles_now o_pool  (lp_X7_crownAll_30 o_me_court o_me_court_isles o_me_court_isles_now o_pool  N) v1 v2 o_me o_me_court_machine = some y := h
      unfold lb_X7_crownAll_30 at h
      refine lv_iload_n hx hb dX7_crownAll_30 rfl (lv_at hl 2 rfl) ?_
      refine lv_if_lt (tgt := 88) hx hb dX7_crownAll_31 (by decide) (fun c => ?_) (fun c => ?_)
      · have h := z_t h c
        refine lv_iconst (v := 0) hx hb dX7_crownAll_88 (by decide) ?_
        refine lv_istore_n (lv' := [(2, .int (0 : Int32)), (0, .ref h_me), (1, .int v1)]) hx hb dX7_crownAll_89 rfl hl (by decide) rfl (fun ls hl => ?_)
        refine lv_iconst (v := 0) hx hb dX7_crownAll_90 (by decide) ?_
        refine lv_istore_n (lv' := [(3, .int (0 : Int32)), (2, .int (0 : Int32)), (0, .ref h_me), (1, .int v1)]) hx hb dX7_crownAll_91 rfl hl (by decide) rfl (fun ls hl => ?_)
        exact lp_92_2  zfu (0 : Int32) (0 : Int32) o_me o_me_court_machine _ _ _ h hw (lv_sub hl [2, 1, 0] rfl)
      · have h := z_f h c
        refine lv_iconst (v := 0) hx hb dX7_crownAll_34 (by decide) ?_
        refine lv_istore_n (lv' := [(3, .int (0 : Int32)), (0, .ref h_me), (1, .int v1), (2, .int v2)]) hx hb dX7_crownAll_35 rfl hl (by decide) rfl (fun ls hl => ?_)
        exact lp_36_4 (lp_X7_crownAll_30 o_me_court o_me_court_isles o_me_court_isles_now o_pool  N) ih zfu v1 v2 (0 : Int32) o_me o_me_court_machine _ _ _ h hw (lv_sub hl [1, 2, 3, 0] rfl)
  have lp_2_0 : ∀ (N : Nat), ∀ (v1 : Int32) (o_me : Ob) (o_me_court_machine : Ob) (H : Heap) (locs : List Loc) (ls : Array Slot), lp_X7_crownAll_2 o_me_court o_me_court_isles o_me_court_isles_now o_pool  N (v1, o_me, o_me_court_machine) = some y → Wd dC dI A s.heap [wX7 h_me h_me_court h_me_court_isles q_me k_me o_me, wX1 h_me_court h_me_court_isles h_me_court_machine q_me_court k_me_court o_me_court, wX2 h_me_court_isles h_me_court_isles_now q_me_court_isles k_me_court_isles o_me_court_isles, wX4 h_me_court_isles_now q_me_court_isles_now k_me_court_isles_now o_me_court_isles_now, wX3 h_me_court_machine q_me_court_machine k_me_court_machine o_me_court_machine, wPL o_pool] H locs → lv_has ls 4 [(0, .ref h_me), (1, .int v1)] → W p l e ({ frames := 5, cells := 0, slots := 0, locals := 132 } : Room) s m ([.ref h_me] : List Value).toArray below meth c H locs 0 0 Qz (F0 m 2 ls []) := by
    intro N
    induction N with
    | zero =>
      intro v1 o_me o_me_court_machine H locs ls h hw hl
      exact absurd (show (none : Option (Int32 × Ob × Ob)) = some y from h) (by simp)
    | succ N ih =>
      intro v1 o_me o_me_court_machine H locs ls h hw hl
      have h : lb_X7_crownAll_2 o_me_court o_me_court_isles o_me_court_isles_now o_pool  (lp_X7_crownAll_2 o_me_court o_me_court_isles o_me_court_isles_now o_pool  N) v1 o_me o_me_court_machine = some y := h
      unfold lb_X7_crownAll_2 at h
      refine lv_iload_n hx hb dX7_crownAll_2 rfl (lv_at hl 1 rfl) ?_
      refine lv_iconst (v := 4) hx hb dX7_crownAll_3 (by decide) ?_
      refine lv_icmp_ge (tgt := 18) hx hb dX7_crownAll_4 (by decide) (fun c => ?_) (fun c => ?_)
      · have h := z_t h c
        refine lv_iconst (v := 1) hx hb dX7_crownAll_18 (by decide) ?_
        refine lv_aload_n hx hb dX7_crownAll_19 rfl (lv_at hl 0 rfl) ?_
        refine fgX7_1 hx hb hts hown hK hw 0 rfl kw387 dX7_crownAll_20 ?_
        refine fgX2_7 hx hb hts hown hK hw 2 rfl kw316 dX7_crownAll_23 ?_
        refine lv_ishl hx hb dX7_crownAll_26 ?_
        obtain ⟨x1, ex1, h⟩ := z_lt h
        refine lv_fi (v := x1) ex1.symm ?_
        refine lv_istore_n (lv' := [(1, .int x1), (0, .ref h_me)]) hx hb dX7_crownAll_27 rfl hl (by decide) rfl (fun ls hl => ?_)
        refine lv_iconst (v := 4) hx hb dX7_crownAll_28 (by decide) ?_
        refine lv_istore_n (lv' := [(2, .int (4 : Int32)), (1, .int x1), (0, .ref h_me)]) hx hb dX7_crownAll_29 rfl hl (by decide) rfl (fun ls hl => ?_)
        exact lp_30_1  zfu x1 (4 : Int32) o_me o_me_court_machine _ _ _ h hw (lv_sub hl [2, 1, 0] rfl)
      · have h := z_f h c
        refine lv_aload_n hx hb dX7_crownAll_7 rfl (lv_at hl 0 rfl) ?_
        refine lv_iload_n hx hb dX7_crownAll_8 rfl (lv_at hl 1 rfl) ?_
        obtain ⟨z15, ez15, h⟩ := z_bd h
        refine xj_v (xrV (As := [.int v1]) (rest := []) ⟨hx, hb, hml, hown, hts⟩ (m_X7_setScores l dC dI _ h_me h_me_court h_me_court_isles h_me_court_machine h_me_court_isles_now q_me k_me q_me_court k_me_court q_me_court_isles k_me_court_isles q_me_court_isles_now k_me_court_isles_now q_me_court_machine k_me_court_machine o_me o_me_court o_me_court_isles o_me_court_isles_now o_me_court_machine o_pool v1 z15 ez15) kw954 kw951 kw953 kw27 kw118 hd_X7_setScores ⟨rfl, rfl⟩ rfl rfl ⟨rfl, rfl⟩ hX hK hw [0, 1, 2, 3, 4, 5] (by decide) rfl rfl rfl rfl rfl hl.1 rfl rfl dX7_crownAll_9) hw hA [0, 1, 2, 3, 4, 5] (by decide) rfl rfl (fun H locs hw => ?_)
        have hw : Wd dC dI A s.heap [wX7 h_me h_me_court h_me_court_isles q_me k_me z15.1, wX1 h_me_court h_me_court_isles h_me_court_machine q_me_court k_me_court o_me_court, wX2 h_me_court_isles h_me_court_isles_now q_me_court_isles k_me_court_isles o_me_court_isles, wX4 h_me_court_isles_now q_me_court_isles_now k_me_court_isles_now o_me_court_isles_now, wX3 h_me_court_machine q_me_court_machine k_me_court_machine z15.2, wPL o_pool] H locs := hw
        obtain ⟨x16, ex16, h⟩ := z_lt h
        refine lv_iinc (v := x16) (lv' := [(1, .int x16), (0, .ref h_me)]) hx hb dX7_crownAll_12 hl (k := 1) rfl ((congrArg (v1 + ·) (show Int32.ofInt 1 = (1 : Int32) from by decide)).trans ex16.symm) (by decide) rfl (fun ls hl => ?_)
        refine lv_goto (tgt := 2) hx hb dX7_crownAll_15 (by decide) ?_
        exact ih x16 z15.1 z15.2 _ _ _ h hw (lv_sub hl [1, 0] rfl)
  unfold f_X7_crownAll at h
  refine lv_iconst (v := 0) hx hb dX7_crownAll_0 (by decide) ?_
  refine lv_istore_n (lv' := [(1, .int (0 : Int32)), (0, .ref h_me)]) hx hb dX7_crownAll_1 rfl hl (by decide) rfl (fun ls hl => ?_)
  exact lp_2_0  zfu (0 : Int32) o_me o_me_court_machine _ _ _ h hw (lv_sub hl [1, 0] rfl)

def f_X8_crowned (o_me : Ob) (o_me_machine : Ob) (o_me_isles : Ob) (o_me_isles_now : Ob) (o_me_court : Ob) (o_me_study : Ob) (o_pool : List CR) (p0 : Int32) : Option (Int32 × Ob × Ob) :=
  if p0 < (0 : Int32) then
  (some ((-1 : Int32), o_me_machine, o_me_study))
  else
  (if p0 ≤ (4 : Int32) then
  ((f_X7_crownAll o_me_study o_me_court o_me_isles o_me_isles_now o_me_machine o_pool).bind fun z1 =>
  if p0 = (0 : Int32) then
  (some (z1.1, z1.2.2, z1.2.1))
  else
  (zgd (zin (p0 - (1 : Int32)) 7) <|
  some (gA z1.2.1 2 (p0 - (1 : Int32)).toNatClampNeg, z1.2.2, z1.2.1)))
  else
  (some ((-1 : Int32), o_me_machine, o_me_study)))
set_option maxHeartbeats 4000000 in
set_option maxRecDepth 100000 in
theorem m_X8_crowned (l : Launch) (dC : Nat → ClassId) (dI : Nat → Nat → Nat) (sz : Nat) (h_me : Nat) (h_me_reader : Nat) (h_me_machine : Nat) (h_me_isles : Nat) (h_me_court : Nat) (h_me_study : Nat) (h_me_paper : Nat) (h_me_paperCourt : Nat) (h_me_past : Nat) (h_me_pastAhead : Nat) (h_me_movingAhead : Nat) (h_me_isles_now : Nat) (q_me : Nat → Nat) (k_me : Nat → ClassId) (q_me_machine : Nat → Nat) (k_me_machine : Nat → ClassId) (q_me_isles : Nat → Nat) (k_me_isles : Nat → ClassId) (q_me_isles_now : Nat → Nat) (k_me_isles_now : Nat → ClassId) (q_me_court : Nat → Nat) (k_me_court : Nat → ClassId) (q_me_study : Nat → Nat) (k_me_study : Nat → ClassId) (o_me : Ob) (o_me_machine : Ob) (o_me_isles : Ob) (o_me_isles_now : Ob) (o_me_court : Ob) (o_me_study : Ob) (o_pool : List CR) (p0 : Int32) (y : Int32 × Ob × Ob) (h : f_X8_crowned o_me o_me_machine o_me_isles o_me_isles_now o_me_court o_me_study o_pool p0 = some y) : CI l yX8_crowned cX8_crowned 3 (some .int) ({ frames := 6, cells := 0, slots := 0, locals := 155 } : Room) dC dI sz [.ref h_me, .int p0] [wX8 h_me h_me_reader h_me_machine h_me_isles h_me_court h_me_study h_me_paper h_me_paperCourt h_me_past h_me_pastAhead h_me_movingAhead q_me k_me o_me, wX3 h_me_machine q_me_machine k_me_machine o_me_machine, wX2 h_me_isles h_me_isles_now q_me_isles k_me_isles o_me_isles, wX4 h_me_isles_now q_me_isles_now k_me_isles_now o_me_isles_now, wX1 h_me_court h_me_isles h_me_machine q_me_court k_me_court o_me_court, wX7 h_me_study h_me_court h_me_isles q_me_study k_me_study o_me_study, wPL o_pool] [tX8 k_me, tX3 k_me_machine, tX2 k_me_isles, tX4 k_me_isles_now, tX1 k_me_court, tX7 k_me_study, tPL o_pool] y.1 [wX8 h_me h_me_reader h_me_machine h_me_isles h_me_court h_me_study h_me_paper h_me_paperCourt h_me_past h_me_pastAhead h_me_movingAhead q_me k_me o_me, wX3 h_me_machine q_me_machine k_me_machine y.2.1, wX2 h_me_isles h_me_isles_now q_me_isles k_me_isles o_me_isles, wX4 h_me_isles_now q_me_isles_now k_me_isles_now o_me_isles_now, wX1 h_me_court h_me_isles h_me_machine q_me_court k_me_court o_me_court, wX7 h_me_study h_me_court h_me_isles q_me_study k_me_study y.2.2, wPL o_pool] := by
  refine CC_of (by decide) (Nat.le_of_ble_eq_true rfl) ?_
  intro p e s m below meth c A ls hx hb hml hr hlk hnm hown hts hX hK hP hD hA hl
  have hl : lv_has ls 3 [(0, .ref h_me), (1, .int p0)] := hl
  have hown : s.vm.findClass RX8 = some m.cls := hown
  have hw : Wd dC dI A s.heap [wX8 h_me h_me_reader h_me_machine h_me_isles h_me_court h_me_study h_me_paper h_me_paperCourt h_me_past h_me_pastAhead h_me_movingAhead q_me k_me o_me, wX3 h_me_machine q_me_machine k_me_machine o_me_machine, wX2 h_me_isles h_me_isles_now q_me_isles k_me_isles o_me_isles, wX4 h_me_isles_now q_me_isles_now k_me_isles_now o_me_isles_now, wX1 h_me_court h_me_isles h_me_machine q_me_court k_me_court o_me_court, wX7 h_me_study h_me_court h_me_isles q_me_study k_me_study o_me_study, wPL o_pool] s.heap [] := ⟨hP, hD, va_S.rf⟩
  generalize hQz : (MQ below (QI dC dI (fun r (_ : Unit) => r = y.1) (fun _ => Jn [wX8 h_me h_me_reader h_me_machine h_me_isles h_me_court h_me_study h_me_paper h_me_paperCourt h_me_past h_me_pastAhead h_me_movingAhead q_me k_me o_me, wX3 h_me_machine q_me_machine k_me_machine y.2.1, wX2 h_me_isles h_me_isles_now q_me_isles k_me_isles o_me_isles, wX4 h_me_isles_now q_me_isles_now k_me_isles_now o_me_isles_now, wX1 h_me_court h_me_isles h_me_machine q_me_court k_me_court o_me_court, wX7 h_me_study h_me_court h_me_isles q_me_study k_me_study y.2.2, wPL o_pool]) (fun _ => Jt [tX8 k_me, tX3 k_me_machine, tX2 k_me_isles, tX4 k_me_isles_now, tX1 k_me_court, tX7 k_me_study, tPL o_pool]) A) ([.ref h_me, .int p0] : List Value).toArray s 0 0 A) = Qz
  clear hP hD hnm
  unfold f_X8_crowned at h
  refine lv_iload_n hx hb dX8_crowned_0 rfl (lv_at hl 1 rfl) ?_
  refine lv_if_lt (tgt := 9) hx hb dX8_crowned_1 (by decide) (fun c => ?_) (fun c => ?_)
  · have h := z_t h c
    refine lv_iconst (v := (-1)) hx hb dX8_crowned_9 (by decide) ?_
    have hy := Option.some.inj h
    rw [← hQz, ← hy]
    exact xr_i (v := (-1 : Int32)) hx hb hr rfl hlk hK hw dX8_crowned_10
  · have h := z_f h c
    refine lv_iload_n hx hb dX8_crowned_4 rfl (lv_at hl 1 rfl) ?_
    refine lv_iconst (v := 4) hx hb dX8_crowned_5 (by decide) ?_
    refine lv_icmp_le (tgt := 11) hx hb dX8_crowned_6 (by decide) (fun c => ?_) (fun c => ?_)
    · have h := z_t h c
      refine lv_aload_n hx hb dX8_crowned_11 rfl (lv_at hl 0 rfl) ?_
      refine fgX8_4 hx hb hts hown hK hw 0 rfl kw446 dX8_crowned_12 ?_
      obtain ⟨z1, ez1, h⟩ := z_bd h
      refine xj_i (xrV (As := []) (rest := []) ⟨hx, hb, hml, hown, hts⟩ (m_X7_crownAll l dC dI _ h_me_study h_me_court h_me_isles h_me_machine h_me_isles_now q_me_study k_me_study q_me_court k_me_court q_me_isles k_me_isles q_me_isles_now k_me_isles_now q_me_machine k_me_machine o_me_study o_me_court o_me_isles o_me_isles_now o_me_machine o_pool z1 ez1) kw1045 kw1042 kw1043 kw1044 kw118 hd_X7_crownAll ⟨rfl, rfl⟩ rfl rfl ⟨rfl, rfl⟩ hX hK hw [5, 4, 2, 3, 1, 6] (by decide) rfl rfl rfl rfl rfl hl.1 rfl rfl dX8_crowned_15) hw hA [5, 4, 2, 3, 1, 6] (by decide) rfl rfl (fun H locs hw => ?_)
      have hw : Wd dC dI A s.heap [wX8 h_me h_me_reader h_me_machine h_me_isles h_me_court h_me_study h_me_paper h_me_paperCourt h_me_past h_me_pastAhead h_me_movingAhead q_me k_me o_me, wX3 h_me_machine q_me_machine k_me_machine z1.2.2, wX2 h_me_isles h_me_isles_now q_me_isles k_me_isles o_me_isles, wX4 h_me_isles_now q_me_isles_now k_me_isles_now o_me_isles_now, wX1 h_me_court h_me_isles h_me_machine q_me_court k_me_court o_me_court, wX7 h_me_study h_me_court h_me_isles q_me_study k_me_study z1.2.1, wPL o_pool] H locs := hw
      refine lv_istore_n (lv' := [(2, .int z1.1), (0, .ref h_me), (1, .int p0)]) hx hb dX8_crowned_18 rfl hl (by decide) rfl (fun ls hl => ?_)
      refine lv_iload_n hx hb dX8_crowned_19 rfl (lv_at hl 2 rfl) ?_
      refine lv_if_ne (tgt := 27) hx hb dX8_crowned_20 (by decide) (fun c => ?_) (fun c => ?_)
      · have h := z_f h c
        refine lv_aload_n hx hb dX8_crowned_27 rfl (lv_at hl 1 rfl) ?_
        refine fgX8_4 hx hb hts hown hK hw 0 rfl kw446 dX8_crowned_28 ?_
        refine fgX7_2 hx hb hts hown hK hw 5 rfl kw389 dX8_crowned_31 ?_
        refine lv_iload_n hx hb dX8_crowned_34 rfl (lv_at hl 2 rfl) ?_
        refine lv_iconst (v := 1) hx hb dX8_crowned_35 (by decide) ?_
        refine lv_isub hx hb dX8_crowned_36 ?_
        obtain ⟨g2, h⟩ := z_gd h
        refine faX7_2 hx hb hK hw 5 rfl rfl g2 dX8_crowned_37 ?_
        have hy := Option.some.inj h
        rw [← hQz, ← hy]
        exact xr_i (v := gA z1.2.1 2 (p0 - (1 : Int32)).toNatClampNeg) hx hb hr rfl hlk hK hw dX8_crowned_38
      · have h := z_t h c
        refine lv_iload_n hx hb dX8_crowned_23 rfl (lv_at hl 0 rfl) ?_
        refine lv_goto (tgt := 38) hx hb dX8_crowned_24 (by decide) ?_
        have hy := Option.some.inj h
        rw [← hQz, ← hy]
        exact xr_i (v := z1.1) hx hb hr rfl hlk hK hw dX8_crowned_38
    · have h := z_f h c
      refine lv_iconst (v := (-1)) hx hb dX8_crowned_9 (by decide) ?_
      have hy := Option.some.inj h
      rw [← hQz, ← hy]
      exact xr_i (v := (-1 : Int32)) hx hb hr rfl hlk hK hw dX8_crowned_10

def f_X4_told (o_me : Ob) (p0 : Int32) (p1 : Int32) : Option (Int32) :=
  if p1 = (0 : Int32) then
  (zgd (zin p0 7) <|
  some (gA o_me 0 p0.toNatClampNeg))
  else
  (if p1 = (1 : Int32) then
  (zgd (zin p0 7) <|
  some (gA o_me 1 p0.toNatClampNeg))
  else
  (if p1 = (2 : Int32) then
  (some (((gI o_me 2) >>> (p0 &&& 31)) &&& (1 : Int32)))
  else
  (some (-1 : Int32))))
set_option maxHeartbeats 4000000 in
set_option maxRecDepth 100000 in
theorem m_X4_told (l : Launch) (dC : Nat → ClassId) (dI : Nat → Nat → Nat) (sz : Nat) (h_me : Nat) (q_me : Nat → Nat) (k_me : Nat → ClassId) (o_me : Ob) (p0 : Int32) (p1 : Int32) (y : Int32) (h : f_X4_told o_me p0 p1 = some y) : CI l yX4_told cX4_told 3 (some .int) ({ frames := 0, cells := 0, slots := 0, locals := 0 } : Room) dC dI sz [.ref h_me, .int p0, .int p1] [wX4 h_me q_me k_me o_me] [tX4 k_me] y [wX4 h_me q_me k_me o_me] := by
  refine CC_of (by decide) (Nat.le_of_ble_eq_true rfl) ?_
  intro p e s m below meth c A ls hx hb hml hr hlk hnm hown hts hX hK hP hD hA hl
  have hl : lv_has ls 3 [(0, .ref h_me), (1, .int p0), (2, .int p1)] := hl
  have hown : s.vm.findClass RX4 = some m.cls := hown
  have hw : Wd dC dI A s.heap [wX4 h_me q_me k_me o_me] s.heap [] := ⟨hP, hD, va_S.rf⟩
  generalize hQz : (MQ below (QI dC dI (fun r (_ : Unit) => r = y) (fun _ => Jn [wX4 h_me q_me k_me o_me]) (fun _ => Jt [tX4 k_me]) A) ([.ref h_me, .int p0, .int p1] : List Value).toArray s 0 0 A) = Qz
  clear hP hD hnm
  unfold f_X4_told at h
  refine lv_iload_n hx hb dX4_told_0 rfl (lv_at hl 2 rfl) ?_
  refine lv_if_ne (tgt := 11) hx hb dX4_told_1 (by decide) (fun c => ?_) (fun c => ?_)
  · have h := z_f h c
    refine lv_iload_n hx hb dX4_told_11 rfl (lv_at hl 2 rfl) ?_
    refine lv_iconst (v := 1) hx hb dX4_told_12 (by decide) ?_
    refine lv_icmp_ne (tgt := 23) hx hb dX4_told_13 (by decide) (fun c => ?_) (fun c => ?_)
    · have h := z_f h c
      refine lv_iload_n hx hb dX4_told_23 rfl (lv_at hl 2 rfl) ?_
      refine lv_iconst (v := 2) hx hb dX4_told_24 (by decide) ?_
      refine lv_icmp_ne (tgt := 39) hx hb dX4_told_25 (by decide) (fun c => ?_) (fun c => ?_)
      · have h := z_f h c
        refine lv_iconst (v := (-1)) hx hb dX4_told_39 (by decide) ?_
        have hy := Option.some.inj h
        rw [← hQz, ← hy]
        exact xr_i (v := (-1 : Int32)) hx hb hr rfl hlk hK hw dX4_told_40
      · have h := z_t h c
        refine lv_aload_n hx hb dX4_told_28 rfl (lv_at hl 0 rfl) ?_
        refine fgX4_2 hx hb hts hown hK hw 0 rfl kw268 dX4_told_29 ?_
        refine lv_iload_n hx hb dX4_told_32 rfl (lv_at hl 1 rfl) ?_
        refine lv_ishr hx hb dX4_told_33 ?_
        refine lv_iconst (v := 1) hx hb dX4_told_34 (by decide) ?_
        refine lv_iand hx hb dX4_told_35 ?_
        refine lv_goto (tgt := 40) hx hb dX4_told_36 (by decide) ?_
        have hy := Option.some.inj h
        rw [← hQz, ← hy]
        exact xr_i (v := ((gI o_me 2) >>> (p0 &&& 31)) &&& (1 : Int32)) hx hb hr rfl hlk hK hw dX4_told_40
    · have h := z_t h c
      refine lv_aload_n hx hb dX4_told_16 rfl (lv_at hl 0 rfl) ?_
      refine fgX4_1 hx hb hts hown hK hw 0 rfl kw265 dX4_told_17 ?_
      refine lv_iload_n hx hb dX4_told_20 rfl (lv_at hl 1 rfl) ?_
      obtain ⟨g1, h⟩ := z_gd h
      refine faX4_1 hx hb hK hw 0 rfl rfl g1 dX4_told_21 ?_
      have hy := Option.some.inj h
      rw [← hQz, ← hy]
      exact xr_i (v := gA o_me 1 p0.toNatClampNeg) hx hb hr rfl hlk hK hw dX4_told_22
  · have h := z_t h c
    refine lv_aload_n hx hb dX4_told_4 rfl (lv_at hl 0 rfl) ?_
    refine fgX4_0 hx hb hts hown hK hw 0 rfl kw261 dX4_told_5 ?_
    refine lv_iload_n hx hb dX4_told_8 rfl (lv_at hl 1 rfl) ?_
    obtain ⟨g2, h⟩ := z_gd h
    refine faX4_0 hx hb hK hw 0 rfl rfl g2 dX4_told_9 ?_
    have hy := Option.some.inj h
    rw [← hQz, ← hy]
    exact xr_i (v := gA o_me 0 p0.toNatClampNeg) hx hb hr rfl hlk hK hw dX4_told_10

def f_X8_drawn (o_me : Ob) (o_me_paper : Ob) (o_me_paper_now : Ob) (p0 : Int32) (p1 : Int32) : Option (Int32) :=
  (f_X2_isPerson o_me_paper p0).bind fun z1 =>
  if z1 = (0 : Int32) then
  (some (-1 : Int32))
  else
  ((f_X4_told o_me_paper_now p0 p1).bind fun z2 =>
  some z2)
set_option maxHeartbeats 4000000 in
set_option maxRecDepth 100000 in
theorem m_X8_drawn (l : Launch) (dC : Nat → ClassId) (dI : Nat → Nat → Nat) (sz : Nat) (h_me : Nat) (h_me_reader : Nat) (h_me_machine : Nat) (h_me_isles : Nat) (h_me_court : Nat) (h_me_study : Nat) (h_me_paper : Nat) (h_me_paperCourt : Nat) (h_me_past : Nat) (h_me_pastAhead : Nat) (h_me_movingAhead : Nat) (h_me_paper_now : Nat) (q_me : Nat → Nat) (k_me : Nat → ClassId) (q_me_paper : Nat → Nat) (k_me_paper : Nat → ClassId) (q_me_paper_now : Nat → Nat) (k_me_paper_now : Nat → ClassId) (o_me : Ob) (o_me_paper : Ob) (o_me_paper_now : Ob) (p0 : Int32) (p1 : Int32) (y : Int32) (h : f_X8_drawn o_me o_me_paper o_me_paper_now p0 p1 = some y) : CI l yX8_drawn cX8_drawn 3 (some .int) ({ frames := 1, cells := 0, slots := 0, locals := 22 } : Room) dC dI sz [.ref h_me, .int p0, .int p1] [wX8 h_me h_me_reader h_me_machine h_me_isles h_me_court h_me_study h_me_paper h_me_paperCourt h_me_past h_me_pastAhead h_me_movingAhead q_me k_me o_me, wX2 h_me_paper h_me_paper_now q_me_paper k_me_paper o_me_paper, wX4 h_me_paper_now q_me_paper_now k_me_paper_now o_me_paper_now] [tX8 k_me, tX2 k_me_paper, tX4 k_me_paper_now] y [wX8 h_me h_me_reader h_me_machine h_me_isles h_me_court h_me_study h_me_paper h_me_paperCourt h_me_past h_me_pastAhead h_me_movingAhead q_me k_me o_me, wX2 h_me_paper h_me_paper_now q_me_paper k_me_paper o_me_paper, wX4 h_me_paper_now q_me_paper_now k_me_paper_now o_me_paper_now] := by
  refine CC_of (by decide) (Nat.le_of_ble_eq_true rfl) ?_
  intro p e s m below meth c A ls hx hb hml hr hlk hnm hown hts hX hK hP hD hA hl
  have hl : lv_has ls 3 [(0, .ref h_me), (1, .int p0), (2, .int p1)] := hl
  have hown : s.vm.findClass RX8 = some m.cls := hown
  have hw : Wd dC dI A s.heap [wX8 h_me h_me_reader h_me_machine h_me_isles h_me_court h_me_study h_me_paper h_me_paperCourt h_me_past h_me_pastAhead h_me_movingAhead q_me k_me o_me, wX2 h_me_paper h_me_paper_now q_me_paper k_me_paper o_me_paper, wX4 h_me_paper_now q_me_paper_now k_me_paper_now o_me_paper_now] s.heap [] := ⟨hP, hD, va_S.rf⟩
  generalize hQz : (MQ below (QI dC dI (fun r (_ : Unit) => r = y) (fun _ => Jn [wX8 h_me h_me_reader h_me_machine h_me_isles h_me_court h_me_study h_me_paper h_me_paperCourt h_me_past h_me_pastAhead h_me_movingAhead q_me k_me o_me, wX2 h_me_paper h_me_paper_now q_me_paper k_me_paper o_me_paper, wX4 h_me_paper_now q_me_paper_now k_me_paper_now o_me_paper_now]) (fun _ => Jt [tX8 k_me, tX2 k_me_paper, tX4 k_me_paper_now]) A) ([.ref h_me, .int p0, .int p1] : List Value).toArray s 0 0 A) = Qz
  clear hP hD hnm
  unfold f_X8_drawn at h
  refine lv_aload_n hx hb dX8_drawn_0 rfl (lv_at hl 0 rfl) ?_
  refine fgX8_5 hx hb hts hown hK hw 0 rfl kw447 dX8_drawn_1 ?_
  refine lv_iload_n hx hb dX8_drawn_4 rfl (lv_at hl 1 rfl) ?_
  obtain ⟨z1, ez1, h⟩ := z_bd h
  refine xj_i (xrV (As := [.int p0]) (rest := []) ⟨hx, hb, hml, hown, hts⟩ (m_X2_isPerson l dC dI _ h_me_paper h_me_paper_now q_me_paper k_me_paper o_me_paper p0 z1 ez1) kw504 kw501 kw502 kw503 kw115 hd_X2_isPerson ⟨rfl, rfl⟩ rfl rfl ⟨rfl, rfl⟩ hX hK hw [1] (by decide) rfl rfl rfl rfl rfl hl.1 rfl rfl dX8_drawn_5) hw hA [1] (by decide) rfl rfl (fun H locs hw => ?_)
  have hw : Wd dC dI A s.heap [wX8 h_me h_me_reader h_me_machine h_me_isles h_me_court h_me_study h_me_paper h_me_paperCourt h_me_past h_me_pastAhead h_me_movingAhead q_me k_me o_me, wX2 h_me_paper h_me_paper_now q_me_paper k_me_paper o_me_paper, wX4 h_me_paper_now q_me_paper_now k_me_paper_now o_me_paper_now] H locs := hw
  refine lv_if_eq (tgt := 26) hx hb dX8_drawn_8 (by decide) (fun c => ?_) (fun c => ?_)
  · have h := z_t h c
    refine lv_iconst (v := (-1)) hx hb dX8_drawn_26 (by decide) ?_
    have hy := Option.some.inj h
    rw [← hQz, ← hy]
    exact xr_i (v := (-1 : Int32)) hx hb hr rfl hlk hK hw dX8_drawn_27
  · have h := z_f h c
    refine lv_aload_n hx hb dX8_drawn_11 rfl (lv_at hl 0 rfl) ?_
    refine fgX8_5 hx hb hts hown hK hw 0 rfl kw447 dX8_drawn_12 ?_
    refine fgX2_0 hx hb hts hown hK hw 1 rfl kw297 dX8_drawn_15 ?_
    refine lv_iload_n hx hb dX8_drawn_18 rfl (lv_at hl 1 rfl) ?_
    refine lv_iload_n hx hb dX8_drawn_19 rfl (lv_at hl 2 rfl) ?_
    obtain ⟨z2, ez2, h⟩ := z_bd h
    refine xj_i (xrV (As := [.int p0, .int p1]) (rest := []) ⟨hx, hb, hml, hown, hts⟩ (m_X4_told l dC dI _ h_me_paper_now q_me_paper_now k_me_paper_now o_me_paper_now p0 p1 z2 ez2) kw589 kw586 kw587 kw588 kw116 hd_X4_told ⟨rfl, rfl⟩ rfl rfl ⟨rfl, rfl⟩ hX hK hw [2] (by decide) rfl rfl rfl rfl rfl hl.1 rfl rfl dX8_drawn_20) hw hA [2] (by decide) rfl rfl (fun H locs hw => ?_)
    have hw : Wd dC dI A s.heap [wX8 h_me h_me_reader h_me_machine h_me_isles h_me_court h_me_study h_me_paper h_me_paperCourt h_me_past h_me_pastAhead h_me_movingAhead q_me k_me o_me, wX2 h_me_paper h_me_paper_now q_me_paper k_me_paper o_me_paper, wX4 h_me_paper_now q_me_paper_now k_me_paper_now o_me_paper_now] H locs := hw
    refine lv_goto (tgt := 27) hx hb dX8_drawn_23 (by decide) ?_
    have hy := Option.some.inj h
    rw [← hQz, ← hy]
    exact xr_i (v := z2) hx hb hr rfl hlk hK hw dX8_drawn_27

def f_X8_end (o_me : Ob) (o_me_reader : Ob) (p0 : Int32) : Option (Int32 × Ob) :=
  if p0 < (0 : Int32) then
  (some ((-1 : Int32), o_me_reader))
  else
  (if p0 ≤ (gI o_me_reader 2) then
  (zlt (sI o_me_reader 2 p0) fun o1 =>
  some (p0, o1))
  else
  (some ((-1 : Int32), o_me_reader)))
set_option maxHeartbeats 4000000 in
set_option maxRecDepth 100000 in
theorem m_X8_end (l : Launch) (dC : Nat → ClassId) (dI : Nat → Nat → Nat) (sz : Nat) (h_me : Nat) (h_me_reader : Nat) (h_me_machine : Nat) (h_me_isles : Nat) (h_me_court : Nat) (h_me_study : Nat) (h_me_paper : Nat) (h_me_paperCourt : Nat) (h_me_past : Nat) (h_me_pastAhead : Nat) (h_me_movingAhead : Nat) (h_me_reader_code : Nat) (q_me : Nat → Nat) (k_me : Nat → ClassId) (q_me_reader : Nat → Nat) (k_me_reader : Nat → ClassId) (o_me : Ob) (o_me_reader : Ob) (p0 : Int32) (y : Int32 × Ob) (h : f_X8_end o_me o_me_reader p0 = some y) : CI l yX8_end cX8_end 2 (some .int) ({ frames := 0, cells := 0, slots := 0, locals := 0 } : Room) dC dI sz [.ref h_me, .int p0] [wX8 h_me h_me_reader h_me_machine h_me_isles h_me_court h_me_study h_me_paper h_me_paperCourt h_me_past h_me_pastAhead h_me_movingAhead q_me k_me o_me, wX6 h_me_reader h_me_reader_code q_me_reader k_me_reader o_me_reader] [tX8 k_me, tX6 k_me_reader] y.1 [wX8 h_me h_me_reader h_me_machine h_me_isles h_me_court h_me_study h_me_paper h_me_paperCourt h_me_past h_me_pastAhead h_me_movingAhead q_me k_me o_me, wX6 h_me_reader h_me_reader_code q_me_reader k_me_reader y.2] := by
  refine CC_of (by decide) (Nat.le_of_ble_eq_true rfl) ?_
  intro p e s m below meth c A ls hx hb hml hr hlk hnm hown hts hX hK hP hD hA hl
  have hl : lv_has ls 2 [(0, .ref h_me), (1, .int p0)] := hl
  have hown : s.vm.findClass RX8 = some m.cls := hown
  have hw : Wd dC dI A s.heap [wX8 h_me h_me_reader h_me_machine h_me_isles h_me_court h_me_study h_me_paper h_me_paperCourt h_me_past h_me_pastAhead h_me_movingAhead q_me k_me o_me, wX6 h_me_reader h_me_reader_code q_me_reader k_me_reader o_me_reader] s.heap [] := ⟨hP, hD, va_S.rf⟩
  generalize hQz : (MQ below (QI dC dI (fun r (_ : Unit) => r = y.1) (fun _ => Jn [wX8 h_me h_me_reader h_me_machine h_me_isles h_me_court h_me_study h_me_paper h_me_paperCourt h_me_past h_me_pastAhead h_me_movingAhead q_me k_me o_me, wX6 h_me_reader h_me_reader_code q_me_reader k_me_reader y.2]) (fun _ => Jt [tX8 k_me, tX6 k_me_reader]) A) ([.ref h_me, .int p0] : List Value).toArray s 0 0 A) = Qz
  clear hP hD hnm
  unfold f_X8_end at h
  refine lv_iload_n hx hb dX8_end_0 rfl (lv_at hl 1 rfl) ?_
  refine lv_if_lt (tgt := 15) hx hb dX8_end_1 (by decide) (fun c => ?_) (fun c => ?_)
  · have h := z_t h c
    refine lv_iconst (v := (-1)) hx hb dX8_end_15 (by decide) ?_
    have hy := Option.some.inj h
    rw [← hQz, ← hy]
    exact xr_i (v := (-1 : Int32)) hx hb hr rfl hlk hK hw dX8_end_16
  · have h := z_f h c
    refine lv_iload_n hx hb dX8_end_4 rfl (lv_at hl 1 rfl) ?_
    refine lv_aload_n hx hb dX8_end_5 rfl (lv_at hl 0 rfl) ?_
    refine fgX8_0 hx hb hts hown hK hw 0 rfl kw442 dX8_end_6 ?_
    refine fgX6_2 hx hb hts hown hK hw 1 rfl kw205 dX8_end_9 ?_
    refine lv_icmp_le (tgt := 17) hx hb dX8_end_12 (by decide) (fun c => ?_) (fun c => ?_)
    · have h := z_t h c
      refine lv_aload_n hx hb dX8_end_17 rfl (lv_at hl 0 rfl) ?_
      refine fgX8_0 hx hb hts hown hK hw 0 rfl kw442 dX8_end_18 ?_
      refine lv_iload_n hx hb dX8_end_21 rfl (lv_at hl 1 rfl) ?_
      refine fpX6_2 hx hb hts hown hK hw 1 rfl kw205 dX8_end_22 (fun H locs hw => ?_)
      obtain ⟨o1, eo1, h⟩ := z_lt h
      have hw : Wd dC dI A s.heap [wX8 h_me h_me_reader h_me_machine h_me_isles h_me_court h_me_study h_me_paper h_me_paperCourt h_me_past h_me_pastAhead h_me_movingAhead q_me k_me o_me, wX6 h_me_reader h_me_reader_code q_me_reader k_me_reader o1] H locs := by rw [eo1]; exact hw
      refine lv_iload_n hx hb dX8_end_25 rfl (lv_at hl 1 rfl) ?_
      have hy := Option.some.inj h
      rw [← hQz, ← hy]
      exact xr_i (v := p0) hx hb hr rfl hlk hK hw dX8_end_26
    · have h := z_f h c
      refine lv_iconst (v := (-1)) hx hb dX8_end_15 (by decide) ?_
      have hy := Option.some.inj h
      rw [← hQz, ← hy]
      exact xr_i (v := (-1 : Int32)) hx hb hr rfl hlk hK hw dX8_end_16

def f_X4_writeTo_AX5_1 (o_me : Ob) (o_a0 : Ob) (p1 : Int32) : Option (Ob) :=
  if p1 < (0 : Int32) then
  (some o_a0)
  else
  (if p1 ≤ (255 : Int32) then
  (zgd (zcp (0 : Int32) p1 (7 : Int32) 7 272) <|
  zlt (cA o_a0 1 (gA o_me 0) (0 : Int32) p1 (7 : Int32)) fun o2 =>
  zgd (zcp (0 : Int32) (p1 + (7 : Int32)) (7 : Int32) 7 272) <|
  zlt (cA o2 1 (gA o_me 1) (0 : Int32) (p1 + (7 : Int32)) (7 : Int32)) fun o4 =>
  zgd (zin ((p1 + (17 : Int32)) - (3 : Int32)) 272) <|
  zlt (tA o4 1 ((p1 + (17 : Int32)) - (3 : Int32)).toNatClampNeg (gI o_me 2)) fun o6 =>
  zgd (zin ((p1 + (17 : Int32)) - (2 : Int32)) 272) <|
  zlt (tA o6 1 ((p1 + (17 : Int32)) - (2 : Int32)).toNatClampNeg (gI o_me 3)) fun o8 =>
  zgd (zin ((p1 + (17 : Int32)) - (1 : Int32)) 272) <|
  zlt (tA o8 1 ((p1 + (17 : Int32)) - (1 : Int32)).toNatClampNeg (gI o_me 4)) fun o10 =>
  some o10)
  else
  (some o_a0))
set_option maxHeartbeats 4000000 in
set_option maxRecDepth 100000 in
theorem m_X4_writeTo_AX5_1 (l : Launch) (dC : Nat → ClassId) (dI : Nat → Nat → Nat) (sz : Nat) (h_me : Nat) (h_a0 : Nat) (q_me : Nat → Nat) (k_me : Nat → ClassId) (q_a0 : Nat → Nat) (k_a0 : Nat → ClassId) (o_me : Ob) (o_a0 : Ob) (p1 : Int32) (y : Ob) (h : f_X4_writeTo_AX5_1 o_me o_a0 p1 = some y) : CV l yX4_writeTo cX4_writeTo 3 none ({ frames := 1, cells := 0, slots := 0, locals := 60 } : Room) dC dI sz [.ref h_me, .ref (q_a0 1), .int p1] [wX4 h_me q_me k_me o_me, wX5 h_a0 q_a0 k_a0 o_a0] [tX4 k_me, tX5 k_a0] [wX4 h_me q_me k_me o_me, wX5 h_a0 q_a0 k_a0 y] := by
  refine CC_of (by decide) (Nat.le_of_ble_eq_true rfl) ?_
  intro p e s m below meth c A ls hx hb hml hr hlk hnm hown hts hX hK hP hD hA hl
  have hl : lv_has ls 3 [(0, .ref h_me), (1, .ref (q_a0 1)), (2, .int p1)] := hl
  have hown : s.vm.findClass RX4 = some m.cls := hown
  have hw : Wd dC dI A s.heap [wX4 h_me q_me k_me o_me, wX5 h_a0 q_a0 k_a0 o_a0] s.heap [] := ⟨hP, hD, va_S.rf⟩
  generalize hQz : (MQ below (QV dC dI (fun (_ : Unit) => True) (fun _ => Jn [wX4 h_me q_me k_me o_me, wX5 h_a0 q_a0 k_a0 y]) (fun _ => Jt [tX4 k_me, tX5 k_a0]) A) ([.ref h_me, .ref (q_a0 1), .int p1] : List Value).toArray s 0 0 A) = Qz
  clear hP hD hnm
  unfold f_X4_writeTo_AX5_1 at h
  refine lv_iload_n hx hb dX4_writeTo_0 rfl (lv_at hl 2 rfl) ?_
  refine lv_if_lt (tgt := 13) hx hb dX4_writeTo_1 (by decide) (fun c => ?_) (fun c => ?_)
  · have h := z_t h c
    have hy := Option.some.inj h
    rw [← hQz, ← hy]
    exact xr_v hx hb hr hlk hK hw dX4_writeTo_13
  · have h := z_f h c
    refine lv_iload_n hx hb dX4_writeTo_4 rfl (lv_at hl 2 rfl) ?_
    refine lv_aload_n hx hb dX4_writeTo_5 rfl (lv_at hl 1 rfl) ?_
    refine fnX5_1 hx hb hK hw 1 rfl rfl dX4_writeTo_6 ?_
    refine lv_fi (v := 272) (by decide) ?_
    refine lv_bipush (v := 17) hx hb dX4_writeTo_7 (by decide) ?_
    refine lv_isub hx hb dX4_writeTo_9 ?_
    refine lv_fi (v := 255) (by decide) ?_
    refine lv_icmp_le (tgt := 14) hx hb dX4_writeTo_10 (by decide) (fun c => ?_) (fun c => ?_)
    · have h := z_t h c
      refine lv_aload_n hx hb dX4_writeTo_14 rfl (lv_at hl 0 rfl) ?_
      refine fgX4_0 hx hb hts hown hK hw 0 rfl kw261 dX4_writeTo_15 ?_
      refine lv_iconst (v := 0) hx hb dX4_writeTo_18 (by decide) ?_
      refine lv_aload_n hx hb dX4_writeTo_19 rfl (lv_at hl 1 rfl) ?_
      refine lv_iload_n hx hb dX4_writeTo_20 rfl (lv_at hl 2 rfl) ?_
      refine lv_bipush (v := 7) hx hb dX4_writeTo_21 (by decide) ?_
      obtain ⟨g1, h⟩ := z_gd h
      refine xcopy (n0 := 0) (j0 := 1) (u0 := 0) (n1 := 1) (j1 := 2) (u1 := 1) hx hb (hml.trans hl.1.symm) hown hts kw826 kw812 kw811 kw125 hK hw rfl rfl rfl rfl rfl rfl rfl rfl g1 (Nat.le_of_ble_eq_true rfl) (Nat.le_of_ble_eq_true rfl) dX4_writeTo_23 (fun H locs hw => ?_)
      obtain ⟨o2, eo2, h⟩ := z_lt h
      have hw : Wd dC dI A s.heap [wX4 h_me q_me k_me o_me, wX5 h_a0 q_a0 k_a0 o2] H locs := by rw [eo2]; exact hw
      refine lv_aload_n hx hb dX4_writeTo_26 rfl (lv_at hl 0 rfl) ?_
      refine fgX4_1 hx hb hts hown hK hw 0 rfl kw265 dX4_writeTo_27 ?_
      refine lv_iconst (v := 0) hx hb dX4_writeTo_30 (by decide) ?_
      refine lv_aload_n hx hb dX4_writeTo_31 rfl (lv_at hl 1 rfl) ?_
      refine lv_iload_n hx hb dX4_writeTo_32 rfl (lv_at hl 2 rfl) ?_
      refine lv_bipush (v := 7) hx hb dX4_writeTo_33 (by decide) ?_
      refine lv_iadd hx hb dX4_writeTo_35 ?_
      refine lv_bipush (v := 7) hx hb dX4_writeTo_36 (by decide) ?_
      obtain ⟨g3, h⟩ := z_gd h
      refine xcopy (n0 := 0) (j0 := 2) (u0 := 1) (n1 := 1) (j1 := 2) (u1 := 1) hx hb (hml.trans hl.1.symm) hown hts kw826 kw812 kw811 kw125 hK hw rfl rfl rfl rfl rfl rfl rfl rfl g3 (Nat.le_of_ble_eq_true rfl) (Nat.le_of_ble_eq_true rfl) dX4_writeTo_38 (fun H locs hw => ?_)
      obtain ⟨o4, eo4, h⟩ := z_lt h
      have hw : Wd dC dI A s.heap [wX4 h_me q_me k_me o_me, wX5 h_a0 q_a0 k_a0 o4] H locs := by rw [eo4]; exact hw
      refine lv_aload_n hx hb dX4_writeTo_41 rfl (lv_at hl 1 rfl) ?_
      refine lv_iload_n hx hb dX4_writeTo_42 rfl (lv_at hl 2 rfl) ?_
      refine lv_bipush (v := 17) hx hb dX4_writeTo_43 (by decide) ?_
      refine lv_iadd hx hb dX4_writeTo_45 ?_
      refine lv_iconst (v := 3) hx hb dX4_writeTo_46 (by decide) ?_
      refine lv_isub hx hb dX4_writeTo_47 ?_
      refine lv_aload_n hx hb dX4_writeTo_48 rfl (lv_at hl 0 rfl) ?_
      refine fgX4_2 hx hb hts hown hK hw 0 rfl kw268 dX4_writeTo_49 ?_
      obtain ⟨g5, h⟩ := z_gd h
      refine fbX5_1 hx hb hK hw 1 rfl rfl g5 dX4_writeTo_52 (fun H locs hw => ?_)
      obtain ⟨o6, eo6, h⟩ := z_lt h
      have hw : Wd dC dI A s.heap [wX4 h_me q_me k_me o_me, wX5 h_a0 q_a0 k_a0 o6] H locs := by rw [eo6]; exact hw
      refine lv_aload_n hx hb dX4_writeTo_53 rfl (lv_at hl 1 rfl) ?_
      refine lv_iload_n hx hb dX4_writeTo_54 rfl (lv_at hl 2 rfl) ?_
      refine lv_bipush (v := 17) hx hb dX4_writeTo_55 (by decide) ?_
      refine lv_iadd hx hb dX4_writeTo_57 ?_
      refine lv_iconst (v := 2) hx hb dX4_writeTo_58 (by decide) ?_
      refine lv_isub hx hb dX4_writeTo_59 ?_
      refine lv_aload_n hx hb dX4_writeTo_60 rfl (lv_at hl 0 rfl) ?_
      refine fgX4_3 hx hb hts hown hK hw 0 rfl kw273 dX4_writeTo_61 ?_
      obtain ⟨g7, h⟩ := z_gd h
      refine fbX5_1 hx hb hK hw 1 rfl rfl g7 dX4_writeTo_64 (fun H locs hw => ?_)
      obtain ⟨o8, eo8, h⟩ := z_lt h
      have hw : Wd dC dI A s.heap [wX4 h_me q_me k_me o_me, wX5 h_a0 q_a0 k_a0 o8] H locs := by rw [eo8]; exact hw
      refine lv_aload_n hx hb dX4_writeTo_65 rfl (lv_at hl 1 rfl) ?_
      refine lv_iload_n hx hb dX4_writeTo_66 rfl (lv_at hl 2 rfl) ?_
      refine lv_bipush (v := 17) hx hb dX4_writeTo_67 (by decide) ?_
      refine lv_iadd hx hb dX4_writeTo_69 ?_
      refine lv_iconst (v := 1) hx hb dX4_writeTo_70 (by decide) ?_
      refine lv_isub hx hb dX4_writeTo_71 ?_
      refine lv_aload_n hx hb dX4_writeTo_72 rfl (lv_at hl 0 rfl) ?_
      refine fgX4_4 hx hb hts hown hK hw 0 rfl kw277 dX4_writeTo_73 ?_
      obtain ⟨g9, h⟩ := z_gd h
      refine fbX5_1 hx hb hK hw 1 rfl rfl g9 dX4_writeTo_76 (fun H locs hw => ?_)
      obtain ⟨o10, eo10, h⟩ := z_lt h
      have hw : Wd dC dI A s.heap [wX4 h_me q_me k_me o_me, wX5 h_a0 q_a0 k_a0 o10] H locs := by rw [eo10]; exact hw
      have hy := Option.some.inj h
      rw [← hQz, ← hy]
      exact xr_v hx hb hr hlk hK hw dX4_writeTo_77
    · have h := z_f h c
      have hy := Option.some.inj h
      rw [← hQz, ← hy]
      exact xr_v hx hb hr hlk hK hw dX4_writeTo_13

def bk_X5_keep_O_32 (o_a1 : Ob)  (v1 : Int32) (o_me : Ob) : Option (Ob) :=
  zlt (((gI o_me 2) + (gI o_me 3)) - ((gI o_me 2) + (gI o_me 3)) / (16 : Int32) * (16 : Int32)) fun x1 =>
  zgd (zin x1 16) <|
  zlt (tA o_me 0 x1.toNatClampNeg v1) fun o3 =>
  (f_X4_writeTo_AX5_1 o_a1 o3 (x1 * (17 : Int32))).bind fun z4 =>
  zlt (sI z4 3 ((gI z4 3) + (1 : Int32))) fun o5 =>
  some o5
def f_X5_keep_O (o_me : Ob) (o_a1 : Ob) (p0 : Int32) : Option (Ob) :=
  if (gI o_me 3) = (16 : Int32) then
  (zlt (sI o_me 2 (((gI o_me 2) + (1 : Int32)) - ((gI o_me 2) + (1 : Int32)) / (16 : Int32) * (16 : Int32))) fun o6 =>
  zlt (sI o6 3 ((gI o6 3) - (1 : Int32))) fun o7 =>
  bk_X5_keep_O_32 o_a1  p0 o7)
  else
  (bk_X5_keep_O_32 o_a1  p0 o_me)
set_option maxHeartbeats 4000000 in
set_option maxRecDepth 100000 in
theorem m_X5_keep_O (l : Launch) (dC : Nat → ClassId) (dI : Nat → Nat → Nat) (sz : Nat) (h_me : Nat) (h_a1 : Nat) (q_me : Nat → Nat) (k_me : Nat → ClassId) (q_a1 : Nat → Nat) (k_a1 : Nat → ClassId) (o_me : Ob) (o_a1 : Ob) (p0 : Int32) (y : Ob) (h : f_X5_keep_O o_me o_a1 p0 = some y) : CV l yX5_keep cX5_keep 4 none ({ frames := 2, cells := 0, slots := 0, locals := 82 } : Room) dC dI sz [.ref h_me, .int p0, .ref h_a1] [wX5 h_me q_me k_me o_me, wX4 h_a1 q_a1 k_a1 o_a1] [tX5 k_me, tX4 k_a1] [wX5 h_me q_me k_me y, wX4 h_a1 q_a1 k_a1 o_a1] := by
  refine CC_of (by decide) (Nat.le_of_ble_eq_true rfl) ?_
  intro p e s m below meth c A ls hx hb hml hr hlk hnm hown hts hX hK hP hD hA hl
  have hl : lv_has ls 4 [(0, .ref h_me), (1, .int p0), (2, .ref h_a1)] := hl
  have hown : s.vm.findClass RX5 = some m.cls := hown
  have hw : Wd dC dI A s.heap [wX5 h_me q_me k_me o_me, wX4 h_a1 q_a1 k_a1 o_a1] s.heap [] := ⟨hP, hD, va_S.rf⟩
  generalize hQz : (MQ below (QV dC dI (fun (_ : Unit) => True) (fun _ => Jn [wX5 h_me q_me k_me y, wX4 h_a1 q_a1 k_a1 o_a1]) (fun _ => Jt [tX5 k_me, tX4 k_a1]) A) ([.ref h_me, .int p0, .ref h_a1] : List Value).toArray s 0 0 A) = Qz
  clear hP hD hnm
  have bk_32_0 : ∀ (v1 : Int32) (o_me : Ob) (H : Heap) (locs : List Loc) (ls : Array Slot), bk_X5_keep_O_32 o_a1  v1 o_me = some y → Wd dC dI A s.heap [wX5 h_me q_me k_me o_me, wX4 h_a1 q_a1 k_a1 o_a1] H locs → lv_has ls 4 [(0, .ref h_me), (1, .int v1), (2, .ref h_a1)] → W p l e ({ frames := 2, cells := 0, slots := 0, locals := 82 } : Room) s m ([.ref h_me, .int p0, .ref h_a1] : List Value).toArray below meth c H locs 0 0 Qz (F0 m 32 ls []) := by
    intro v1 o_me H locs ls h hw hl
    unfold bk_X5_keep_O_32 at h
    refine lv_aload_n hx hb dX5_keep_32 rfl (lv_at hl 0 rfl) ?_
    refine fgX5_2 hx hb hts hown hK hw 0 rfl kw428 dX5_keep_33 ?_
    refine lv_aload_n hx hb dX5_keep_36 rfl (lv_at hl 0 rfl) ?_
    refine fgX5_3 hx hb hts hown hK hw 0 rfl kw429 dX5_keep_37 ?_
    refine lv_iadd hx hb dX5_keep_40 ?_
    refine lv_bipush (v := 16) hx hb dX5_keep_41 (by decide) ?_
    refine lv_irem hx hb dX5_keep_43 (by decide) ?_
    obtain ⟨x1, ex1, h⟩ := z_lt h
    refine lv_fi (v := x1) ex1.symm ?_
    refine lv_istore_n (lv' := [(3, .int x1), (0, .ref h_me), (1, .int v1), (2, .ref h_a1)]) hx hb dX5_keep_44 rfl hl (by decide) rfl (fun ls hl => ?_)
    refine lv_aload_n hx hb dX5_keep_45 rfl (lv_at hl 1 rfl) ?_
    refine fgX5_0 hx hb hts hown hK hw 0 rfl kw426 dX5_keep_46 ?_
    refine lv_iload_n hx hb dX5_keep_49 rfl (lv_at hl 0 rfl) ?_
    refine lv_iload_n hx hb dX5_keep_50 rfl (lv_at hl 2 rfl) ?_
    obtain ⟨g2, h⟩ := z_gd h
    refine fbX5_0 hx hb hK hw 0 rfl rfl g2 dX5_keep_51 (fun H locs hw => ?_)
    obtain ⟨o3, eo3, h⟩ := z_lt h
    have hw : Wd dC dI A s.heap [wX5 h_me q_me k_me o3, wX4 h_a1 q_a1 k_a1 o_a1] H locs := by rw [eo3]; exact hw
    refine lv_aload_n hx hb dX5_keep_52 rfl (lv_at hl 3 rfl) ?_
    refine lv_aload_n hx hb dX5_keep_53 rfl (lv_at hl 1 rfl) ?_
    refine fgX5_1 hx hb hts hown hK hw 0 rfl kw427 dX5_keep_54 ?_
    refine lv_iload_n hx hb dX5_keep_57 rfl (lv_at hl 0 rfl) ?_
    refine lv_bipush (v := 17) hx hb dX5_keep_58 (by decide) ?_
    refine lv_imul hx hb dX5_keep_60 ?_
    obtain ⟨z4, ez4, h⟩ := z_bd h
    refine xj_v (xrV (As := [.ref (q_me 1), .int (x1 * (17 : Int32))]) (rest := []) ⟨hx, hb, hml, hown, hts⟩ (m_X4_writeTo_AX5_1 l dC dI _ h_a1 h_me q_a1 k_a1 q_me k_me o_a1 o3 (x1 * (17 : Int32)) z4 ez4) kw862 kw859 kw860 kw861 kw116 hd_X4_writeTo ⟨rfl, rfl⟩ rfl rfl ⟨rfl, rfl⟩ hX hK hw [1, 0] (by decide) rfl rfl rfl rfl rfl hl.1 rfl rfl dX5_keep_61) hw hA [1, 0] (by decide) rfl rfl (fun H locs hw => ?_)
    have hw : Wd dC dI A s.heap [wX5 h_me q_me k_me z4, wX4 h_a1 q_a1 k_a1 o_a1] H locs := hw
    refine lv_aload_n hx hb dX5_keep_64 rfl (lv_at hl 1 rfl) ?_
    refine lv_dup hx hb dX5_keep_65 rfl ?_
    refine fgX5_3 hx hb hts hown hK hw 0 rfl kw429 dX5_keep_66 ?_
    refine lv_iconst (v := 1) hx hb dX5_keep_69 (by decide) ?_
    refine lv_iadd hx hb dX5_keep_70 ?_
    refine fpX5_3 hx hb hts hown hK hw 0 rfl kw429 dX5_keep_71 (fun H locs hw => ?_)
    obtain ⟨o5, eo5, h⟩ := z_lt h
    have hw : Wd dC dI A s.heap [wX5 h_me q_me k_me o5, wX4 h_a1 q_a1 k_a1 o_a1] H locs := by rw [eo5]; exact hw
    have hy := Option.some.inj h
    rw [← hQz, ← hy]
    exact xr_v hx hb hr hlk hK hw dX5_keep_74
  unfold f_X5_keep_O at h
  refine lv_aload_n hx hb dX5_keep_0 rfl (lv_at hl 0 rfl) ?_
  refine fgX5_3 hx hb hts hown hK hw 0 rfl kw429 dX5_keep_1 ?_
  refine lv_bipush (v := 16) hx hb dX5_keep_4 (by decide) ?_
  refine lv_icmp_ne (tgt := 32) hx hb dX5_keep_6 (by decide) (fun c => ?_) (fun c => ?_)
  · have h := z_f h c
    exact bk_32_0  p0 o_me _ _ _ h hw (lv_sub hl [0, 1, 2] rfl)
  · have h := z_t h c
    refine lv_aload_n hx hb dX5_keep_9 rfl (lv_at hl 0 rfl) ?_
    refine lv_aload_n hx hb dX5_keep_10 rfl (lv_at hl 0 rfl) ?_
    refine fgX5_2 hx hb hts hown hK hw 0 rfl kw428 dX5_keep_11 ?_
    refine lv_iconst (v := 1) hx hb dX5_keep_14 (by decide) ?_
    refine lv_iadd hx hb dX5_keep_15 ?_
    refine lv_bipush (v := 16) hx hb dX5_keep_16 (by decide) ?_
    refine lv_irem hx hb dX5_keep_18 (by decide) ?_
    refine fpX5_2 hx hb hts hown hK hw 0 rfl kw428 dX5_keep_19 (fun H locs hw => ?_)
    obtain ⟨o6, eo6, h⟩ := z_lt h
    have hw : Wd dC dI A s.heap [wX5 h_me q_me k_me o6, wX4 h_a1 q_a1 k_a1 o_a1] H locs := by rw [eo6]; exact hw
    refine lv_aload_n hx hb dX5_keep_22 rfl (lv_at hl 0 rfl) ?_
    refine lv_dup hx hb dX5_keep_23 rfl ?_
    refine fgX5_3 hx hb hts hown hK hw 0 rfl kw429 dX5_keep_24 ?_
    refine lv_iconst (v := 1) hx hb dX5_keep_27 (by decide) ?_
    refine lv_isub hx hb dX5_keep_28 ?_
    refine fpX5_3 hx hb hts hown hK hw 0 rfl kw429 dX5_keep_29 (fun H locs hw => ?_)
    obtain ⟨o7, eo7, h⟩ := z_lt h
    have hw : Wd dC dI A s.heap [wX5 h_me q_me k_me o7, wX4 h_a1 q_a1 k_a1 o_a1] H locs := by rw [eo7]; exact hw
    exact bk_32_0  p0 o7 _ _ _ h hw (lv_sub hl [0, 1, 2] rfl)

def bk_X1_moved_O_142 (o_me_isles : Ob) (o_pool : List CR)  (v1 : Int32) (v2 : Int32) (o_me : Ob) (o_me_isles_now : Ob) (o_me_machine : Ob) (o_a2 : Ob) : Option (Int32 × Ob × Ob × Ob × Ob) :=
  if v1 = (0 : Int32) then
  ((f_X1_heldRace o_me o_me_isles o_me_isles_now o_me_machine o_pool v2).bind fun z4 =>
  some (z4.1, o_me, z4.2.1, z4.2.2, o_a2))
  else
  (if v1 = (1 : Int32) then
  ((f_X1_changedEntry o_me o_me_isles o_me_isles_now v2).bind fun z5 =>
  some (z5.1, o_me, z5.2, o_me_machine, o_a2))
  else
  (if v1 = (2 : Int32) then
  ((f_X1_takenGap o_me o_me_isles o_me_isles_now v2).bind fun z6 =>
  some (z6.1, o_me, z6.2, o_me_machine, o_a2))
  else
  ((f_X1_passedYear o_me o_me_isles o_me_isles_now o_me_machine o_pool).bind fun z7 =>
  some (z7.1, o_me, z7.2.1, z7.2.2, o_a2))))
def bk_X1_moved_O_118 (o_me_isles : Ob) (o_pool : List CR)  (v1 : Int32) (v2 : Int32) (v4 : Int32) (o_me : Ob) (o_me_isles_now : Ob) (o_me_machine : Ob) (o_a2 : Ob) : Option (Int32 × Ob × Ob × Ob × Ob) :=
  if v4 = (0 : Int32) then
  ((f_X5_keep_O o_a2 o_me_isles_now v1).bind fun z2 =>
  bk_X1_moved_O_142 o_me_isles o_pool  v1 v2 o_me o_me_isles_now o_me_machine z2)
  else
  (some (v4, o_me, o_me_isles_now, o_me_machine, o_a2))
def bk_X1_moved_O_116 (o_me_isles : Ob) (o_pool : List CR)  (v1 : Int32) (v2 : Int32) (s0 : Int32) (o_me : Ob) (o_me_isles_now : Ob) (o_me_machine : Ob) (o_a2 : Ob) : Option (Int32 × Ob × Ob × Ob × Ob) :=
  bk_X1_moved_O_118 o_me_isles o_pool  v1 v2 s0 o_me o_me_isles_now o_me_machine o_a2
def bk_X1_moved_O_115 (o_me_isles : Ob) (o_pool : List CR)  (v1 : Int32) (v2 : Int32) (o_me : Ob) (o_me_isles_now : Ob) (o_me_machine : Ob) (o_a2 : Ob) : Option (Int32 × Ob × Ob × Ob × Ob) :=
  bk_X1_moved_O_116 o_me_isles o_pool  v1 v2 (0 : Int32) o_me o_me_isles_now o_me_machine o_a2
def bk_X1_moved_O_71 (o_me_isles : Ob) (o_pool : List CR)  (v1 : Int32) (v2 : Int32) (s0 : Int32) (o_me : Ob) (o_me_isles_now : Ob) (o_me_machine : Ob) (o_a2 : Ob) : Option (Int32 × Ob × Ob × Ob × Ob) :=
  bk_X1_moved_O_118 o_me_isles o_pool  v1 v2 s0 o_me o_me_isles_now o_me_machine o_a2
def bk_X1_moved_O_39 (o_me_isles : Ob) (o_pool : List CR)  (v1 : Int32) (v2 : Int32) (s0 : Int32) (o_me : Ob) (o_me_isles_now : Ob) (o_me_machine : Ob) (o_a2 : Ob) : Option (Int32 × Ob × Ob × Ob × Ob) :=
  bk_X1_moved_O_118 o_me_isles o_pool  v1 v2 s0 o_me o_me_isles_now o_me_machine o_a2
def f_X1_moved_O (o_me : Ob) (o_me_isles : Ob) (o_me_isles_now : Ob) (o_me_machine : Ob) (o_pool : List CR) (o_a2 : Ob) (p0 : Int32) (p1 : Int32) : Option (Int32 × Ob × Ob × Ob × Ob) :=
  if p0 = (0 : Int32) then
  ((f_X8_isRace p1).bind fun z8 =>
  if z8 = (0 : Int32) then
  (bk_X1_moved_O_39 o_me_isles o_pool  p0 p1 (-1 : Int32) o_me o_me_isles_now o_me_machine o_a2)
  else
  ((f_X2_lawInForce o_me_isles).bind fun z9 =>
  (f_X1_lineUp_Q o_me o_me_isles o_me_isles_now o_me_machine o_pool z9 p1).bind fun z10 =>
  if z10.1 = (0 : Int32) then
  (bk_X1_moved_O_39 o_me_isles o_pool  p0 p1 (-3 : Int32) z10.2.1 o_me_isles_now z10.2.2 o_a2)
  else
  (bk_X1_moved_O_39 o_me_isles o_pool  p0 p1 (0 : Int32) z10.2.1 o_me_isles_now z10.2.2 o_a2)))
  else
  (if p0 = (3 : Int32) then
  (if (gI o_me_isles_now 4) < (999 : Int32) then
  (bk_X1_moved_O_71 o_me_isles o_pool  p0 p1 (0 : Int32) o_me o_me_isles_now o_me_machine o_a2)
  else
  (bk_X1_moved_O_71 o_me_isles o_pool  p0 p1 (-3 : Int32) o_me o_me_isles_now o_me_machine o_a2))
  else
  ((f_X2_isPerson o_me_isles p1).bind fun z1 =>
  if z1 = (0 : Int32) then
  (bk_X1_moved_O_116 o_me_isles o_pool  p0 p1 (-2 : Int32) o_me o_me_isles_now o_me_machine o_a2)
  else
  (if p0 = (2 : Int32) then
  (if (gI o_me_isles_now 3) = (0 : Int32) then
  (bk_X1_moved_O_116 o_me_isles o_pool  p0 p1 (-3 : Int32) o_me o_me_isles_now o_me_machine o_a2)
  else
  (bk_X1_moved_O_115 o_me_isles o_pool  p0 p1 o_me o_me_isles_now o_me_machine o_a2))
  else
  (bk_X1_moved_O_115 o_me_isles o_pool  p0 p1 o_me o_me_isles_now o_me_machine o_a2))))
set_option maxHeartbeats 4000000 in
set_option maxRecDepth 100000 in
theorem m_X1_moved_O (l : Launch) (dC : Nat → ClassId) (dI : Nat → Nat → Nat) (sz : Nat) (h_me : Nat) (h_me_isles : Nat) (h_me_machine : Nat) (h_me_isles_now : Nat) (h_a2 : Nat) (q_me : Nat → Nat) (k_me : Nat → ClassId) (q_me_isles : Nat → Nat) (k_me_isles : Nat → ClassId) (q_me_isles_now : Nat → Nat) (k_me_isles_now : Nat → ClassId) (q_me_machine : Nat → Nat) (k_me_machine : Nat → ClassId) (q_a2 : Nat → Nat) (k_a2 : Nat → ClassId) (o_me : Ob) (o_me_isles : Ob) (o_me_isles_now : Ob) (o_me_machine : Ob) (o_pool : List CR) (o_a2 : Ob) (p0 : Int32) (p1 : Int32) (y : Int32 × Ob × Ob × Ob × Ob) (h : f_X1_moved_O o_me o_me_isles o_me_isles_now o_me_machine o_pool o_a2 p0 p1 = some y) : CI l yX1_moved cX1_moved 5 (some .int) ({ frames := 5, cells := 0, slots := 0, locals := 139 } : Room) dC dI sz [.ref h_me, .int p0, .int p1, .ref h_a2] [wX1 h_me h_me_isles h_me_machine q_me k_me o_me, wX2 h_me_isles h_me_isles_now q_me_isles k_me_isles o_me_isles, wX4 h_me_isles_now q_me_isles_now k_me_isles_now o_me_isles_now, wX3 h_me_machine q_me_machine k_me_machine o_me_machine, wPL o_pool, wX5 h_a2 q_a2 k_a2 o_a2] [tX1 k_me, tX2 k_me_isles, tX4 k_me_isles_now, tX3 k_me_machine, tPL o_pool, tX5 k_a2] y.1 [wX1 h_me h_me_isles h_me_machine q_me k_me y.2.1, wX2 h_me_isles h_me_isles_now q_me_isles k_me_isles o_me_isles, wX4 h_me_isles_now q_me_isles_now k_me_isles_now y.2.2.1, wX3 h_me_machine q_me_machine k_me_machine y.2.2.2.1, wPL o_pool, wX5 h_a2 q_a2 k_a2 y.2.2.2.2] := by
  refine CC_of (by decide) (Nat.le_of_ble_eq_true rfl) ?_
  intro p e s m below meth c A ls hx hb hml hr hlk hnm hown hts hX hK hP hD hA hl
  have hl : lv_has ls 5 [(0, .ref h_me), (1, .int p0), (2, .int p1), (3, .ref h_a2)] := hl
  have hown : s.vm.findClass RX1 = some m.cls := hown
  have hw : Wd dC dI A s.heap [wX1 h_me h_me_isles h_me_machine q_me k_me o_me, wX2 h_me_isles h_me_isles_now q_me_isles k_me_isles o_me_isles, wX4 h_me_isles_now q_me_isles_now k_me_isles_now o_me_isles_now, wX3 h_me_machine q_me_machine k_me_machine o_me_machine, wPL o_pool, wX5 h_a2 q_a2 k_a2 o_a2] s.heap [] := ⟨hP, hD, va_S.rf⟩
  generalize hQz : (MQ below (QI dC dI (fun r (_ : Unit) => r = y.1) (fun _ => Jn [wX1 h_me h_me_isles h_me_machine q_me k_me y.2.1, wX2 h_me_isles h_me_isles_now q_me_isles k_me_isles o_me_isles, wX4 h_me_isles_now q_me_isles_now k_me_isles_now y.2.2.1, wX3 h_me_machine q_me_machine k_me_machine y.2.2.2.1, wPL o_pool, wX5 h_a2 q_a2 k_a2 y.2.2.2.2]) (fun _ => Jt [tX1 k_me, tX2 k_me_isles, tX4 k_me_isles_now, tX3 k_me_machine, tPL o_pool, tX5 k_a2]) A) ([.ref h_me, .int p0, .int p1, .ref h_a2] : List Value).toArray s 0 0 A) = Qz
  clear hP hD hnm
  have bk_142_3 : ∀ (v1 : Int32) (v2 : Int32) (o_me : Ob) (o_me_isles_now : Ob) (o_me_machine : Ob) (o_a2 : Ob) (H : Heap) (locs : List Loc) (ls : Array Slot), bk_X1_moved_O_142 o_me_isles o_pool  v1 v2 o_me o_me_isles_now o_me_machine o_a2 = some y → Wd dC dI A s.heap [wX1 h_me h_me_isles h_me_machine q_me k_me o_me, wX2 h_me_isles h_me_isles_now q_me_isles k_me_isles o_me_isles, wX4 h_me_isles_now q_me_isles_now k_me_isles_now o_me_isles_now, wX3 h_me_machine q_me_machine k_me_machine o_me_machine, wPL o_pool, wX5 h_a2 q_a2 k_a2 o_a2] H locs → lv_has ls 5 [(0, .ref h_me), (1, .int v1), (2, .int v2)] → W p l e ({ frames := 5, cells := 0, slots := 0, locals := 139 } : Room) s m ([.ref h_me, .int p0, .int p1, .ref h_a2] : List Value).toArray below meth c H locs 0 0 Qz (F0 m 142 ls []) := by
    intro v1 v2 o_me o_me_isles_now o_me_machine o_a2 H locs ls h hw hl
    unfold bk_X1_moved_O_142 at h
    refine lv_iload_n hx hb dX1_moved_142 rfl (lv_at hl 1 rfl) ?_
    rcases (show v1.toInt = 0 ∨ v1.toInt = 1 ∨ v1.toInt = 2 ∨ (v1.toInt < 0 ∨ 2 < v1.toInt) by omega) with c3 | c3 | c3 | c3
    · skip
      have ec3 : v1 = (0 : Int32) := Int32.toInt_inj.mp (c3.trans (by decide))
      have h := z_t h ec3
      refine lv_fi (v := 0) ec3 ?_
      refine lv_tableIn (tgt := 168) hx hb dX1_moved_143 (by decide) (by decide) rfl (by decide) ?_
      refine lv_aload_n hx hb dX1_moved_168 rfl (lv_at hl 0 rfl) ?_
      refine lv_iload_n hx hb dX1_moved_169 rfl (lv_at hl 2 rfl) ?_
      obtain ⟨z4, ez4, h⟩ := z_bd h
      refine xj_i (xrV (As := [.int v2]) (rest := []) ⟨hx, hb, hml, hown, hts⟩ (m_X1_heldRace l dC dI _ h_me h_me_isles h_me_machine h_me_isles_now q_me k_me q_me_isles k_me_isles q_me_isles_now k_me_isles_now q_me_machine k_me_machine o_me o_me_isles o_me_isles_now o_me_machine o_pool v2 z4 ez4) kw866 kw863 kw865 kw20 kw117 hd_X1_heldRace ⟨rfl, rfl⟩ rfl rfl ⟨rfl, rfl⟩ hX hK hw [0, 1, 2, 3, 4] (by decide) rfl rfl rfl rfl rfl hl.1 rfl rfl dX1_moved_170) hw hA [0, 1, 2, 3, 4] (by decide) rfl rfl (fun H locs hw => ?_)
      have hw : Wd dC dI A s.heap [wX1 h_me h_me_isles h_me_machine q_me k_me o_me, wX2 h_me_isles h_me_isles_now q_me_isles k_me_isles o_me_isles, wX4 h_me_isles_now q_me_isles_now k_me_isles_now z4.2.1, wX3 h_me_machine q_me_machine k_me_machine z4.2.2, wPL o_pool, wX5 h_a2 q_a2 k_a2 o_a2] H locs := hw
      have hy := Option.some.inj h
      rw [← hQz, ← hy]
      exact xr_i (v := z4.1) hx hb hr rfl hlk hK hw dX1_moved_173
    · skip
      have h := z_f h (fun e9 => by rw [e9] at c3; revert c3; decide)
      have ec3 : v1 = (1 : Int32) := Int32.toInt_inj.mp (c3.trans (by decide))
      have h := z_t h ec3
      refine lv_fi (v := 1) ec3 ?_
      refine lv_tableIn (tgt := 174) hx hb dX1_moved_143 (by decide) (by decide) rfl (by decide) ?_
      refine lv_aload_n hx hb dX1_moved_174 rfl (lv_at hl 0 rfl) ?_
      refine lv_iload_n hx hb dX1_moved_175 rfl (lv_at hl 2 rfl) ?_
      obtain ⟨z5, ez5, h⟩ := z_bd h
      refine xj_i (xrV (As := [.int v2]) (rest := []) ⟨hx, hb, hml, hown, hts⟩ (m_X1_changedEntry l dC dI _ h_me h_me_isles h_me_machine h_me_isles_now q_me k_me q_me_isles k_me_isles q_me_isles_now k_me_isles_now o_me o_me_isles o_me_isles_now v2 z5 ez5) kw885 kw882 kw884 kw22 kw117 hd_X1_changedEntry ⟨rfl, rfl⟩ rfl rfl ⟨rfl, rfl⟩ hX hK hw [0, 1, 2] (by decide) rfl rfl rfl rfl rfl hl.1 rfl rfl dX1_moved_176) hw hA [0, 1, 2] (by decide) rfl rfl (fun H locs hw => ?_)
      have hw : Wd dC dI A s.heap [wX1 h_me h_me_isles h_me_machine q_me k_me o_me, wX2 h_me_isles h_me_isles_now q_me_isles k_me_isles o_me_isles, wX4 h_me_isles_now q_me_isles_now k_me_isles_now z5.2, wX3 h_me_machine q_me_machine k_me_machine o_me_machine, wPL o_pool, wX5 h_a2 q_a2 k_a2 o_a2] H locs := hw
      have hy := Option.some.inj h
      rw [← hQz, ← hy]
      exact xr_i (v := z5.1) hx hb hr rfl hlk hK hw dX1_moved_179
    · skip
      have h := z_f h (fun e9 => by rw [e9] at c3; revert c3; decide)
      have h := z_f h (fun e9 => by rw [e9] at c3; revert c3; decide)
      have ec3 : v1 = (2 : Int32) := Int32.toInt_inj.mp (c3.trans (by decide))
      have h := z_t h ec3
      refine lv_fi (v := 2) ec3 ?_
      refine lv_tableIn (tgt := 180) hx hb dX1_moved_143 (by decide) (by decide) rfl (by decide) ?_
      refine lv_aload_n hx hb dX1_moved_180 rfl (lv_at hl 0 rfl) ?_
      refine lv_iload_n hx hb dX1_moved_181 rfl (lv_at hl 2 rfl) ?_
      obtain ⟨z6, ez6, h⟩ := z_bd h
      refine xj_i (xrV (As := [.int v2]) (rest := []) ⟨hx, hb, hml, hown, hts⟩ (m_X1_takenGap l dC dI _ h_me h_me_isles h_me_machine h_me_isles_now q_me k_me q_me_isles k_me_isles q_me_isles_now k_me_isles_now o_me o_me_isles o_me_isles_now v2 z6 ez6) kw889 kw886 kw888 kw23 kw117 hd_X1_takenGap ⟨rfl, rfl⟩ rfl rfl ⟨rfl, rfl⟩ hX hK hw [0, 1, 2] (by decide) rfl rfl rfl rfl rfl hl.1 rfl rfl dX1_moved_182) hw hA [0, 1, 2] (by decide) rfl rfl (fun H locs hw => ?_)
      have hw : Wd dC dI A s.heap [wX1 h_me h_me_isles h_me_machine q_me k_me o_me, wX2 h_me_isles h_me_isles_now q_me_isles k_me_isles o_me_isles, wX4 h_me_isles_now q_me_isles_now k_me_isles_now z6.2, wX3 h_me_machine q_me_machine k_me_machine o_me_machine, wPL o_pool, wX5 h_a2 q_a2 k_a2 o_a2] H locs := hw
      have hy := Option.some.inj h
      rw [← hQz, ← hy]
      exact xr_i (v := z6.1) hx hb hr rfl hlk hK hw dX1_moved_185
    · skip
      have h := z_f h (fun e9 => by rw [e9] at c3; revert c3; decide)
      have h := z_f h (fun e9 => by rw [e9] at c3; revert c3; decide)
      have h := z_f h (fun e9 => by rw [e9] at c3; revert c3; decide)
      refine lv_tableOut (tgt := 186) hx hb dX1_moved_143 c3 (by decide) ?_
      refine lv_aload_n hx hb dX1_moved_186 rfl (lv_at hl 0 rfl) ?_
      obtain ⟨z7, ez7, h⟩ := z_bd h
      refine xj_i (xrV (As := []) (rest := []) ⟨hx, hb, hml, hown, hts⟩ (m_X1_passedYear l dC dI _ h_me h_me_isles h_me_machine h_me_isles_now q_me k_me q_me_isles k_me_isles q_me_isles_now k_me_isles_now q_me_machine k_me_machine o_me o_me_isles o_me_isles_now o_me_machine o_pool z7 ez7) kw893 kw890 kw892 kw24 kw117 hd_X1_passedYear ⟨rfl, rfl⟩ rfl rfl ⟨rfl, rfl⟩ hX hK hw [0, 1, 2, 3, 4] (by decide) rfl rfl rfl rfl rfl hl.1 rfl rfl dX1_moved_187) hw hA [0, 1, 2, 3, 4] (by decide) rfl rfl (fun H locs hw => ?_)
      have hw : Wd dC dI A s.heap [wX1 h_me h_me_isles h_me_machine q_me k_me o_me, wX2 h_me_isles h_me_isles_now q_me_isles k_me_isles o_me_isles, wX4 h_me_isles_now q_me_isles_now k_me_isles_now z7.2.1, wX3 h_me_machine q_me_machine k_me_machine z7.2.2, wPL o_pool, wX5 h_a2 q_a2 k_a2 o_a2] H locs := hw
      have hy := Option.some.inj h
      rw [← hQz, ← hy]
      exact xr_i (v := z7.1) hx hb hr rfl hlk hK hw dX1_moved_190
  have bk_118_2 : ∀ (v1 : Int32) (v2 : Int32) (v4 : Int32) (o_me : Ob) (o_me_isles_now : Ob) (o_me_machine : Ob) (o_a2 : Ob) (H : Heap) (locs : List Loc) (ls : Array Slot), bk_X1_moved_O_118 o_me_isles o_pool  v1 v2 v4 o_me o_me_isles_now o_me_machine o_a2 = some y → Wd dC dI A s.heap [wX1 h_me h_me_isles h_me_machine q_me k_me o_me, wX2 h_me_isles h_me_isles_now q_me_isles k_me_isles o_me_isles, wX4 h_me_isles_now q_me_isles_now k_me_isles_now o_me_isles_now, wX3 h_me_machine q_me_machine k_me_machine o_me_machine, wPL o_pool, wX5 h_a2 q_a2 k_a2 o_a2] H locs → lv_has ls 5 [(0, .ref h_me), (1, .int v1), (2, .int v2), (3, .ref h_a2), (4, .int v4)] → W p l e ({ frames := 5, cells := 0, slots := 0, locals := 139 } : Room) s m ([.ref h_me, .int p0, .int p1, .ref h_a2] : List Value).toArray below meth c H locs 0 0 Qz (F0 m 118 ls []) := by
    intro v1 v2 v4 o_me o_me_isles_now o_me_machine o_a2 H locs ls h hw hl
    unfold bk_X1_moved_O_118 at h
    refine lv_iload hx hb dX1_moved_118 (lv_at hl 4 rfl) ?_
    refine lv_if_eq (tgt := 126) hx hb dX1_moved_120 (by decide) (fun c => ?_) (fun c => ?_)
    · have h := z_t h c
      refine lv_aload_n hx hb dX1_moved_126 rfl (lv_at hl 3 rfl) ?_
      refine lv_ifnull hx hb dX1_moved_127 ?_
      refine lv_aload_n hx hb dX1_moved_130 rfl (lv_at hl 3 rfl) ?_
      refine lv_iload_n hx hb dX1_moved_131 rfl (lv_at hl 1 rfl) ?_
      refine lv_aload_n hx hb dX1_moved_132 rfl (lv_at hl 0 rfl) ?_
      refine fgX1_0 hx hb hts hown hK hw 0 rfl kw363 dX1_moved_133 ?_
      refine fgX2_0 hx hb hts hown hK hw 1 rfl kw299 dX1_moved_136 ?_
      obtain ⟨z2, ez2, h⟩ := z_bd h
      refine xj_v (xrV (As := [.int v1, .ref h_me_isles_now]) (rest := []) ⟨hx, hb, hml, hown, hts⟩ (m_X5_keep_O l dC dI _ h_a2 h_me_isles_now q_a2 k_a2 q_me_isles_now k_me_isles_now o_a2 o_me_isles_now v1 z2 ez2) kw858 kw855 kw856 kw857 kw119 hd_X5_keep ⟨rfl, rfl⟩ rfl rfl ⟨rfl, rfl⟩ hX hK hw [5, 2] (by decide) rfl rfl rfl rfl rfl hl.1 rfl rfl dX1_moved_139) hw hA [5, 2] (by decide) rfl rfl (fun H locs hw => ?_)
      have hw : Wd dC dI A s.heap [wX1 h_me h_me_isles h_me_machine q_me k_me o_me, wX2 h_me_isles h_me_isles_now q_me_isles k_me_isles o_me_isles, wX4 h_me_isles_now q_me_isles_now k_me_isles_now o_me_isles_now, wX3 h_me_machine q_me_machine k_me_machine o_me_machine, wPL o_pool, wX5 h_a2 q_a2 k_a2 z2] H locs := hw
      exact bk_142_3  v1 v2 o_me o_me_isles_now o_me_machine z2 _ _ _ h hw (lv_sub hl [0, 1, 2] rfl)
    · have h := z_f h c
      refine lv_iload hx hb dX1_moved_123 (lv_at hl 4 rfl) ?_
      have hy := Option.some.inj h
      rw [← hQz, ← hy]
      exact xr_i (v := v4) hx hb hr rfl hlk hK hw dX1_moved_125
  have bk_116_1 : ∀ (v1 : Int32) (v2 : Int32) (s0 : Int32) (o_me : Ob) (o_me_isles_now : Ob) (o_me_machine : Ob) (o_a2 : Ob) (H : Heap) (locs : List Loc) (ls : Array Slot), bk_X1_moved_O_116 o_me_isles o_pool  v1 v2 s0 o_me o_me_isles_now o_me_machine o_a2 = some y → Wd dC dI A s.heap [wX1 h_me h_me_isles h_me_machine q_me k_me o_me, wX2 h_me_isles h_me_isles_now q_me_isles k_me_isles o_me_isles, wX4 h_me_isles_now q_me_isles_now k_me_isles_now o_me_isles_now, wX3 h_me_machine q_me_machine k_me_machine o_me_machine, wPL o_pool, wX5 h_a2 q_a2 k_a2 o_a2] H locs → lv_has ls 5 [(0, .ref h_me), (1, .int v1), (2, .int v2), (3, .ref h_a2)] → W p l e ({ frames := 5, cells := 0, slots := 0, locals := 139 } : Room) s m ([.ref h_me, .int p0, .int p1, .ref h_a2] : List Value).toArray below meth c H locs 0 0 Qz (F0 m 116 ls [.int s0]) := by
    intro v1 v2 s0 o_me o_me_isles_now o_me_machine o_a2 H locs ls h hw hl
    unfold bk_X1_moved_O_116 at h
    refine lv_istore (lv' := [(4, .int s0), (0, .ref h_me), (1, .int v1), (2, .int v2), (3, .ref h_a2)]) hx hb dX1_moved_116 hl (by decide) rfl (fun ls hl => ?_)
    exact bk_118_2  v1 v2 s0 o_me o_me_isles_now o_me_machine o_a2 _ _ _ h hw (lv_sub hl [1, 2, 3, 4, 0] rfl)
  have bk_115_0 : ∀ (v1 : Int32) (v2 : Int32) (o_me : Ob) (o_me_isles_now : Ob) (o_me_machine : Ob) (o_a2 : Ob) (H : Heap) (locs : List Loc) (ls : Array Slot), bk_X1_moved_O_115 o_me_isles o_pool  v1 v2 o_me o_me_isles_now o_me_machine o_a2 = some y → Wd dC dI A s.heap [wX1 h_me h_me_isles h_me_machine q_me k_me o_me, wX2 h_me_isles h_me_isles_now q_me_isles k_me_isles o_me_isles, wX4 h_me_isles_now q_me_isles_now k_me_isles_now o_me_isles_now, wX3 h_me_machine q_me_machine k_me_machine o_me_machine, wPL o_pool, wX5 h_a2 q_a2 k_a2 o_a2] H locs → lv_has ls 5 [(0, .ref h_me), (1, .int v1), (2, .int v2), (3, .ref h_a2)] → W p l e ({ frames := 5, cells := 0, slots := 0, locals := 139 } : Room) s m ([.ref h_me, .int p0, .int p1, .ref h_a2] : List Value).toArray below meth c H locs 0 0 Qz (F0 m 115 ls []) := by
    intro v1 v2 o_me o_me_isles_now o_me_machine o_a2 H locs ls h hw hl
    unfold bk_X1_moved_O_115 at h
    refine lv_iconst (v := 0) hx hb dX1_moved_115 (by decide) ?_
    exact bk_116_1  v1 v2 (0 : Int32) o_me o_me_isles_now o_me_machine o_a2 _ _ _ h hw (lv_sub hl [0, 1, 2, 3] rfl)
  have bk_71_4 : ∀ (v1 : Int32) (v2 : Int32) (s0 : Int32) (o_me : Ob) (o_me_isles_now : Ob) (o_me_machine : Ob) (o_a2 : Ob) (H : Heap) (locs : List Loc) (ls : Array Slot), bk_X1_moved_O_71 o_me_isles o_pool  v1 v2 s0 o_me o_me_isles_now o_me_machine o_a2 = some y → Wd dC dI A s.heap [wX1 h_me h_me_isles h_me_machine q_me k_me o_me, wX2 h_me_isles h_me_isles_now q_me_isles k_me_isles o_me_isles, wX4 h_me_isles_now q_me_isles_now k_me_isles_now o_me_isles_now, wX3 h_me_machine q_me_machine k_me_machine o_me_machine, wPL o_pool, wX5 h_a2 q_a2 k_a2 o_a2] H locs → lv_has ls 5 [(0, .ref h_me), (1, .int v1), (2, .int v2), (3, .ref h_a2)] → W p l e ({ frames := 5, cells := 0, slots := 0, locals := 139 } : Room) s m ([.ref h_me, .int p0, .int p1, .ref h_a2] : List Value).toArray below meth c H locs 0 0 Qz (F0 m 71 ls [.int s0]) := by
    intro v1 v2 s0 o_me o_me_isles_now o_me_machine o_a2 H locs ls h hw hl
    unfold bk_X1_moved_O_71 at h
    refine lv_istore (lv' := [(4, .int s0), (0, .ref h_me), (1, .int v1), (2, .int v2), (3, .ref h_a2)]) hx hb dX1_moved_71 hl (by decide) rfl (fun ls hl => ?_)
    refine lv_goto (tgt := 118) hx hb dX1_moved_73 (by decide) ?_
    exact bk_118_2  v1 v2 s0 o_me o_me_isles_now o_me_machine o_a2 _ _ _ h hw (lv_sub hl [1, 2, 3, 4, 0] rfl)
  have bk_39_5 : ∀ (v1 : Int32) (v2 : Int32) (s0 : Int32) (o_me : Ob) (o_me_isles_now : Ob) (o_me_machine : Ob) (o_a2 : Ob) (H : Heap) (locs : List Loc) (ls : Array Slot), bk_X1_moved_O_39 o_me_isles o_pool  v1 v2 s0 o_me o_me_isles_now o_me_machine o_a2 = some y → Wd dC dI A s.heap [wX1 h_me h_me_isles h_me_machine q_me k_me o_me, wX2 h_me_isles h_me_isles_now q_me_isles k_me_isles o_me_isles, wX4 h_me_isles_now q_me_isles_now k_me_isles_now o_me_isles_now, wX3 h_me_machine q_me_machine k_me_machine o_me_machine, wPL o_pool, wX5 h_a2 q_a2 k_a2 o_a2] H locs → lv_has ls 5 [(0, .ref h_me), (1, .int v1), (2, .int v2), (3, .ref h_a2)] → W p l e ({ frames := 5, cells := 0, slots := 0, locals := 139 } : Room) s m ([.ref h_me, .int p0, .int p1, .ref h_a2] : List Value).toArray below meth c H locs 0 0 Qz (F0 m 39 ls [.int s0]) := by
    intro v1 v2 s0 o_me o_me_isles_now o_me_machine o_a2 H locs ls h hw hl
    unfold bk_X1_moved_O_39 at h
    refine lv_istore (lv' := [(4, .int s0), (0, .ref h_me), (1, .int v1), (2, .int v2), (3, .ref h_a2)]) hx hb dX1_moved_39 hl (by decide) rfl (fun ls hl => ?_)
    refine lv_goto (tgt := 118) hx hb dX1_moved_41 (by decide) ?_
    exact bk_118_2  v1 v2 s0 o_me o_me_isles_now o_me_machine o_a2 _ _ _ h hw (lv_sub hl [1, 2, 3, 4, 0] rfl)
  unfold f_X1_moved_O at h
  refine lv_iconst (v := 0) hx hb dX1_moved_0 (by decide) ?_
  refine lv_istore (lv' := [(4, .int (0 : Int32)), (0, .ref h_me), (1, .int p0), (2, .int p1), (3, .ref h_a2)]) hx hb dX1_moved_1 hl (by decide) rfl (fun ls hl => ?_)
  refine lv_iload_n hx hb dX1_moved_3 rfl (lv_at hl 2 rfl) ?_
  refine lv_if_ne (tgt := 44) hx hb dX1_moved_4 (by decide) (fun c => ?_) (fun c => ?_)
  · have h := z_f h c
    refine lv_iload_n hx hb dX1_moved_44 rfl (lv_at hl 2 rfl) ?_
    refine lv_iconst (v := 3) hx hb dX1_moved_45 (by decide) ?_
    refine lv_icmp_ne (tgt := 76) hx hb dX1_moved_46 (by decide) (fun c => ?_) (fun c => ?_)
    · have h := z_f h c
      refine lv_aload_n hx hb dX1_moved_76 rfl (lv_at hl 1 rfl) ?_
      refine fgX1_0 hx hb hts hown hK hw 0 rfl kw363 dX1_moved_77 ?_
      refine lv_iload_n hx hb dX1_moved_80 rfl (lv_at hl 3 rfl) ?_
      obtain ⟨z1, ez1, h⟩ := z_bd h
      refine xj_i (xrV (As := [.int p1]) (rest := []) ⟨hx, hb, hml, hown, hts⟩ (m_X2_isPerson l dC dI _ h_me_isles h_me_isles_now q_me_isles k_me_isles o_me_isles p1 z1 ez1) kw504 kw548 kw502 kw503 kw115 hd_X2_isPerson ⟨rfl, rfl⟩ rfl rfl ⟨rfl, rfl⟩ hX hK hw [1] (by decide) rfl rfl rfl rfl rfl hl.1 rfl rfl dX1_moved_81) hw hA [1] (by decide) rfl rfl (fun H locs hw => ?_)
      have hw : Wd dC dI A s.heap [wX1 h_me h_me_isles h_me_machine q_me k_me o_me, wX2 h_me_isles h_me_isles_now q_me_isles k_me_isles o_me_isles, wX4 h_me_isles_now q_me_isles_now k_me_isles_now o_me_isles_now, wX3 h_me_machine q_me_machine k_me_machine o_me_machine, wPL o_pool, wX5 h_a2 q_a2 k_a2 o_a2] H locs := hw
      refine lv_if_ne (tgt := 92) hx hb dX1_moved_84 (by decide) (fun c => ?_) (fun c => ?_)
      · have h := z_f h c
        refine lv_iload_n hx hb dX1_moved_92 rfl (lv_at hl 2 rfl) ?_
        refine lv_iconst (v := 2) hx hb dX1_moved_93 (by decide) ?_
        refine lv_icmp_ne (tgt := 115) hx hb dX1_moved_94 (by decide) (fun c => ?_) (fun c => ?_)
        · have h := z_f h c
          exact bk_115_0  p0 p1 o_me o_me_isles_now o_me_machine o_a2 _ _ _ h hw (lv_sub hl [1, 2, 3, 4] rfl)
        · have h := z_t h c
          refine lv_aload_n hx hb dX1_moved_97 rfl (lv_at hl 1 rfl) ?_
          refine fgX1_0 hx hb hts hown hK hw 0 rfl kw363 dX1_moved_98 ?_
          refine fgX2_0 hx hb hts hown hK hw 1 rfl kw299 dX1_moved_101 ?_
          refine fgX4_3 hx hb hts hown hK hw 2 rfl kw275 dX1_moved_104 ?_
          refine lv_if_ne (tgt := 115) hx hb dX1_moved_107 (by decide) (fun c => ?_) (fun c => ?_)
          · have h := z_f h c
            exact bk_115_0  p0 p1 o_me o_me_isles_now o_me_machine o_a2 _ _ _ h hw (lv_sub hl [1, 2, 3, 4] rfl)
          · have h := z_t h c
            refine lv_bipush (v := (-3)) hx hb dX1_moved_110 (by decide) ?_
            refine lv_goto (tgt := 116) hx hb dX1_moved_112 (by decide) ?_
            exact bk_116_1  p0 p1 (-3 : Int32) o_me o_me_isles_now o_me_machine o_a2 _ _ _ h hw (lv_sub hl [1, 2, 3, 4] rfl)
      · have h := z_t h c
        refine lv_bipush (v := (-2)) hx hb dX1_moved_87 (by decide) ?_
        refine lv_goto (tgt := 116) hx hb dX1_moved_89 (by decide) ?_
        exact bk_116_1  p0 p1 (-2 : Int32) o_me o_me_isles_now o_me_machine o_a2 _ _ _ h hw (lv_sub hl [1, 2, 3, 4] rfl)
    · have h := z_t h c
      refine lv_aload_n hx hb dX1_moved_49 rfl (lv_at hl 1 rfl) ?_
      refine fgX1_0 hx hb hts hown hK hw 0 rfl kw363 dX1_moved_50 ?_
      refine fgX2_0 hx hb hts hown hK hw 1 rfl kw299 dX1_moved_53 ?_
      refine fgX4_4 hx hb hts hown hK hw 2 rfl kw280 dX1_moved_56 ?_
      refine lv_sipush (v := 999) hx hb dX1_moved_59 (by decide) ?_
      refine lv_icmp_lt (tgt := 70) hx hb dX1_moved_62 (by decide) (fun c => ?_) (fun c => ?_)
      · have h := z_t h c
        refine lv_iconst (v := 0) hx hb dX1_moved_70 (by decide) ?_
        exact bk_71_4  p0 p1 (0 : Int32) o_me o_me_isles_now o_me_machine o_a2 _ _ _ h hw (lv_sub hl [1, 2, 3, 4] rfl)
      · have h := z_f h c
        refine lv_bipush (v := (-3)) hx hb dX1_moved_65 (by decide) ?_
        refine lv_goto (tgt := 71) hx hb dX1_moved_67 (by decide) ?_
        exact bk_71_4  p0 p1 (-3 : Int32) o_me o_me_isles_now o_me_machine o_a2 _ _ _ h hw (lv_sub hl [1, 2, 3, 4] rfl)
  · have h := z_t h c
    refine lv_iload_n hx hb dX1_moved_7 rfl (lv_at hl 3 rfl) ?_
    obtain ⟨z8, ez8, h⟩ := z_bd h
    refine xj_i (xrSN (As := [.int p1]) (rest := []) ⟨hx, hb, hml, hown, hts⟩ (m_X8_isRace l dC dI _  p1 z8 ez8) kw527 (hX.1.2.2.2.2.2.2.1) kw526 kw110 hd_X8_isRace ⟨rfl, rfl⟩ rfl rfl ⟨rfl, rfl⟩ hX hK hw [] (by decide) rfl rfl hl.1 rfl rfl dX1_moved_8) hw hA [] (by decide) rfl rfl (fun H locs hw => ?_)
    refine lv_if_ne (tgt := 18) hx hb dX1_moved_11 (by decide) (fun c => ?_) (fun c => ?_)
    · have h := z_f h c
      refine lv_aload_n hx hb dX1_moved_18 rfl (lv_at hl 1 rfl) ?_
      refine lv_aload_n hx hb dX1_moved_19 rfl (lv_at hl 1 rfl) ?_
      refine fgX1_0 hx hb hts hown hK hw 0 rfl kw363 dX1_moved_20 ?_
      obtain ⟨z9, ez9, h⟩ := z_bd h
      refine xj_q (xrV (As := []) (rest := [.ref h_me]) ⟨hx, hb, hml, hown, hts⟩ (m_X2_lawInForce l dC dI _ h_me_isles h_me_isles_now q_me_isles k_me_isles o_me_isles z9 ez9) kw531 kw853 kw529 kw530 kw115 hd_X2_lawInForce ⟨rfl, rfl⟩ rfl rfl ⟨rfl, rfl⟩ hX hK hw [1] (by decide) rfl rfl rfl rfl rfl hl.1 rfl rfl dX1_moved_23) hw hA [1] (by decide) rfl rfl (fun H locs hw => ?_)
      have hw : Wd dC dI A s.heap [wX1 h_me h_me_isles h_me_machine q_me k_me o_me, wX2 h_me_isles h_me_isles_now q_me_isles k_me_isles o_me_isles, wX4 h_me_isles_now q_me_isles_now k_me_isles_now o_me_isles_now, wX3 h_me_machine q_me_machine k_me_machine o_me_machine, wPL o_pool, wX5 h_a2 q_a2 k_a2 o_a2] H locs := hw
      refine lv_iload_n hx hb dX1_moved_26 rfl (lv_at hl 3 rfl) ?_
      obtain ⟨z10, ez10, h⟩ := z_bd h
      refine xj_i (xrV (As := [va_rf z9, .int p1]) (rest := []) ⟨hx, hb, hml, hown, hts⟩ (m_X1_lineUp_Q l dC dI _ h_me h_me_isles h_me_machine h_me_isles_now q_me k_me q_me_isles k_me_isles q_me_isles_now k_me_isles_now q_me_machine k_me_machine o_me o_me_isles o_me_isles_now o_me_machine o_pool z9 p1 z10 ez10) kw605 kw854 kw603 kw604 kw117 hd_X1_lineUp ⟨rfl, rfl⟩ rfl rfl ⟨rfl, rfl⟩ hX hK hw [0, 1, 2, 3, 4] (by decide) rfl rfl rfl rfl rfl hl.1 rfl rfl dX1_moved_27) hw hA [0, 1, 2, 3, 4] (by decide) rfl rfl (fun H locs hw => ?_)
      have hw : Wd dC dI A s.heap [wX1 h_me h_me_isles h_me_machine q_me k_me z10.2.1, wX2 h_me_isles h_me_isles_now q_me_isles k_me_isles o_me_isles, wX4 h_me_isles_now q_me_isles_now k_me_isles_now o_me_isles_now, wX3 h_me_machine q_me_machine k_me_machine z10.2.2, wPL o_pool, wX5 h_a2 q_a2 k_a2 o_a2] H locs := hw
      refine lv_if_ne (tgt := 38) hx hb dX1_moved_30 (by decide) (fun c => ?_) (fun c => ?_)
      · have h := z_f h c
        refine lv_iconst (v := 0) hx hb dX1_moved_38 (by decide) ?_
        exact bk_39_5  p0 p1 (0 : Int32) z10.2.1 o_me_isles_now z10.2.2 o_a2 _ _ _ h hw (lv_sub hl [1, 2, 3, 4] rfl)
      · have h := z_t h c
        refine lv_bipush (v := (-3)) hx hb dX1_moved_33 (by decide) ?_
        refine lv_goto (tgt := 39) hx hb dX1_moved_35 (by decide) ?_
        exact bk_39_5  p0 p1 (-3 : Int32) z10.2.1 o_me_isles_now z10.2.2 o_a2 _ _ _ h hw (lv_sub hl [1, 2, 3, 4] rfl)
    · have h := z_t h c
      refine lv_iconst (v := (-1)) hx hb dX1_moved_14 (by decide) ?_
      refine lv_goto (tgt := 39) hx hb dX1_moved_15 (by decide) ?_
      exact bk_39_5  p0 p1 (-1 : Int32) o_me o_me_isles_now o_me_machine o_a2 _ _ _ h hw (lv_sub hl [1, 2, 3, 4] rfl)

def f_X8_answer (o_me : Ob) (p0 : Int32) : Option (Int32 × Ob) :=
  if (0 : Int32) ≤ p0 then
  ((f_X8_grant o_me p0).bind fun z1 =>
  some (z1.1, z1.2))
  else
  ((f_X8_refuse o_me p0).bind fun z2 =>
  some (z2.1, z2.2))
set_option maxHeartbeats 4000000 in
set_option maxRecDepth 100000 in
theorem m_X8_answer (l : Launch) (dC : Nat → ClassId) (dI : Nat → Nat → Nat) (sz : Nat) (h_me : Nat) (h_me_reader : Nat) (h_me_machine : Nat) (h_me_isles : Nat) (h_me_court : Nat) (h_me_study : Nat) (h_me_paper : Nat) (h_me_paperCourt : Nat) (h_me_past : Nat) (h_me_pastAhead : Nat) (h_me_movingAhead : Nat) (q_me : Nat → Nat) (k_me : Nat → ClassId) (o_me : Ob) (p0 : Int32) (y : Int32 × Ob) (h : f_X8_answer o_me p0 = some y) : CI l yX8_answer cX8_answer 2 (some .int) ({ frames := 1, cells := 0, slots := 0, locals := 21 } : Room) dC dI sz [.ref h_me, .int p0] [wX8 h_me h_me_reader h_me_machine h_me_isles h_me_court h_me_study h_me_paper h_me_paperCourt h_me_past h_me_pastAhead h_me_movingAhead q_me k_me o_me] [tX8 k_me] y.1 [wX8 h_me h_me_reader h_me_machine h_me_isles h_me_court h_me_study h_me_paper h_me_paperCourt h_me_past h_me_pastAhead h_me_movingAhead q_me k_me y.2] := by
  refine CC_of (by decide) (Nat.le_of_ble_eq_true rfl) ?_
  intro p e s m below meth c A ls hx hb hml hr hlk hnm hown hts hX hK hP hD hA hl
  have hl : lv_has ls 2 [(0, .ref h_me), (1, .int p0)] := hl
  have hown : s.vm.findClass RX8 = some m.cls := hown
  have hw : Wd dC dI A s.heap [wX8 h_me h_me_reader h_me_machine h_me_isles h_me_court h_me_study h_me_paper h_me_paperCourt h_me_past h_me_pastAhead h_me_movingAhead q_me k_me o_me] s.heap [] := ⟨hP, hD, va_S.rf⟩
  generalize hQz : (MQ below (QI dC dI (fun r (_ : Unit) => r = y.1) (fun _ => Jn [wX8 h_me h_me_reader h_me_machine h_me_isles h_me_court h_me_study h_me_paper h_me_paperCourt h_me_past h_me_pastAhead h_me_movingAhead q_me k_me y.2]) (fun _ => Jt [tX8 k_me]) A) ([.ref h_me, .int p0] : List Value).toArray s 0 0 A) = Qz
  clear hP hD hnm
  unfold f_X8_answer at h
  refine lv_iload_n hx hb dX8_answer_0 rfl (lv_at hl 1 rfl) ?_
  refine lv_if_ge (tgt := 12) hx hb dX8_answer_1 (by decide) (fun c => ?_) (fun c => ?_)
  · have h := z_t h c
    refine lv_aload_n hx hb dX8_answer_12 rfl (lv_at hl 0 rfl) ?_
    refine lv_iload_n hx hb dX8_answer_13 rfl (lv_at hl 1 rfl) ?_
    obtain ⟨z1, ez1, h⟩ := z_bd h
    refine xj_i (xrV (As := [.int p0]) (rest := []) ⟨hx, hb, hml, hown, hts⟩ (m_X8_grant l dC dI _ h_me h_me_reader h_me_machine h_me_isles h_me_court h_me_study h_me_paper h_me_paperCourt h_me_past h_me_pastAhead h_me_movingAhead q_me k_me o_me p0 z1 ez1) kw520 kw517 kw519 kw1 kw110 hd_X8_grant ⟨rfl, rfl⟩ rfl rfl ⟨rfl, rfl⟩ hX hK hw [0] (by decide) rfl rfl rfl rfl rfl hl.1 rfl rfl dX8_answer_14) hw hA [0] (by decide) rfl rfl (fun H locs hw => ?_)
    have hw : Wd dC dI A s.heap [wX8 h_me h_me_reader h_me_machine h_me_isles h_me_court h_me_study h_me_paper h_me_paperCourt h_me_past h_me_pastAhead h_me_movingAhead q_me k_me z1.2] H locs := hw
    have hy := Option.some.inj h
    rw [← hQz, ← hy]
    exact xr_i (v := z1.1) hx hb hr rfl hlk hK hw dX8_answer_17
  · have h := z_f h c
    refine lv_aload_n hx hb dX8_answer_4 rfl (lv_at hl 0 rfl) ?_
    refine lv_iload_n hx hb dX8_answer_5 rfl (lv_at hl 1 rfl) ?_
    obtain ⟨z2, ez2, h⟩ := z_bd h
    refine xj_i (xrV (As := [.int p0]) (rest := []) ⟨hx, hb, hml, hown, hts⟩ (m_X8_refuse l dC dI _ h_me h_me_reader h_me_machine h_me_isles h_me_court h_me_study h_me_paper h_me_paperCourt h_me_past h_me_pastAhead h_me_movingAhead q_me k_me o_me p0 z2 ez2) kw508 kw505 kw507 kw0 kw110 hd_X8_refuse ⟨rfl, rfl⟩ rfl rfl ⟨rfl, rfl⟩ hX hK hw [0] (by decide) rfl rfl rfl rfl rfl hl.1 rfl rfl dX8_answer_6) hw hA [0] (by decide) rfl rfl (fun H locs hw => ?_)
    have hw : Wd dC dI A s.heap [wX8 h_me h_me_reader h_me_machine h_me_isles h_me_court h_me_study h_me_paper h_me_paperCourt h_me_past h_me_pastAhead h_me_movingAhead q_me k_me z2.2] H locs := hw
    refine lv_goto (tgt := 17) hx hb dX8_answer_9 (by decide) ?_
    have hy := Option.some.inj h
    rw [← hQz, ← hy]
    exact xr_i (v := z2.1) hx hb hr rfl hlk hK hw dX8_answer_17

def f_X8_enter (o_me : Ob) (o_me_machine : Ob) (o_me_isles : Ob) (o_me_isles_now : Ob) (o_me_court : Ob) (o_me_past : Ob) (o_pool : List CR) (p0 : Int32) : Option (Int32 × Ob × Ob × Ob × Ob × Ob) :=
  (f_X1_moved_O o_me_court o_me_isles o_me_isles_now o_me_machine o_pool o_me_past (1 : Int32) p0).bind fun z1 =>
  (f_X8_answer o_me z1.1).bind fun z2 =>
  some (z2.1, z2.2, z1.2.2.2.1, z1.2.2.1, z1.2.1, z1.2.2.2.2)
set_option maxHeartbeats 4000000 in
set_option maxRecDepth 100000 in
theorem m_X8_enter (l : Launch) (dC : Nat → ClassId) (dI : Nat → Nat → Nat) (sz : Nat) (h_me : Nat) (h_me_reader : Nat) (h_me_machine : Nat) (h_me_isles : Nat) (h_me_court : Nat) (h_me_study : Nat) (h_me_paper : Nat) (h_me_paperCourt : Nat) (h_me_past : Nat) (h_me_pastAhead : Nat) (h_me_movingAhead : Nat) (h_me_isles_now : Nat) (q_me : Nat → Nat) (k_me : Nat → ClassId) (q_me_machine : Nat → Nat) (k_me_machine : Nat → ClassId) (q_me_isles : Nat → Nat) (k_me_isles : Nat → ClassId) (q_me_isles_now : Nat → Nat) (k_me_isles_now : Nat → ClassId) (q_me_court : Nat → Nat) (k_me_court : Nat → ClassId) (q_me_past : Nat → Nat) (k_me_past : Nat → ClassId) (o_me : Ob) (o_me_machine : Ob) (o_me_isles : Ob) (o_me_isles_now : Ob) (o_me_court : Ob) (o_me_past : Ob) (o_pool : List CR) (p0 : Int32) (y : Int32 × Ob × Ob × Ob × Ob × Ob) (h : f_X8_enter o_me o_me_machine o_me_isles o_me_isles_now o_me_court o_me_past o_pool p0 = some y) : CI l yX8_enter cX8_enter 2 (some .int) ({ frames := 6, cells := 0, slots := 0, locals := 163 } : Room) dC dI sz [.ref h_me, .int p0] [wX8 h_me h_me_reader h_me_machine h_me_isles h_me_court h_me_study h_me_paper h_me_paperCourt h_me_past h_me_pastAhead h_me_movingAhead q_me k_me o_me, wX3 h_me_machine q_me_machine k_me_machine o_me_machine, wX2 h_me_isles h_me_isles_now q_me_isles k_me_isles o_me_isles, wX4 h_me_isles_now q_me_isles_now k_me_isles_now o_me_isles_now, wX1 h_me_court h_me_isles h_me_machine q_me_court k_me_court o_me_court, wX5 h_me_past q_me_past k_me_past o_me_past, wPL o_pool] [tX8 k_me, tX3 k_me_machine, tX2 k_me_isles, tX4 k_me_isles_now, tX1 k_me_court, tX5 k_me_past, tPL o_pool] y.1 [wX8 h_me h_me_reader h_me_machine h_me_isles h_me_court h_me_study h_me_paper h_me_paperCourt h_me_past h_me_pastAhead h_me_movingAhead q_me k_me y.2.1, wX3 h_me_machine q_me_machine k_me_machine y.2.2.1, wX2 h_me_isles h_me_isles_now q_me_isles k_me_isles o_me_isles, wX4 h_me_isles_now q_me_isles_now k_me_isles_now y.2.2.2.1, wX1 h_me_court h_me_isles h_me_machine q_me_court k_me_court y.2.2.2.2.1, wX5 h_me_past q_me_past k_me_past y.2.2.2.2.2, wPL o_pool] := by
  refine CC_of (by decide) (Nat.le_of_ble_eq_true rfl) ?_
  intro p e s m below meth c A ls hx hb hml hr hlk hnm hown hts hX hK hP hD hA hl
  have hl : lv_has ls 2 [(0, .ref h_me), (1, .int p0)] := hl
  have hown : s.vm.findClass RX8 = some m.cls := hown
  have hw : Wd dC dI A s.heap [wX8 h_me h_me_reader h_me_machine h_me_isles h_me_court h_me_study h_me_paper h_me_paperCourt h_me_past h_me_pastAhead h_me_movingAhead q_me k_me o_me, wX3 h_me_machine q_me_machine k_me_machine o_me_machine, wX2 h_me_isles h_me_isles_now q_me_isles k_me_isles o_me_isles, wX4 h_me_isles_now q_me_isles_now k_me_isles_now o_me_isles_now, wX1 h_me_court h_me_isles h_me_machine q_me_court k_me_court o_me_court, wX5 h_me_past q_me_past k_me_past o_me_past, wPL o_pool] s.heap [] := ⟨hP, hD, va_S.rf⟩
  generalize hQz : (MQ below (QI dC dI (fun r (_ : Unit) => r = y.1) (fun _ => Jn [wX8 h_me h_me_reader h_me_machine h_me_isles h_me_court h_me_study h_me_paper h_me_paperCourt h_me_past h_me_pastAhead h_me_movingAhead q_me k_me y.2.1, wX3 h_me_machine q_me_machine k_me_machine y.2.2.1, wX2 h_me_isles h_me_isles_now q_me_isles k_me_isles o_me_isles, wX4 h_me_isles_now q_me_isles_now k_me_isles_now y.2.2.2.1, wX1 h_me_court h_me_isles h_me_machine q_me_court k_me_court y.2.2.2.2.1, wX5 h_me_past q_me_past k_me_past y.2.2.2.2.2, wPL o_pool]) (fun _ => Jt [tX8 k_me, tX3 k_me_machine, tX2 k_me_isles, tX4 k_me_isles_now, tX1 k_me_court, tX5 k_me_past, tPL o_pool]) A) ([.ref h_me, .int p0] : List Value).toArray s 0 0 A) = Qz
  clear hP hD hnm
  unfold f_X8_enter at h
  refine lv_aload_n hx hb dX8_enter_0 rfl (lv_at hl 0 rfl) ?_
  refine lv_aload_n hx hb dX8_enter_1 rfl (lv_at hl 0 rfl) ?_
  refine fgX8_3 hx hb hts hown hK hw 0 rfl kw445 dX8_enter_2 ?_
  refine lv_iconst (v := 1) hx hb dX8_enter_5 (by decide) ?_
  refine lv_iload_n hx hb dX8_enter_6 rfl (lv_at hl 1 rfl) ?_
  refine lv_aload_n hx hb dX8_enter_7 rfl (lv_at hl 0 rfl) ?_
  refine fgX8_8 hx hb hts hown hK hw 0 rfl kw450 dX8_enter_8 ?_
  obtain ⟨z1, ez1, h⟩ := z_bd h
  refine xj_i (xrV (As := [.int (1 : Int32), .int p0, .ref h_me_past]) (rest := [.ref h_me]) ⟨hx, hb, hml, hown, hts⟩ (m_X1_moved_O l dC dI _ h_me_court h_me_isles h_me_machine h_me_isles_now h_me_past q_me_court k_me_court q_me_isles k_me_isles q_me_isles_now k_me_isles_now q_me_machine k_me_machine q_me_past k_me_past o_me_court o_me_isles o_me_isles_now o_me_machine o_pool o_me_past (1 : Int32) p0 z1 ez1) kw852 kw849 kw850 kw851 kw117 hd_X1_moved ⟨rfl, rfl⟩ rfl rfl ⟨rfl, rfl⟩ hX hK hw [4, 2, 3, 1, 6, 5] (by decide) rfl rfl rfl rfl rfl hl.1 rfl rfl dX8_enter_11) hw hA [4, 2, 3, 1, 6, 5] (by decide) rfl rfl (fun H locs hw => ?_)
  have hw : Wd dC dI A s.heap [wX8 h_me h_me_reader h_me_machine h_me_isles h_me_court h_me_study h_me_paper h_me_paperCourt h_me_past h_me_pastAhead h_me_movingAhead q_me k_me o_me, wX3 h_me_machine q_me_machine k_me_machine z1.2.2.2.1, wX2 h_me_isles h_me_isles_now q_me_isles k_me_isles o_me_isles, wX4 h_me_isles_now q_me_isles_now k_me_isles_now z1.2.2.1, wX1 h_me_court h_me_isles h_me_machine q_me_court k_me_court z1.2.1, wX5 h_me_past q_me_past k_me_past z1.2.2.2.2, wPL o_pool] H locs := hw
  obtain ⟨z2, ez2, h⟩ := z_bd h
  refine xj_i (xrV (As := [.int z1.1]) (rest := []) ⟨hx, hb, hml, hown, hts⟩ (m_X8_answer l dC dI _ h_me h_me_reader h_me_machine h_me_isles h_me_court h_me_study h_me_paper h_me_paperCourt h_me_past h_me_pastAhead h_me_movingAhead q_me k_me o_me z1.1 z2 ez2) kw918 kw915 kw917 kw26 kw110 hd_X8_answer ⟨rfl, rfl⟩ rfl rfl ⟨rfl, rfl⟩ hX hK hw [0] (by decide) rfl rfl rfl rfl rfl hl.1 rfl rfl dX8_enter_14) hw hA [0] (by decide) rfl rfl (fun H locs hw => ?_)
  have hw : Wd dC dI A s.heap [wX8 h_me h_me_reader h_me_machine h_me_isles h_me_court h_me_study h_me_paper h_me_paperCourt h_me_past h_me_pastAhead h_me_movingAhead q_me k_me z2.2, wX3 h_me_machine q_me_machine k_me_machine z1.2.2.2.1, wX2 h_me_isles h_me_isles_now q_me_isles k_me_isles o_me_isles, wX4 h_me_isles_now q_me_isles_now k_me_isles_now z1.2.2.1, wX1 h_me_court h_me_isles h_me_machine q_me_court k_me_court z1.2.1, wX5 h_me_past q_me_past k_me_past z1.2.2.2.2, wPL o_pool] H locs := hw
  have hy := Option.some.inj h
  rw [← hQz, ← hy]
  exact xr_i (v := z2.1) hx hb hr rfl hlk hK hw dX8_enter_17

def f_X8_fault (o_me : Ob) (o_me_reader : Ob) : Option (Int32) :=
  some (gI o_me_reader 3)
set_option maxHeartbeats 4000000 in
set_option maxRecDepth 100000 in
theorem m_X8_fault (l : Launch) (dC : Nat → ClassId) (dI : Nat → Nat → Nat) (sz : Nat) (h_me : Nat) (h_me_reader : Nat) (h_me_machine : Nat) (h_me_isles : Nat) (h_me_court : Nat) (h_me_study : Nat) (h_me_paper : Nat) (h_me_paperCourt : Nat) (h_me_past : Nat) (h_me_pastAhead : Nat) (h_me_movingAhead : Nat) (h_me_reader_code : Nat) (q_me : Nat → Nat) (k_me : Nat → ClassId) (q_me_reader : Nat → Nat) (k_me_reader : Nat → ClassId) (o_me : Ob) (o_me_reader : Ob) (y : Int32) (h : f_X8_fault o_me o_me_reader = some y) : CI l yX8_fault cX8_fault 1 (some .int) ({ frames := 0, cells := 0, slots := 0, locals := 0 } : Room) dC dI sz [.ref h_me] [wX8 h_me h_me_reader h_me_machine h_me_isles h_me_court h_me_study h_me_paper h_me_paperCourt h_me_past h_me_pastAhead h_me_movingAhead q_me k_me o_me, wX6 h_me_reader h_me_reader_code q_me_reader k_me_reader o_me_reader] [tX8 k_me, tX6 k_me_reader] y [wX8 h_me h_me_reader h_me_machine h_me_isles h_me_court h_me_study h_me_paper h_me_paperCourt h_me_past h_me_pastAhead h_me_movingAhead q_me k_me o_me, wX6 h_me_reader h_me_reader_code q_me_reader k_me_reader o_me_reader] := by
  refine CC_of (by decide) (Nat.le_of_ble_eq_true rfl) ?_
  intro p e s m below meth c A ls hx hb hml hr hlk hnm hown hts hX hK hP hD hA hl
  have hl : lv_has ls 1 [(0, .ref h_me)] := hl
  have hown : s.vm.findClass RX8 = some m.cls := hown
  have hw : Wd dC dI A s.heap [wX8 h_me h_me_reader h_me_machine h_me_isles h_me_court h_me_study h_me_paper h_me_paperCourt h_me_past h_me_pastAhead h_me_movingAhead q_me k_me o_me, wX6 h_me_reader h_me_reader_code q_me_reader k_me_reader o_me_reader] s.heap [] := ⟨hP, hD, va_S.rf⟩
  generalize hQz : (MQ below (QI dC dI (fun r (_ : Unit) => r = y) (fun _ => Jn [wX8 h_me h_me_reader h_me_machine h_me_isles h_me_court h_me_study h_me_paper h_me_paperCourt h_me_past h_me_pastAhead h_me_movingAhead q_me k_me o_me, wX6 h_me_reader h_me_reader_code q_me_reader k_me_reader o_me_reader]) (fun _ => Jt [tX8 k_me, tX6 k_me_reader]) A) ([.ref h_me] : List Value).toArray s 0 0 A) = Qz
  clear hP hD hnm
  unfold f_X8_fault at h
  refine lv_aload_n hx hb dX8_fault_0 rfl (lv_at hl 0 rfl) ?_
  refine fgX8_0 hx hb hts hown hK hw 0 rfl kw442 dX8_fault_1 ?_
  refine fgX6_3 hx hb hts hown hK hw 1 rfl kw207 dX8_fault_4 ?_
  have hy := Option.some.inj h
  rw [← hQz, ← hy]
  exact xr_i (v := gI o_me_reader 3) hx hb hr rfl hlk hK hw dX8_fault_7

def f_X6_hasRoom (o_me : Ob) (p0 : Int32) : Option (Int32) :=
  if (400 : Int32) < ((gI o_me 2) + p0) then
  (some (0 : Int32))
  else
  (some (1 : Int32))
set_option maxHeartbeats 4000000 in
set_option maxRecDepth 100000 in
theorem m_X6_hasRoom (l : Launch) (dC : Nat → ClassId) (dI : Nat → Nat → Nat) (sz : Nat) (h_me : Nat) (h_me_code : Nat) (q_me : Nat → Nat) (k_me : Nat → ClassId) (o_me : Ob) (p0 : Int32) (y : Int32) (h : f_X6_hasRoom o_me p0 = some y) : CI l yX6_hasRoom cX6_hasRoom 2 (some .boolean) ({ frames := 0, cells := 0, slots := 0, locals := 0 } : Room) dC dI sz [.ref h_me, .int p0] [wX6 h_me h_me_code q_me k_me o_me] [tX6 k_me] y [wX6 h_me h_me_code q_me k_me o_me] := by
  refine CC_of (by decide) (Nat.le_of_ble_eq_true rfl) ?_
  intro p e s m below meth c A ls hx hb hml hr hlk hnm hown hts hX hK hP hD hA hl
  have hl : lv_has ls 2 [(0, .ref h_me), (1, .int p0)] := hl
  have hown : s.vm.findClass RX6 = some m.cls := hown
  have hw : Wd dC dI A s.heap [wX6 h_me h_me_code q_me k_me o_me] s.heap [] := ⟨hP, hD, va_S.rf⟩
  generalize hQz : (MQ below (QI dC dI (fun r (_ : Unit) => r = y) (fun _ => Jn [wX6 h_me h_me_code q_me k_me o_me]) (fun _ => Jt [tX6 k_me]) A) ([.ref h_me, .int p0] : List Value).toArray s 0 0 A) = Qz
  clear hP hD hnm
  unfold f_X6_hasRoom at h
  refine lv_aload_n hx hb dX6_hasRoom_0 rfl (lv_at hl 0 rfl) ?_
  refine fgX6_2 hx hb hts hown hK hw 0 rfl kw204 dX6_hasRoom_1 ?_
  refine lv_iload_n hx hb dX6_hasRoom_4 rfl (lv_at hl 1 rfl) ?_
  refine lv_iadd hx hb dX6_hasRoom_5 ?_
  refine lv_sipush (v := 400) hx hb dX6_hasRoom_6 (by decide) ?_
  refine lv_icmp_gt (tgt := 16) hx hb dX6_hasRoom_9 (by decide) (fun c => ?_) (fun c => ?_)
  · have h := z_t h c
    refine lv_iconst (v := 0) hx hb dX6_hasRoom_16 (by decide) ?_
    have hy := Option.some.inj h
    rw [← hQz, ← hy]
    exact xr_i (v := (0 : Int32)) hx hb hr rfl hlk hK hw dX6_hasRoom_17
  · have h := z_f h c
    refine lv_iconst (v := 1) hx hb dX6_hasRoom_12 (by decide) ?_
    refine lv_goto (tgt := 17) hx hb dX6_hasRoom_13 (by decide) ?_
    have hy := Option.some.inj h
    rw [← hQz, ← hy]
    exact xr_i (v := (1 : Int32)) hx hb hr rfl hlk hK hw dX6_hasRoom_17

