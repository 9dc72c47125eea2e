def bk_X7_suspects_29 (o_me : Ob) (o_me_court : Ob) (o_me_court_isles : Ob) (o_me_court_isles_now : Ob) (o_pool : List CR) (rec_4_0 : Int32 × Int32 × Ob → Option (Int32 × Ob)) (v1 : Int32) (v2 : Int32) (o_me_court_machine : Ob) : Option (Int32 × Ob) :=
  zlt (v2 + (1 : Int32)) fun x2 =>
  rec_4_0 (v1, x2, o_me_court_machine)
def lb_X7_suspects_4 (o_me : Ob) (o_me_court : Ob) (o_me_court_isles : Ob) (o_me_court_isles_now : Ob) (o_pool : List CR)  (rec_4_0 : Int32 × Int32 × Ob → Option (Int32 × Ob)) (v1 : Int32) (v2 : Int32) (o_me_court_machine : Ob) : Option (Int32 × Ob) :=
  if (gI o_me_court_isles 7) ≤ v2 then
  (some (v1, o_me_court_machine))
  else
  ((f_X7_fitsAllSeen o_me o_me_court o_me_court_isles o_me_court_isles_now o_me_court_machine o_pool v2).bind fun z1 =>
  if z1.1 = (0 : Int32) then
  (bk_X7_suspects_29 o_me o_me_court o_me_court_isles o_me_court_isles_now o_pool rec_4_0 v1 v2 z1.2)
  else
  (zlt (v1 ||| ((1 : Int32) <<< (v2 &&& 31))) fun x3 =>
  bk_X7_suspects_29 o_me o_me_court o_me_court_isles o_me_court_isles_now o_pool rec_4_0 x3 v2 z1.2))
def lp_X7_suspects_4 (o_me : Ob) (o_me_court : Ob) (o_me_court_isles : Ob) (o_me_court_isles_now : Ob) (o_pool : List CR)  : Nat → (Int32 × Int32 × Ob) → Option (Int32 × Ob) := zit (fun rec a => lb_X7_suspects_4 o_me o_me_court o_me_court_isles o_me_court_isles_now o_pool  rec a.1 a.2.1 a.2.2)
def f_X7_suspects (o_me : Ob) (o_me_court : Ob) (o_me_court_isles : Ob) (o_me_court_isles_now : Ob) (o_me_court_machine : Ob) (o_pool : List CR) : Option (Int32 × Ob) :=
  lp_X7_suspects_4 o_me o_me_court o_me_court_isles o_me_court_isles_now o_pool  zfu ((0 : Int32), (0 : Int32), o_me_court_machine)
set_option maxHeartbeats 4000000 in
set_option maxRecDepth 100000 in
theorem m_X7_suspects (l : Launch) (dC : Nat → ClassId) (dI : Nat → Nat → Nat) (sz : Nat) (h_me : Nat) (h_me_court : Nat) (h_me_court_isles : Nat) (h_me_court_machine : Nat) (h_me_court_isles_now : Nat) (q_me : Nat → Nat) (k_me : Nat → ClassId) (q_me_court : Nat → Nat) (k_me_court : Nat → ClassId) (q_me_court_isles : Nat → Nat) (k_me_court_isles : Nat → ClassId) (q_me_court_isles_now : Nat → Nat) (k_me_court_isles_now : Nat → ClassId) (q_me_court_machine : Nat → Nat) (k_me_court_machine : Nat → ClassId) (o_me : Ob) (o_me_court : Ob) (o_me_court_isles : Ob) (o_me_court_isles_now : Ob) (o_me_court_machine : Ob) (o_pool : List CR) (y : Int32 × Ob) (h : f_X7_suspects o_me o_me_court o_me_court_isles o_me_court_isles_now o_me_court_machine o_pool = some y) : CI l yX7_suspects cX7_suspects 3 (some .int) ({ frames := 5, cells := 0, slots := 0, locals := 131 } : Room) dC dI sz [.ref h_me] [wX7 h_me h_me_court h_me_court_isles q_me k_me o_me, wX1 h_me_court h_me_court_isles h_me_court_machine q_me_court k_me_court o_me_court, wX2 h_me_court_isles h_me_court_isles_now q_me_court_isles k_me_court_isles o_me_court_isles, wX4 h_me_court_isles_now q_me_court_isles_now k_me_court_isles_now o_me_court_isles_now, wX3 h_me_court_machine q_me_court_machine k_me_court_machine o_me_court_machine, wPL o_pool] [tX7 k_me, tX1 k_me_court, tX2 k_me_court_isles, tX4 k_me_court_isles_now, tX3 k_me_court_machine, tPL o_pool] y.1 [wX7 h_me h_me_court h_me_court_isles q_me k_me o_me, wX1 h_me_court h_me_court_isles h_me_court_machine q_me_court k_me_court o_me_court, wX2 h_me_court_isles h_me_court_isles_now q_me_court_isles k_me_court_isles o_me_court_isles, wX4 h_me_court_isles_now q_me_court_isles_now k_me_court_isles_now o_me_court_isles_now, wX3 h_me_court_machine q_me_court_machine k_me_court_machine y.2, wPL o_pool] := by
  refine CC_of (by decide) (Nat.le_of_ble_eq_true rfl) ?_
  intro p e s m below meth c A ls hx hb hml hr hlk hnm hown hts hX hK hP hD hA hl
  have hl : lv_has ls 3 [(0, .ref h_me)] := hl
  have hown : s.vm.findClass RX7 = some m.cls := hown
  have hw : Wd dC dI A s.heap [wX7 h_me h_me_court h_me_court_isles q_me k_me o_me, wX1 h_me_court h_me_court_isles h_me_court_machine q_me_court k_me_court o_me_court, wX2 h_me_court_isles h_me_court_isles_now q_me_court_isles k_me_court_isles o_me_court_isles, wX4 h_me_court_isles_now q_me_court_isles_now k_me_court_isles_now o_me_court_isles_now, wX3 h_me_court_machine q_me_court_machine k_me_court_machine o_me_court_machine, wPL o_pool] s.heap [] := ⟨hP, hD, va_S.rf⟩
  generalize hQz : (MQ below (QI dC dI (fun r (_ : Unit) => r = y.1) (fun _ => Jn [wX7 h_me h_me_court h_me_court_isles q_me k_me o_me, wX1 h_me_court h_me_court_isles h_me_court_machine q_me_court k_me_court o_me_court, wX2 h_me_court_isles h_me_court_isles_now q_me_court_isles k_me_court_isles o_me_court_isles, wX4 h_me_court_isles_now q_me_court_isles_now k_me_court_isles_now o_me_court_isles_now, wX3 h_me_court_machine q_me_court_machine k_me_court_machine y.2, wPL o_pool]) (fun _ => Jt [tX7 k_me, tX1 k_me_court, tX2 k_me_court_isles, tX4 k_me_court_isles_now, tX3 k_me_court_machine, tPL o_pool]) A) ([.ref h_me] : List Value).toArray s 0 0 A) = Qz
  clear hP hD hnm
  have bk_29_1 : ∀ (rec_4_0 : Int32 × Int32 × Ob → Option (Int32 × Ob)) (hrec_4_0 : ∀ (v1 : Int32) (v2 : Int32) (o_me_court_machine : Ob) (H : Heap) (locs : List Loc) (ls : Array Slot), rec_4_0 (v1, v2, o_me_court_machine) = some y → Wd dC dI A s.heap [wX7 h_me h_me_court h_me_court_isles q_me k_me o_me, wX1 h_me_court h_me_court_isles h_me_court_machine q_me_court k_me_court o_me_court, wX2 h_me_court_isles h_me_court_isles_now q_me_court_isles k_me_court_isles o_me_court_isles, wX4 h_me_court_isles_now q_me_court_isles_now k_me_court_isles_now o_me_court_isles_now, wX3 h_me_court_machine q_me_court_machine k_me_court_machine o_me_court_machine, wPL o_pool] H locs → lv_has ls 3 [(0, .ref h_me), (1, .int v1), (2, .int v2)] → W p l e ({ frames := 5, cells := 0, slots := 0, locals := 131 } : Room) s m ([.ref h_me] : List Value).toArray below meth c H locs 0 0 Qz (F0 m 4 ls [])), ∀ (v1 : Int32) (v2 : Int32) (o_me_court_machine : Ob) (H : Heap) (locs : List Loc) (ls : Array Slot), bk_X7_suspects_29 o_me o_me_court o_me_court_isles o_me_court_isles_now o_pool rec_4_0 v1 v2 o_me_court_machine = some y → Wd dC dI A s.heap [wX7 h_me h_me_court h_me_court_isles q_me k_me o_me, wX1 h_me_court h_me_court_isles h_me_court_machine q_me_court k_me_court o_me_court, wX2 h_me_court_isles h_me_court_isles_now q_me_court_isles k_me_court_isles o_me_court_isles, wX4 h_me_court_isles_now q_me_court_isles_now k_me_court_isles_now o_me_court_isles_now, wX3 h_me_court_machine q_me_court_machine k_me_court_machine o_me_court_machine, wPL o_pool] H locs → lv_has ls 3 [(0, .ref h_me), (1, .int v1), (2, .int v2)] → W p l e ({ frames := 5, cells := 0, slots := 0, locals := 131 } : Room) s m ([.ref h_me] : List Value).toArray below meth c H locs 0 0 Qz (F0 m 29 ls []) := by
    intro rec_4_0 hrec_4_0
    intro v1 v2 o_me_court_machine H locs ls h hw hl
    unfold bk_X7_suspects_29 at h
    obtain ⟨x2, ex2, h⟩ := z_lt h
    refine lv_iinc (v := x2) (lv' := [(2, .int x2), (0, .ref h_me), (1, .int v1)]) hx hb dX7_suspects_29 hl (k := 2) rfl ((congrArg (v2 + ·) (show Int32.ofInt 1 = (1 : Int32) from by decide)).trans ex2.symm) (by decide) rfl (fun ls hl => ?_)
    refine lv_goto (tgt := 4) hx hb dX7_suspects_32 (by decide) ?_
    exact hrec_4_0 v1 x2 o_me_court_machine _ _ _ h hw (lv_sub hl [1, 2, 0] rfl)
  have lp_4_0 : ∀ (N : Nat), ∀ (v1 : Int32) (v2 : Int32) (o_me_court_machine : Ob) (H : Heap) (locs : List Loc) (ls : Array Slot), lp_X7_suspects_4 o_me o_me_court o_me_court_isles o_me_court_isles_now o_pool  N (v1, v2, o_me_court_machine) = some y → Wd dC dI A s.heap [wX7 h_me h_me_court h_me_court_isles q_me k_me o_me, wX1 h_me_court h_me_court_isles h_me_court_machine q_me_court k_me_court o_me_court, wX2 h_me_court_isles h_me_court_isles_now q_me_court_isles k_me_court_isles o_me_court_isles, wX4 h_me_court_isles_now q_me_court_isles_now k_me_court_isles_now o_me_court_isles_now, wX3 h_me_court_machine q_me_court_machine k_me_court_machine o_me_court_machine, wPL o_pool] H locs → lv_has ls 3 [(0, .ref h_me), (1, .int v1), (2, .int v2)] → W p l e ({ frames := 5, cells := 0, slots := 0, locals := 131 } : Room) s m ([.ref h_me] : List Value).toArray below meth c H locs 0 0 Qz (F0 m 4 ls []) := by
    intro N
    induction N with
    | zero =>
      intro v1 v2 o_me_court_machine H locs ls h hw hl
      exact absurd (show (none : Option (Int32 × Ob)) = some y from h) (by simp)
    | succ N ih =>
      intro v1 v2 o_me_court_machine H locs ls h hw hl
      have h : lb_X7_suspects_4 o_me o_me_court o_me_court_isles o_me_court_isles_now o_pool  (lp_X7_suspects_4 o_me o_me_court o_me_court_isles o_me_court_isles_now o_pool  N) v1 v2 o_me_court_machine = some y := h
      unfold lb_X7_suspects_4 at h
      refine lv_iload_n hx hb dX7_suspects_4 rfl (lv_at hl 2 rfl) ?_
      refine lv_aload_n hx hb dX7_suspects_5 rfl (lv_at hl 0 rfl) ?_
      refine fgX7_1 hx hb hts hown hK hw 0 rfl kw387 dX7_suspects_6 ?_
      refine fgX2_7 hx hb hts hown hK hw 2 rfl kw316 dX7_suspects_9 ?_
      refine lv_icmp_ge (tgt := 35) hx hb dX7_suspects_12 (by decide) (fun c => ?_) (fun c => ?_)
      · have h := z_t h c
        refine lv_iload_n hx hb dX7_suspects_35 rfl (lv_at hl 1 rfl) ?_
        have hy := Option.some.inj h
        rw [← hQz, ← hy]
        exact xr_i (v := v1) hx hb hr rfl hlk hK hw dX7_suspects_36
      · have h := z_f h c
        refine lv_aload_n hx hb dX7_suspects_15 rfl (lv_at hl 0 rfl) ?_
        refine lv_iload_n hx hb dX7_suspects_16 rfl (lv_at hl 2 rfl) ?_
        obtain ⟨z1, ez1, h⟩ := z_bd h
        refine xj_i (xrV (As := [.int v2]) (rest := []) ⟨hx, hb, hml, hown, hts⟩ (m_X7_fitsAllSeen l dC dI _ h_me h_me_court h_me_court_isles h_me_court_machine h_me_court_isles_now q_me k_me q_me_court k_me_court q_me_court_isles k_me_court_isles q_me_court_isles_now k_me_court_isles_now q_me_court_machine k_me_court_machine o_me o_me_court o_me_court_isles o_me_court_isles_now o_me_court_machine o_pool v2 z1 ez1) kw990 kw987 kw989 kw29 kw118 hd_X7_fitsAllSeen ⟨rfl, rfl⟩ rfl rfl ⟨rfl, rfl⟩ hX hK hw [0, 1, 2, 3, 4, 5] (by decide) rfl rfl rfl rfl rfl hl.1 rfl rfl dX7_suspects_17) hw hA [0, 1, 2, 3, 4, 5] (by decide) rfl rfl (fun H locs hw => ?_)
        have hw : Wd dC dI A s.heap [wX7 h_me h_me_court h_me_court_isles q_me k_me o_me, wX1 h_me_court h_me_court_isles h_me_court_machine q_me_court k_me_court o_me_court, wX2 h_me_court_isles h_me_court_isles_now q_me_court_isles k_me_court_isles o_me_court_isles, wX4 h_me_court_isles_now q_me_court_isles_now k_me_court_isles_now o_me_court_isles_now, wX3 h_me_court_machine q_me_court_machine k_me_court_machine z1.2, wPL o_pool] H locs := hw
        refine lv_if_eq (tgt := 29) hx hb dX7_suspects_20 (by decide) (fun c => ?_) (fun c => ?_)
        · have h := z_t h c
          exact bk_29_1 (lp_X7_suspects_4 o_me o_me_court o_me_court_isles o_me_court_isles_now o_pool  N) ih v1 v2 z1.2 _ _ _ h hw (lv_sub hl [0, 1, 2] rfl)
        · have h := z_f h c
          refine lv_iload_n hx hb dX7_suspects_23 rfl (lv_at hl 1 rfl) ?_
          refine lv_iconst (v := 1) hx hb dX7_suspects_24 (by decide) ?_
          refine lv_iload_n hx hb dX7_suspects_25 rfl (lv_at hl 2 rfl) ?_
          refine lv_ishl hx hb dX7_suspects_26 ?_
          refine lv_ior hx hb dX7_suspects_27 ?_
          obtain ⟨x3, ex3, h⟩ := z_lt h
          refine lv_fi (v := x3) ex3.symm ?_
          refine lv_istore_n (lv' := [(1, .int x3), (0, .ref h_me), (2, .int v2)]) hx hb dX7_suspects_28 rfl hl (by decide) rfl (fun ls hl => ?_)
          exact bk_29_1 (lp_X7_suspects_4 o_me o_me_court o_me_court_isles o_me_court_isles_now o_pool  N) ih x3 v2 z1.2 _ _ _ h hw (lv_sub hl [1, 0, 2] rfl)
  unfold f_X7_suspects at h
  refine lv_iconst (v := 0) hx hb dX7_suspects_0 (by decide) ?_
  refine lv_istore_n (lv' := [(1, .int (0 : Int32)), (0, .ref h_me)]) hx hb dX7_suspects_1 rfl hl (by decide) rfl (fun ls hl => ?_)
  refine lv_iconst (v := 0) hx hb dX7_suspects_2 (by decide) ?_
  refine lv_istore_n (lv' := [(2, .int (0 : Int32)), (1, .int (0 : Int32)), (0, .ref h_me)]) hx hb dX7_suspects_3 rfl hl (by decide) rfl (fun ls hl => ?_)
  exact lp_4_0  zfu (0 : Int32) (0 : Int32) o_me_court_machine _ _ _ h hw (lv_sub hl [2, 1, 0] rfl)

def f_X8_canBe (o_me : Ob) (o_me_machine : Ob) (o_me_isles : Ob) (o_me_isles_now : Ob) (o_me_court : Ob) (o_me_study : Ob) (o_pool : List CR) : Option (Int32 × Ob) :=
  (f_X7_suspects o_me_study o_me_court o_me_isles o_me_isles_now o_me_machine o_pool).bind fun z1 =>
  some (z1.1, z1.2)
set_option maxHeartbeats 4000000 in
set_option maxRecDepth 100000 in
theorem m_X8_canBe (l : Launch) (dC : Nat → ClassId) (dI : Nat → Nat → Nat) (sz : Nat) (h_me : Nat) (h_me_reader : Nat) (h_me_machine : Nat) (h_me_isles : Nat) (h_me_court : Nat) (h_me_study : Nat) (h_me_paper : Nat) (h_me_paperCourt : Nat) (h_me_past : Nat) (h_me_pastAhead : Nat) (h_me_movingAhead : Nat) (h_me_isles_now : Nat) (q_me : Nat → Nat) (k_me : Nat → ClassId) (q_me_machine : Nat → Nat) (k_me_machine : Nat → ClassId) (q_me_isles : Nat → Nat) (k_me_isles : Nat → ClassId) (q_me_isles_now : Nat → Nat) (k_me_isles_now : Nat → ClassId) (q_me_court : Nat → Nat) (k_me_court : Nat → ClassId) (q_me_study : Nat → Nat) (k_me_study : Nat → ClassId) (o_me : Ob) (o_me_machine : Ob) (o_me_isles : Ob) (o_me_isles_now : Ob) (o_me_court : Ob) (o_me_study : Ob) (o_pool : List CR) (y : Int32 × Ob) (h : f_X8_canBe o_me o_me_machine o_me_isles o_me_isles_now o_me_court o_me_study o_pool = some y) : CI l yX8_canBe cX8_canBe 1 (some .int) ({ frames := 6, cells := 0, slots := 0, locals := 153 } : Room) dC dI sz [.ref h_me] [wX8 h_me h_me_reader h_me_machine h_me_isles h_me_court h_me_study h_me_paper h_me_paperCourt h_me_past h_me_pastAhead h_me_movingAhead q_me k_me o_me, wX3 h_me_machine q_me_machine k_me_machine o_me_machine, wX2 h_me_isles h_me_isles_now q_me_isles k_me_isles o_me_isles, wX4 h_me_isles_now q_me_isles_now k_me_isles_now o_me_isles_now, wX1 h_me_court h_me_isles h_me_machine q_me_court k_me_court o_me_court, wX7 h_me_study h_me_court h_me_isles q_me_study k_me_study o_me_study, wPL o_pool] [tX8 k_me, tX3 k_me_machine, tX2 k_me_isles, tX4 k_me_isles_now, tX1 k_me_court, tX7 k_me_study, tPL o_pool] y.1 [wX8 h_me h_me_reader h_me_machine h_me_isles h_me_court h_me_study h_me_paper h_me_paperCourt h_me_past h_me_pastAhead h_me_movingAhead q_me k_me o_me, wX3 h_me_machine q_me_machine k_me_machine y.2, wX2 h_me_isles h_me_isles_now q_me_isles k_me_isles o_me_isles, wX4 h_me_isles_now q_me_isles_now k_me_isles_now o_me_isles_now, wX1 h_me_court h_me_isles h_me_machine q_me_court k_me_court o_me_court, wX7 h_me_study h_me_court h_me_isles q_me_study k_me_study o_me_study, wPL o_pool] := by
  refine CC_of (by decide) (Nat.le_of_ble_eq_true rfl) ?_
  intro p e s m below meth c A ls hx hb hml hr hlk hnm hown hts hX hK hP hD hA hl
  have hl : lv_has ls 1 [(0, .ref h_me)] := hl
  have hown : s.vm.findClass RX8 = some m.cls := hown
  have hw : Wd dC dI A s.heap [wX8 h_me h_me_reader h_me_machine h_me_isles h_me_court h_me_study h_me_paper h_me_paperCourt h_me_past h_me_pastAhead h_me_movingAhead q_me k_me o_me, wX3 h_me_machine q_me_machine k_me_machine o_me_machine, wX2 h_me_isles h_me_isles_now q_me_isles k_me_isles o_me_isles, wX4 h_me_isles_now q_me_isles_now k_me_isles_now o_me_isles_now, wX1 h_me_court h_me_isles h_me_machine q_me_court k_me_court o_me_court, wX7 h_me_study h_me_court h_me_isles q_me_study k_me_study o_me_study, wPL o_pool] s.heap [] := ⟨hP, hD, va_S.rf⟩
  generalize hQz : (MQ below (QI dC dI (fun r (_ : Unit) => r = y.1) (fun _ => Jn [wX8 h_me h_me_reader h_me_machine h_me_isles h_me_court h_me_study h_me_paper h_me_paperCourt h_me_past h_me_pastAhead h_me_movingAhead q_me k_me o_me, wX3 h_me_machine q_me_machine k_me_machine y.2, wX2 h_me_isles h_me_isles_now q_me_isles k_me_isles o_me_isles, wX4 h_me_isles_now q_me_isles_now k_me_isles_now o_me_isles_now, wX1 h_me_court h_me_isles h_me_machine q_me_court k_me_court o_me_court, wX7 h_me_study h_me_court h_me_isles q_me_study k_me_study o_me_study, wPL o_pool]) (fun _ => Jt [tX8 k_me, tX3 k_me_machine, tX2 k_me_isles, tX4 k_me_isles_now, tX1 k_me_court, tX7 k_me_study, tPL o_pool]) A) ([.ref h_me] : List Value).toArray s 0 0 A) = Qz
  clear hP hD hnm
  unfold f_X8_canBe at h
  refine lv_aload_n hx hb dX8_canBe_0 rfl (lv_at hl 0 rfl) ?_
  refine fgX8_4 hx hb hts hown hK hw 0 rfl kw446 dX8_canBe_1 ?_
  obtain ⟨z1, ez1, h⟩ := z_bd h
  refine xj_i (xrV (As := []) (rest := []) ⟨hx, hb, hml, hown, hts⟩ (m_X7_suspects l dC dI _ h_me_study h_me_court h_me_isles h_me_machine h_me_isles_now q_me_study k_me_study q_me_court k_me_court q_me_isles k_me_isles q_me_isles_now k_me_isles_now q_me_machine k_me_machine o_me_study o_me_court o_me_isles o_me_isles_now o_me_machine o_pool z1 ez1) kw986 kw983 kw984 kw985 kw118 hd_X7_suspects ⟨rfl, rfl⟩ rfl rfl ⟨rfl, rfl⟩ hX hK hw [5, 4, 2, 3, 1, 6] (by decide) rfl rfl rfl rfl rfl hl.1 rfl rfl dX8_canBe_4) hw hA [5, 4, 2, 3, 1, 6] (by decide) rfl rfl (fun H locs hw => ?_)
  have hw : Wd dC dI A s.heap [wX8 h_me h_me_reader h_me_machine h_me_isles h_me_court h_me_study h_me_paper h_me_paperCourt h_me_past h_me_pastAhead h_me_movingAhead q_me k_me o_me, wX3 h_me_machine q_me_machine k_me_machine z1.2, wX2 h_me_isles h_me_isles_now q_me_isles k_me_isles o_me_isles, wX4 h_me_isles_now q_me_isles_now k_me_isles_now o_me_isles_now, wX1 h_me_court h_me_isles h_me_machine q_me_court k_me_court o_me_court, wX7 h_me_study h_me_court h_me_isles q_me_study k_me_study o_me_study, wPL o_pool] H locs := hw
  have hy := Option.some.inj h
  rw [← hQz, ← hy]
  exact xr_i (v := z1.1) hx hb hr rfl hlk hK hw dX8_canBe_7

def f_X4_set_O (o_me : Ob) (o_a0 : Ob) : Option (Ob) :=
  zgd (zcp (0 : Int32) (0 : Int32) (7 : Int32) 7 7) <|
  zlt (cA o_me 0 (gA o_a0 0) (0 : Int32) (0 : Int32) (7 : Int32)) fun o2 =>
  zgd (zcp (0 : Int32) (0 : Int32) (7 : Int32) 7 7) <|
  zlt (cA o2 1 (gA o_a0 1) (0 : Int32) (0 : Int32) (7 : Int32)) fun o4 =>
  zlt (sI o4 2 (gI o_a0 2)) fun o5 =>
  zlt (sI o5 3 (gI o_a0 3)) fun o6 =>
  zlt (sI o6 4 (gI o_a0 4)) fun o7 =>
  some o7
set_option maxHeartbeats 4000000 in
set_option maxRecDepth 100000 in
theorem m_X4_set_O (l : Launch) (dC : Nat → ClassId) (dI : Nat → Nat → Nat) (sz : Nat) (h_me : Nat) (h_a0 : Nat) (q_me : Nat → Nat) (k_me : Nat → ClassId) (q_a0 : Nat → Nat) (k_a0 : Nat → ClassId) (o_me : Ob) (o_a0 : Ob) (y : Ob) (h : f_X4_set_O o_me o_a0 = some y) : CV l yX4_set cX4_set 2 none ({ frames := 1, cells := 0, slots := 0, locals := 60 } : Room) dC dI sz [.ref h_me, .ref h_a0] [wX4 h_me q_me k_me o_me, wX4 h_a0 q_a0 k_a0 o_a0] [tX4 k_me, tX4 k_a0] [wX4 h_me q_me k_me y, wX4 h_a0 q_a0 k_a0 o_a0] := by
  refine CC_of (by decide) (Nat.le_of_ble_eq_true rfl) ?_
  intro p e s m below meth c A ls hx hb hml hr hlk hnm hown hts hX hK hP hD hA hl
  have hl : lv_has ls 2 [(0, .ref h_me), (1, .ref h_a0)] := hl
  have hown : s.vm.findClass RX4 = some m.cls := hown
  have hw : Wd dC dI A s.heap [wX4 h_me q_me k_me o_me, wX4 h_a0 q_a0 k_a0 o_a0] s.heap [] := ⟨hP, hD, va_S.rf⟩
  generalize hQz : (MQ below (QV dC dI (fun (_ : Unit) => True) (fun _ => Jn [wX4 h_me q_me k_me y, wX4 h_a0 q_a0 k_a0 o_a0]) (fun _ => Jt [tX4 k_me, tX4 k_a0]) A) ([.ref h_me, .ref h_a0] : List Value).toArray s 0 0 A) = Qz
  clear hP hD hnm
  unfold f_X4_set_O at h
  refine lv_aload_n hx hb dX4_set_0 rfl (lv_at hl 1 rfl) ?_
  refine fgX4_0 hx hb hts hown hK hw 1 rfl kw261 dX4_set_1 ?_
  refine lv_iconst (v := 0) hx hb dX4_set_4 (by decide) ?_
  refine lv_aload_n hx hb dX4_set_5 rfl (lv_at hl 0 rfl) ?_
  refine fgX4_0 hx hb hts hown hK hw 0 rfl kw261 dX4_set_6 ?_
  refine lv_iconst (v := 0) hx hb dX4_set_9 (by decide) ?_
  refine lv_bipush (v := 7) hx hb dX4_set_10 (by decide) ?_
  obtain ⟨g1, h⟩ := z_gd h
  refine xcopy (n0 := 1) (j0 := 1) (u0 := 0) (n1 := 0) (j1 := 1) (u1 := 0) hx hb (hml.trans hl.1.symm) hown hts kw826 kw812 kw811 kw125 hK hw rfl rfl rfl rfl rfl rfl rfl rfl g1 (Nat.le_of_ble_eq_true rfl) (Nat.le_of_ble_eq_true rfl) dX4_set_12 (fun H locs hw => ?_)
  obtain ⟨o2, eo2, h⟩ := z_lt h
  have hw : Wd dC dI A s.heap [wX4 h_me q_me k_me o2, wX4 h_a0 q_a0 k_a0 o_a0] H locs := by rw [eo2]; exact hw
  refine lv_aload_n hx hb dX4_set_15 rfl (lv_at hl 1 rfl) ?_
  refine fgX4_1 hx hb hts hown hK hw 1 rfl kw265 dX4_set_16 ?_
  refine lv_iconst (v := 0) hx hb dX4_set_19 (by decide) ?_
  refine lv_aload_n hx hb dX4_set_20 rfl (lv_at hl 0 rfl) ?_
  refine fgX4_1 hx hb hts hown hK hw 0 rfl kw265 dX4_set_21 ?_
  refine lv_iconst (v := 0) hx hb dX4_set_24 (by decide) ?_
  refine lv_bipush (v := 7) hx hb dX4_set_25 (by decide) ?_
  obtain ⟨g3, h⟩ := z_gd h
  refine xcopy (n0 := 1) (j0 := 2) (u0 := 1) (n1 := 0) (j1 := 2) (u1 := 1) hx hb (hml.trans hl.1.symm) hown hts kw826 kw812 kw811 kw125 hK hw rfl rfl rfl rfl rfl rfl rfl rfl g3 (Nat.le_of_ble_eq_true rfl) (Nat.le_of_ble_eq_true rfl) dX4_set_27 (fun H locs hw => ?_)
  obtain ⟨o4, eo4, h⟩ := z_lt h
  have hw : Wd dC dI A s.heap [wX4 h_me q_me k_me o4, wX4 h_a0 q_a0 k_a0 o_a0] H locs := by rw [eo4]; exact hw
  refine lv_aload_n hx hb dX4_set_30 rfl (lv_at hl 0 rfl) ?_
  refine lv_aload_n hx hb dX4_set_31 rfl (lv_at hl 1 rfl) ?_
  refine fgX4_2 hx hb hts hown hK hw 1 rfl kw268 dX4_set_32 ?_
  refine fpX4_2 hx hb hts hown hK hw 0 rfl kw268 dX4_set_35 (fun H locs hw => ?_)
  obtain ⟨o5, eo5, h⟩ := z_lt h
  have hw : Wd dC dI A s.heap [wX4 h_me q_me k_me o5, wX4 h_a0 q_a0 k_a0 o_a0] H locs := by rw [eo5]; exact hw
  refine lv_aload_n hx hb dX4_set_38 rfl (lv_at hl 0 rfl) ?_
  refine lv_aload_n hx hb dX4_set_39 rfl (lv_at hl 1 rfl) ?_
  refine fgX4_3 hx hb hts hown hK hw 1 rfl kw273 dX4_set_40 ?_
  refine fpX4_3 hx hb hts hown hK hw 0 rfl kw273 dX4_set_43 (fun H locs hw => ?_)
  obtain ⟨o6, eo6, h⟩ := z_lt h
  have hw : Wd dC dI A s.heap [wX4 h_me q_me k_me o6, wX4 h_a0 q_a0 k_a0 o_a0] H locs := by rw [eo6]; exact hw
  refine lv_aload_n hx hb dX4_set_46 rfl (lv_at hl 0 rfl) ?_
  refine lv_aload_n hx hb dX4_set_47 rfl (lv_at hl 1 rfl) ?_
  refine fgX4_4 hx hb hts hown hK hw 1 rfl kw277 dX4_set_48 ?_
  refine fpX4_4 hx hb hts hown hK hw 0 rfl kw277 dX4_set_51 (fun H locs hw => ?_)
  obtain ⟨o7, eo7, h⟩ := z_lt h
  have hw : Wd dC dI A s.heap [wX4 h_me q_me k_me o7, wX4 h_a0 q_a0 k_a0 o_a0] H locs := by rw [eo7]; exact hw
  have hy := Option.some.inj h
  rw [← hQz, ← hy]
  exact xr_v hx hb hr hlk hK hw dX4_set_54

def lb_X2_set_O_88 (o_pool : List CR) (o_a0 : Ob) (o_a0_now : Ob)  (rec_88_0 : Int32 × Ob × Ob → Option (Ob × Ob)) (v2 : Int32) (o_me : Ob) (o_me_now : Ob) : Option (Ob × Ob) :=
  if (6 : Int32) ≤ v2 then
  (zlt (sI o_me 7 (gI o_a0 7)) fun o12 =>
  zlt (sI o12 8 (gI o_a0 8)) fun o13 =>
  zlt (sI o13 9 (gI o_a0 9)) fun o14 =>
  zlt (sI o14 10 (gI o_a0 10)) fun o15 =>
  zlt (sI o15 11 (gI o_a0 11)) fun o16 =>
  zlt (sI o16 12 (gI o_a0 12)) fun o17 =>
  some (o17, o_me_now))
  else
  (zgd (zin v2 6) <|
  zgd (zpo o_pool (gR o_a0 6 v2.toNatClampNeg)) <|
  zgd (zin v2 6) <|
  zlt (tR o_me 6 v2.toNatClampNeg (gR o_a0 6 v2.toNatClampNeg)) fun o21 =>
  zlt (v2 + (1 : Int32)) fun x22 =>
  rec_88_0 (x22, o21, o_me_now))
def lp_X2_set_O_88 (o_pool : List CR) (o_a0 : Ob) (o_a0_now : Ob)  : Nat → (Int32 × Ob × Ob) → Option (Ob × Ob) := zit (fun rec a => lb_X2_set_O_88 o_pool o_a0 o_a0_now  rec a.1 a.2.1 a.2.2)
def f_X2_set_O (o_me : Ob) (o_me_now : Ob) (o_pool : List CR) (o_a0 : Ob) (o_a0_now : Ob) : Option (Ob × Ob) :=
  (f_X4_set_O o_me_now o_a0_now).bind fun z1 =>
  zgd (zcp (0 : Int32) (0 : Int32) (7 : Int32) 7 7) <|
  zlt (cA o_me 1 (gA o_a0 1) (0 : Int32) (0 : Int32) (7 : Int32)) fun o3 =>
  zgd (zcp (0 : Int32) (0 : Int32) (28 : Int32) 28 28) <|
  zlt (cA o3 2 (gA o_a0 2) (0 : Int32) (0 : Int32) (28 : Int32)) fun o5 =>
  zgd (zcp (0 : Int32) (0 : Int32) (7 : Int32) 7 7) <|
  zlt (cA o5 3 (gA o_a0 3) (0 : Int32) (0 : Int32) (7 : Int32)) fun o7 =>
  zgd (zcp (0 : Int32) (0 : Int32) (6 : Int32) 6 6) <|
  zlt (cA o7 4 (gA o_a0 4) (0 : Int32) (0 : Int32) (6 : Int32)) fun o9 =>
  zgd (zcp (0 : Int32) (0 : Int32) (6 : Int32) 6 6) <|
  zlt (cA o9 5 (gA o_a0 5) (0 : Int32) (0 : Int32) (6 : Int32)) fun o11 =>
  lp_X2_set_O_88 o_pool o_a0 o_a0_now  zfu ((0 : Int32), o11, z1)
set_option maxHeartbeats 4000000 in
set_option maxRecDepth 100000 in
theorem m_X2_set_O (l : Launch) (dC : Nat → ClassId) (dI : Nat → Nat → Nat) (sz : Nat) (h_me : Nat) (h_me_now : Nat) (h_a0 : Nat) (h_a0_now : Nat) (q_me : Nat → Nat) (k_me : Nat → ClassId) (q_me_now : Nat → Nat) (k_me_now : Nat → ClassId) (q_a0 : Nat → Nat) (k_a0 : Nat → ClassId) (q_a0_now : Nat → Nat) (k_a0_now : Nat → ClassId) (o_me : Ob) (o_me_now : Ob) (o_pool : List CR) (o_a0 : Ob) (o_a0_now : Ob) (y : Ob × Ob) (h : f_X2_set_O o_me o_me_now o_pool o_a0 o_a0_now = some y) : CV l yX2_set cX2_set 3 none ({ frames := 2, cells := 0, slots := 0, locals := 81 } : Room) dC dI sz [.ref h_me, .ref h_a0] [wX2 h_me h_me_now q_me k_me o_me, wX4 h_me_now q_me_now k_me_now o_me_now, wPL o_pool, wX2 h_a0 h_a0_now q_a0 k_a0 o_a0, wX4 h_a0_now q_a0_now k_a0_now o_a0_now] [tX2 k_me, tX4 k_me_now, tPL o_pool, tX2 k_a0, tX4 k_a0_now] [wX2 h_me h_me_now q_me k_me y.1, wX4 h_me_now q_me_now k_me_now y.2, wPL o_pool, wX2 h_a0 h_a0_now q_a0 k_a0 o_a0, wX4 h_a0_now q_a0_now k_a0_now o_a0_now] := by
  refine CC_of (by decide) (Nat.le_of_ble_eq_true rfl) ?_
  intro p e s m below meth c A ls hx hb hml hr hlk hnm hown hts hX hK hP hD hA hl
  have hl : lv_has ls 3 [(0, .ref h_me), (1, .ref h_a0)] := hl
  have hown : s.vm.findClass RX2 = some m.cls := hown
  have hw : Wd dC dI A s.heap [wX2 h_me h_me_now q_me k_me o_me, wX4 h_me_now q_me_now k_me_now o_me_now, wPL o_pool, wX2 h_a0 h_a0_now q_a0 k_a0 o_a0, wX4 h_a0_now q_a0_now k_a0_now o_a0_now] s.heap [] := ⟨hP, hD, va_S.rf⟩
  generalize hQz : (MQ below (QV dC dI (fun (_ : Unit) => True) (fun _ => Jn [wX2 h_me h_me_now q_me k_me y.1, wX4 h_me_now q_me_now k_me_now y.2, wPL o_pool, wX2 h_a0 h_a0_now q_a0 k_a0 o_a0, wX4 h_a0_now q_a0_now k_a0_now o_a0_now]) (fun _ => Jt [tX2 k_me, tX4 k_me_now, tPL o_pool, tX2 k_a0, tX4 k_a0_now]) A) ([.ref h_me, .ref h_a0] : List Value).toArray s 0 0 A) = Qz
  clear hP hD hnm
  have lp_88_0 : ∀ (N : Nat), ∀ (v2 : Int32) (o_me : Ob) (o_me_now : Ob) (H : Heap) (locs : List Loc) (ls : Array Slot), lp_X2_set_O_88 o_pool o_a0 o_a0_now  N (v2, o_me, o_me_now) = some y → Wd dC dI A s.heap [wX2 h_me h_me_now q_me k_me o_me, wX4 h_me_now q_me_now k_me_now o_me_now, wPL o_pool, wX2 h_a0 h_a0_now q_a0 k_a0 o_a0, wX4 h_a0_now q_a0_now k_a0_now o_a0_now] H locs → lv_has ls 3 [(0, .ref h_me), (1, .ref h_a0), (2, .int v2)] → W p l e ({ frames := 2, cells := 0, slots := 0, locals := 81 } : Room) s m ([.ref h_me, .ref h_a0] : List Value).toArray below meth c H locs 0 0 Qz (F0 m 88 ls []) := by
    intro N
    induction N with
    | zero =>
      intro v2 o_me o_me_now H locs ls h hw hl
      exact absurd (show (none : Option (Ob × Ob)) = some y from h) (by simp)
    | succ N ih =>
      intro v2 o_me o_me_now H locs ls h hw hl
      have h : lb_X2_set_O_88 o_pool o_a0 o_a0_now  (lp_X2_set_O_88 o_pool o_a0 o_a0_now  N) v2 o_me o_me_now = some y := h
      unfold lb_X2_set_O_88 at h
      refine lv_iload_n hx hb dX2_set_88 rfl (lv_at hl 2 rfl) ?_
      refine lv_bipush (v := 6) hx hb dX2_set_89 (by decide) ?_
      refine lv_icmp_ge (tgt := 112) hx hb dX2_set_91 (by decide) (fun c => ?_) (fun c => ?_)
      · have h := z_t h c
        refine lv_aload_n hx hb dX2_set_112 rfl (lv_at hl 0 rfl) ?_
        refine lv_aload_n hx hb dX2_set_113 rfl (lv_at hl 1 rfl) ?_
        refine fgX2_7 hx hb hts hown hK hw 3 rfl kw315 dX2_set_114 ?_
        refine fpX2_7 hx hb hts hown hK hw 0 rfl kw315 dX2_set_117 (fun H locs hw => ?_)
        obtain ⟨o12, eo12, h⟩ := z_lt h
        have hw : Wd dC dI A s.heap [wX2 h_me h_me_now q_me k_me o12, wX4 h_me_now q_me_now k_me_now o_me_now, wPL o_pool, wX2 h_a0 h_a0_now q_a0 k_a0 o_a0, wX4 h_a0_now q_a0_now k_a0_now o_a0_now] H locs := by rw [eo12]; exact hw
        refine lv_aload_n hx hb dX2_set_120 rfl (lv_at hl 0 rfl) ?_
        refine lv_aload_n hx hb dX2_set_121 rfl (lv_at hl 1 rfl) ?_
        refine fgX2_8 hx hb hts hown hK hw 3 rfl kw319 dX2_set_122 ?_
        refine fpX2_8 hx hb hts hown hK hw 0 rfl kw319 dX2_set_125 (fun H locs hw => ?_)
        obtain ⟨o13, eo13, h⟩ := z_lt h
        have hw : Wd dC dI A s.heap [wX2 h_me h_me_now q_me k_me o13, wX4 h_me_now q_me_now k_me_now o_me_now, wPL o_pool, wX2 h_a0 h_a0_now q_a0 k_a0 o_a0, wX4 h_a0_now q_a0_now k_a0_now o_a0_now] H locs := by rw [eo13]; exact hw
        refine lv_aload_n hx hb dX2_set_128 rfl (lv_at hl 0 rfl) ?_
        refine lv_aload_n hx hb dX2_set_129 rfl (lv_at hl 1 rfl) ?_
        refine fgX2_9 hx hb hts hown hK hw 3 rfl kw322 dX2_set_130 ?_
        refine fpX2_9 hx hb hts hown hK hw 0 rfl kw322 dX2_set_133 (fun H locs hw => ?_)
        obtain ⟨o14, eo14, h⟩ := z_lt h
        have hw : Wd dC dI A s.heap [wX2 h_me h_me_now q_me k_me o14, wX4 h_me_now q_me_now k_me_now o_me_now, wPL o_pool, wX2 h_a0 h_a0_now q_a0 k_a0 o_a0, wX4 h_a0_now q_a0_now k_a0_now o_a0_now] H locs := by rw [eo14]; exact hw
        refine lv_aload_n hx hb dX2_set_136 rfl (lv_at hl 0 rfl) ?_
        refine lv_aload_n hx hb dX2_set_137 rfl (lv_at hl 1 rfl) ?_
        refine fgX2_10 hx hb hts hown hK hw 3 rfl kw324 dX2_set_138 ?_
        refine fpX2_10 hx hb hts hown hK hw 0 rfl kw324 dX2_set_141 (fun H locs hw => ?_)
        obtain ⟨o15, eo15, h⟩ := z_lt h
        have hw : Wd dC dI A s.heap [wX2 h_me h_me_now q_me k_me o15, wX4 h_me_now q_me_now k_me_now o_me_now, wPL o_pool, wX2 h_a0 h_a0_now q_a0 k_a0 o_a0, wX4 h_a0_now q_a0_now k_a0_now o_a0_now] H locs := by rw [eo15]; exact hw
        refine lv_aload_n hx hb dX2_set_144 rfl (lv_at hl 0 rfl) ?_
        refine lv_aload_n hx hb dX2_set_145 rfl (lv_at hl 1 rfl) ?_
        refine fgX2_11 hx hb hts hown hK hw 3 rfl kw326 dX2_set_146 ?_
        refine fpX2_11 hx hb hts hown hK hw 0 rfl kw326 dX2_set_149 (fun H locs hw => ?_)
        obtain ⟨o16, eo16, h⟩ := z_lt h
        have hw : Wd dC dI A s.heap [wX2 h_me h_me_now q_me k_me o16, wX4 h_me_now q_me_now k_me_now o_me_now, wPL o_pool, wX2 h_a0 h_a0_now q_a0 k_a0 o_a0, wX4 h_a0_now q_a0_now k_a0_now o_a0_now] H locs := by rw [eo16]; exact hw
        refine lv_aload_n hx hb dX2_set_152 rfl (lv_at hl 0 rfl) ?_
        refine lv_aload_n hx hb dX2_set_153 rfl (lv_at hl 1 rfl) ?_
        refine fgX2_12 hx hb hts hown hK hw 3 rfl kw328 dX2_set_154 ?_
        refine fpX2_12 hx hb hts hown hK hw 0 rfl kw328 dX2_set_157 (fun H locs hw => ?_)
        obtain ⟨o17, eo17, h⟩ := z_lt h
        have hw : Wd dC dI A s.heap [wX2 h_me h_me_now q_me k_me o17, wX4 h_me_now q_me_now k_me_now o_me_now, wPL o_pool, wX2 h_a0 h_a0_now q_a0 k_a0 o_a0, wX4 h_a0_now q_a0_now k_a0_now o_a0_now] H locs := by rw [eo17]; exact hw
        have hy := Option.some.inj h
        rw [← hQz, ← hy]
        exact xr_v hx hb hr hlk hK hw dX2_set_160
      · have h := z_f h c
        refine lv_aload_n hx hb dX2_set_94 rfl (lv_at hl 0 rfl) ?_
        refine fgX2_6 hx hb hts hown hK hw 0 rfl kw314 dX2_set_95 ?_
        refine lv_iload_n hx hb dX2_set_98 rfl (lv_at hl 2 rfl) ?_
        refine lv_aload_n hx hb dX2_set_99 rfl (lv_at hl 1 rfl) ?_
        refine fgX2_6 hx hb hts hown hK hw 3 rfl kw314 dX2_set_100 ?_
        refine lv_iload_n hx hb dX2_set_103 rfl (lv_at hl 2 rfl) ?_
        obtain ⟨g18, h⟩ := z_gd h
        refine faX2_6 hx hb hK hw 3 rfl rfl g18 dX2_set_104 ?_
        obtain ⟨g19, h⟩ := z_gd h
        obtain ⟨g20, h⟩ := z_gd h
        refine fbX2q (n := 0) (np := 2) hx hb hK hw rfl rfl rfl g19 g20 dX2_set_105 (fun H locs hw => ?_)
        obtain ⟨o21, eo21, h⟩ := z_lt h
        have hw : Wd dC dI A s.heap [wX2 h_me h_me_now q_me k_me o21, wX4 h_me_now q_me_now k_me_now o_me_now, wPL o_pool, wX2 h_a0 h_a0_now q_a0 k_a0 o_a0, wX4 h_a0_now q_a0_now k_a0_now o_a0_now] H locs := by rw [eo21]; exact hw
        obtain ⟨x22, ex22, h⟩ := z_lt h
        refine lv_iinc (v := x22) (lv' := [(2, .int x22), (0, .ref h_me), (1, .ref h_a0)]) hx hb dX2_set_106 hl (k := 2) rfl ((congrArg (v2 + ·) (show Int32.ofInt 1 = (1 : Int32) from by decide)).trans ex22.symm) (by decide) rfl (fun ls hl => ?_)
        refine lv_goto (tgt := 88) hx hb dX2_set_109 (by decide) ?_
        exact ih x22 o21 o_me_now _ _ _ h hw (lv_sub hl [1, 2, 0] rfl)
  unfold f_X2_set_O at h
  refine lv_aload_n hx hb dX2_set_0 rfl (lv_at hl 0 rfl) ?_
  refine fgX2_0 hx hb hts hown hK hw 0 rfl kw295 dX2_set_1 ?_
  refine lv_aload_n hx hb dX2_set_4 rfl (lv_at hl 1 rfl) ?_
  refine fgX2_0 hx hb hts hown hK hw 3 rfl kw295 dX2_set_5 ?_
  obtain ⟨z1, ez1, h⟩ := z_bd h
  refine xj_v (xrV (As := [.ref h_a0_now]) (rest := []) ⟨hx, hb, hml, hown, hts⟩ (m_X4_set_O l dC dI _ h_me_now h_a0_now q_me_now k_me_now q_a0_now k_a0_now o_me_now o_a0_now z1 ez1) kw825 kw1119 kw823 kw824 kw116 hd_X4_set ⟨rfl, rfl⟩ rfl rfl ⟨rfl, rfl⟩ hX hK hw [1, 4] (by decide) rfl rfl rfl rfl rfl hl.1 rfl rfl dX2_set_8) hw hA [1, 4] (by decide) rfl rfl (fun H locs hw => ?_)
  have hw : Wd dC dI A s.heap [wX2 h_me h_me_now q_me k_me o_me, wX4 h_me_now q_me_now k_me_now z1, wPL o_pool, wX2 h_a0 h_a0_now q_a0 k_a0 o_a0, wX4 h_a0_now q_a0_now k_a0_now o_a0_now] H locs := hw
  refine lv_aload_n hx hb dX2_set_11 rfl (lv_at hl 1 rfl) ?_
  refine fgX2_1 hx hb hts hown hK hw 3 rfl kw300 dX2_set_12 ?_
  refine lv_iconst (v := 0) hx hb dX2_set_15 (by decide) ?_
  refine lv_aload_n hx hb dX2_set_16 rfl (lv_at hl 0 rfl) ?_
  refine fgX2_1 hx hb hts hown hK hw 0 rfl kw300 dX2_set_17 ?_
  refine lv_iconst (v := 0) hx hb dX2_set_20 (by decide) ?_
  refine lv_bipush (v := 7) hx hb dX2_set_21 (by decide) ?_
  obtain ⟨g2, h⟩ := z_gd h
  refine xcopy (n0 := 3) (j0 := 1) (u0 := 0) (n1 := 0) (j1 := 1) (u1 := 0) hx hb (hml.trans hl.1.symm) hown hts kw1120 kw812 kw811 kw125 hK hw rfl rfl rfl rfl rfl rfl rfl rfl g2 (Nat.le_of_ble_eq_true rfl) (Nat.le_of_ble_eq_true rfl) dX2_set_23 (fun H locs hw => ?_)
  obtain ⟨o3, eo3, h⟩ := z_lt h
  have hw : Wd dC dI A s.heap [wX2 h_me h_me_now q_me k_me o3, wX4 h_me_now q_me_now k_me_now z1, wPL o_pool, wX2 h_a0 h_a0_now q_a0 k_a0 o_a0, wX4 h_a0_now q_a0_now k_a0_now o_a0_now] H locs := by rw [eo3]; exact hw
  refine lv_aload_n hx hb dX2_set_26 rfl (lv_at hl 1 rfl) ?_
  refine fgX2_2 hx hb hts hown hK hw 3 rfl kw303 dX2_set_27 ?_
  refine lv_iconst (v := 0) hx hb dX2_set_30 (by decide) ?_
  refine lv_aload_n hx hb dX2_set_31 rfl (lv_at hl 0 rfl) ?_
  refine fgX2_2 hx hb hts hown hK hw 0 rfl kw303 dX2_set_32 ?_
  refine lv_iconst (v := 0) hx hb dX2_set_35 (by decide) ?_
  refine lv_bipush (v := 28) hx hb dX2_set_36 (by decide) ?_
  obtain ⟨g4, h⟩ := z_gd h
  refine xcopy (n0 := 3) (j0 := 2) (u0 := 1) (n1 := 0) (j1 := 2) (u1 := 1) hx hb (hml.trans hl.1.symm) hown hts kw1120 kw812 kw811 kw125 hK hw rfl rfl rfl rfl rfl rfl rfl rfl g4 (Nat.le_of_ble_eq_true rfl) (Nat.le_of_ble_eq_true rfl) dX2_set_38 (fun H locs hw => ?_)
  obtain ⟨o5, eo5, h⟩ := z_lt h
  have hw : Wd dC dI A s.heap [wX2 h_me h_me_now q_me k_me o5, wX4 h_me_now q_me_now k_me_now z1, wPL o_pool, wX2 h_a0 h_a0_now q_a0 k_a0 o_a0, wX4 h_a0_now q_a0_now k_a0_now o_a0_now] H locs := by rw [eo5]; exact hw
  refine lv_aload_n hx hb dX2_set_41 rfl (lv_at hl 1 rfl) ?_
  refine fgX2_3 hx hb hts hown hK hw 3 rfl kw307 dX2_set_42 ?_
  refine lv_iconst (v := 0) hx hb dX2_set_45 (by decide) ?_
  refine lv_aload_n hx hb dX2_set_46 rfl (lv_at hl 0 rfl) ?_
  refine fgX2_3 hx hb hts hown hK hw 0 rfl kw307 dX2_set_47 ?_
  refine lv_iconst (v := 0) hx hb dX2_set_50 (by decide) ?_
  refine lv_bipush (v := 7) hx hb dX2_set_51 (by decide) ?_
  obtain ⟨g6, h⟩ := z_gd h
  refine xcopy (n0 := 3) (j0 := 3) (u0 := 2) (n1 := 0) (j1 := 3) (u1 := 2) hx hb (hml.trans hl.1.symm) hown hts kw1120 kw812 kw811 kw125 hK hw rfl rfl rfl rfl rfl rfl rfl rfl g6 (Nat.le_of_ble_eq_true rfl) (Nat.le_of_ble_eq_true rfl) dX2_set_53 (fun H locs hw => ?_)
  obtain ⟨o7, eo7, h⟩ := z_lt h
  have hw : Wd dC dI A s.heap [wX2 h_me h_me_now q_me k_me o7, wX4 h_me_now q_me_now k_me_now z1, wPL o_pool, wX2 h_a0 h_a0_now q_a0 k_a0 o_a0, wX4 h_a0_now q_a0_now k_a0_now o_a0_now] H locs := by rw [eo7]; exact hw
  refine lv_aload_n hx hb dX2_set_56 rfl (lv_at hl 1 rfl) ?_
  refine fgX2_4 hx hb hts hown hK hw 3 rfl kw310 dX2_set_57 ?_
  refine lv_iconst (v := 0) hx hb dX2_set_60 (by decide) ?_
  refine lv_aload_n hx hb dX2_set_61 rfl (lv_at hl 0 rfl) ?_
  refine fgX2_4 hx hb hts hown hK hw 0 rfl kw310 dX2_set_62 ?_
  refine lv_iconst (v := 0) hx hb dX2_set_65 (by decide) ?_
  refine lv_bipush (v := 6) hx hb dX2_set_66 (by decide) ?_
  obtain ⟨g8, h⟩ := z_gd h
  refine xcopy (n0 := 3) (j0 := 4) (u0 := 3) (n1 := 0) (j1 := 4) (u1 := 3) hx hb (hml.trans hl.1.symm) hown hts kw1120 kw812 kw811 kw125 hK hw rfl rfl rfl rfl rfl rfl rfl rfl g8 (Nat.le_of_ble_eq_true rfl) (Nat.le_of_ble_eq_true rfl) dX2_set_68 (fun H locs hw => ?_)
  obtain ⟨o9, eo9, h⟩ := z_lt h
  have hw : Wd dC dI A s.heap [wX2 h_me h_me_now q_me k_me o9, wX4 h_me_now q_me_now k_me_now z1, wPL o_pool, wX2 h_a0 h_a0_now q_a0 k_a0 o_a0, wX4 h_a0_now q_a0_now k_a0_now o_a0_now] H locs := by rw [eo9]; exact hw
  refine lv_aload_n hx hb dX2_set_71 rfl (lv_at hl 1 rfl) ?_
  refine fgX2_5 hx hb hts hown hK hw 3 rfl kw312 dX2_set_72 ?_
  refine lv_iconst (v := 0) hx hb dX2_set_75 (by decide) ?_
  refine lv_aload_n hx hb dX2_set_76 rfl (lv_at hl 0 rfl) ?_
  refine fgX2_5 hx hb hts hown hK hw 0 rfl kw312 dX2_set_77 ?_
  refine lv_iconst (v := 0) hx hb dX2_set_80 (by decide) ?_
  refine lv_bipush (v := 6) hx hb dX2_set_81 (by decide) ?_
  obtain ⟨g10, h⟩ := z_gd h
  refine xcopy (n0 := 3) (j0 := 5) (u0 := 4) (n1 := 0) (j1 := 5) (u1 := 4) hx hb (hml.trans hl.1.symm) hown hts kw1120 kw812 kw811 kw125 hK hw rfl rfl rfl rfl rfl rfl rfl rfl g10 (Nat.le_of_ble_eq_true rfl) (Nat.le_of_ble_eq_true rfl) dX2_set_83 (fun H locs hw => ?_)
  obtain ⟨o11, eo11, h⟩ := z_lt h
  have hw : Wd dC dI A s.heap [wX2 h_me h_me_now q_me k_me o11, wX4 h_me_now q_me_now k_me_now z1, wPL o_pool, wX2 h_a0 h_a0_now q_a0 k_a0 o_a0, wX4 h_a0_now q_a0_now k_a0_now o_a0_now] H locs := by rw [eo11]; exact hw
  refine lv_iconst (v := 0) hx hb dX2_set_86 (by decide) ?_
  refine lv_istore_n (lv' := [(2, .int (0 : Int32)), (0, .ref h_me), (1, .ref h_a0)]) hx hb dX2_set_87 rfl hl (by decide) rfl (fun ls hl => ?_)
  exact lp_88_0  zfu (0 : Int32) o11 z1 _ _ _ h hw (lv_sub hl [1, 2, 0] rfl)

def f_X8_nextDraw (p0 : Int32) : Option (Int32) :=
  some ((((p0.toInt64 * (1103 : Int64)) + (12345 : Int64)) - ((p0.toInt64 * (1103 : Int64)) + (12345 : Int64)) / (1000003 : Int64) * (1000003 : Int64)).toInt32)
set_option maxHeartbeats 4000000 in
set_option maxRecDepth 100000 in
theorem m_X8_nextDraw (l : Launch) (dC : Nat → ClassId) (dI : Nat → Nat → Nat) (sz : Nat)  (p0 : Int32) (y : Int32) (h : f_X8_nextDraw p0 = some y) : CI l yX8_nextDraw cX8_nextDraw 1 (some .int) ({ frames := 0, cells := 0, slots := 0, locals := 0 } : Room) dC dI sz [.int p0] [] [] y [] := by
  refine CC_of (by decide) (Nat.le_of_ble_eq_true rfl) ?_
  intro p e s m below meth c A ls hx hb hml hr hlk hnm hown hts hX hK hP hD hA hl
  have hl : lv_has ls 1 [(0, .int p0)] := hl
  have hown : s.vm.findClass RX8 = some m.cls := hown
  have hw : Wd dC dI A s.heap [] s.heap [] := ⟨hP, hD, va_S.rf⟩
  generalize hQz : (MQ below (QI dC dI (fun r (_ : Unit) => r = y) (fun _ => Jn []) (fun _ => Jt []) A) ([.int p0] : List Value).toArray s 0 0 A) = Qz
  clear hP hD hnm
  unfold f_X8_nextDraw at h
  refine lv_iload_n hx hb dX8_nextDraw_0 rfl (lv_at hl 0 rfl) ?_
  refine lv_i2l hx hb dX8_nextDraw_1 rfl ?_
  refine lv_ldc2 (v := 1103) hx hb hown (hts _ kw1124) dX8_nextDraw_2 ?_
  refine lv_lmul hx hb dX8_nextDraw_5 ?_
  refine lv_ldc2 (v := 12345) hx hb hown (hts _ kw1125) dX8_nextDraw_6 ?_
  refine lv_ladd hx hb dX8_nextDraw_9 ?_
  refine lv_ldc2 (v := 1000003) hx hb hown (hts _ kw1126) dX8_nextDraw_10 ?_
  refine lv_lrem hx hb dX8_nextDraw_13 (by decide) ?_
  refine lv_l2i hx hb dX8_nextDraw_14 rfl ?_
  have hy := Option.some.inj h
  rw [← hQz, ← hy]
  exact xr_i (v := (((p0.toInt64 * (1103 : Int64)) + (12345 : Int64)) - ((p0.toInt64 * (1103 : Int64)) + (12345 : Int64)) / (1000003 : Int64) * (1000003 : Int64)).toInt32) hx hb hr rfl hlk hK hw dX8_nextDraw_15

def f_X1_at (o_me : Ob) (p0 : Int32) : Option (Int32) :=
  if p0 < (1 : Int32) then
  (some (-1 : Int32))
  else
  (if (gI o_me 4) < p0 then
  (some (-1 : Int32))
  else
  (zgd (zin (p0 - (1 : Int32)) 7) <|
  some (gA o_me 2 (p0 - (1 : Int32)).toNatClampNeg)))
set_option maxHeartbeats 4000000 in
set_option maxRecDepth 100000 in
theorem m_X1_at (l : Launch) (dC : Nat → ClassId) (dI : Nat → Nat → Nat) (sz : Nat) (h_me : Nat) (h_me_isles : Nat) (h_me_machine : Nat) (q_me : Nat → Nat) (k_me : Nat → ClassId) (o_me : Ob) (p0 : Int32) (y : Int32) (h : f_X1_at o_me p0 = some y) : CI l yX1_at cX1_at 2 (some .int) ({ frames := 0, cells := 0, slots := 0, locals := 0 } : Room) dC dI sz [.ref h_me, .int p0] [wX1 h_me h_me_isles h_me_machine q_me k_me o_me] [tX1 k_me] y [wX1 h_me h_me_isles h_me_machine q_me k_me o_me] := by
  refine CC_of (by decide) (Nat.le_of_ble_eq_true rfl) ?_
  intro p e s m below meth c A ls hx hb hml hr hlk hnm hown hts hX hK hP hD hA hl
  have hl : lv_has ls 2 [(0, .ref h_me), (1, .int p0)] := hl
  have hown : s.vm.findClass RX1 = some m.cls := hown
  have hw : Wd dC dI A s.heap [wX1 h_me h_me_isles h_me_machine q_me k_me o_me] s.heap [] := ⟨hP, hD, va_S.rf⟩
  generalize hQz : (MQ below (QI dC dI (fun r (_ : Unit) => r = y) (fun _ => Jn [wX1 h_me h_me_isles h_me_machine q_me k_me o_me]) (fun _ => Jt [tX1 k_me]) A) ([.ref h_me, .int p0] : List Value).toArray s 0 0 A) = Qz
  clear hP hD hnm
  unfold f_X1_at at h
  refine lv_iload_n hx hb dX1_at_0 rfl (lv_at hl 1 rfl) ?_
  refine lv_iconst (v := 1) hx hb dX1_at_1 (by decide) ?_
  refine lv_icmp_lt (tgt := 24) hx hb dX1_at_2 (by decide) (fun c => ?_) (fun c => ?_)
  · have h := z_t h c
    refine lv_iconst (v := (-1)) hx hb dX1_at_24 (by decide) ?_
    have hy := Option.some.inj h
    rw [← hQz, ← hy]
    exact xr_i (v := (-1 : Int32)) hx hb hr rfl hlk hK hw dX1_at_25
  · have h := z_f h c
    refine lv_iload_n hx hb dX1_at_5 rfl (lv_at hl 1 rfl) ?_
    refine lv_aload_n hx hb dX1_at_6 rfl (lv_at hl 0 rfl) ?_
    refine fgX1_4 hx hb hts hown hK hw 0 rfl kw368 dX1_at_7 ?_
    refine lv_icmp_gt (tgt := 24) hx hb dX1_at_10 (by decide) (fun c => ?_) (fun c => ?_)
    · have h := z_t h c
      refine lv_iconst (v := (-1)) hx hb dX1_at_24 (by decide) ?_
      have hy := Option.some.inj h
      rw [← hQz, ← hy]
      exact xr_i (v := (-1 : Int32)) hx hb hr rfl hlk hK hw dX1_at_25
    · have h := z_f h c
      refine lv_aload_n hx hb dX1_at_13 rfl (lv_at hl 0 rfl) ?_
      refine fgX1_2 hx hb hts hown hK hw 0 rfl kw366 dX1_at_14 ?_
      refine lv_iload_n hx hb dX1_at_17 rfl (lv_at hl 1 rfl) ?_
      refine lv_iconst (v := 1) hx hb dX1_at_18 (by decide) ?_
      refine lv_isub hx hb dX1_at_19 ?_
      obtain ⟨g1, h⟩ := z_gd h
      refine faX1_2 hx hb hK hw 0 rfl rfl g1 dX1_at_20 ?_
      refine lv_goto (tgt := 25) hx hb dX1_at_21 (by decide) ?_
      have hy := Option.some.inj h
      rw [← hQz, ← hy]
      exact xr_i (v := gA o_me 2 (p0 - (1 : Int32)).toNatClampNeg) hx hb hr rfl hlk hK hw dX1_at_25

def f_X1_wins_Q (o_me : Ob) (o_me_isles : Ob) (o_me_isles_now : Ob) (o_me_machine : Ob) (o_pool : List CR) (p0 : Option Nat) (p1 : Int32) (p2 : Int32) (p3 : Int32) : Option (Int32 × Ob) :=
  (zop p0 o_pool ((f_X1_told_N o_me (2 : Int32) p1 p2 p3).map (fun v => (v, o_me_machine))) (fun cr => f_X1_told_O cr.2.2.2.1 cr.2.2.2.2.1 o_me o_me_isles o_me_isles_now o_me_machine cr.2.2.2.2.2 (2 : Int32) p1 p2 p3)).bind fun z1 =>
  if (lg_cmp z1.1 (-9000000000000000000 : Int64)) = (0 : Int32) then
  (some ((4 : Int32) - p3, z1.2))
  else
  ((f_X1_nearest z1.1 (9 : Int32)).bind fun z2 =>
  some (z2, z1.2))
set_option maxHeartbeats 4000000 in
set_option maxRecDepth 100000 in
theorem m_X1_wins_Q (l : Launch) (dC : Nat → ClassId) (dI : Nat → Nat → Nat) (sz : Nat) (h_me : Nat) (h_me_isles : Nat) (h_me_machine : Nat) (h_me_isles_now : Nat) (q_me : Nat → Nat) (k_me : Nat → ClassId) (q_me_isles : Nat → Nat) (k_me_isles : Nat → ClassId) (q_me_isles_now : Nat → Nat) (k_me_isles_now : Nat → ClassId) (q_me_machine : Nat → Nat) (k_me_machine : Nat → ClassId) (o_me : Ob) (o_me_isles : Ob) (o_me_isles_now : Ob) (o_me_machine : Ob) (o_pool : List CR) (p0 : Option Nat) (p1 : Int32) (p2 : Int32) (p3 : Int32) (y : Int32 × Ob) (h : f_X1_wins_Q o_me o_me_isles o_me_isles_now o_me_machine o_pool p0 p1 p2 p3 = some y) : CI l yX1_wins cX1_wins 7 (some .int) ({ frames := 3, cells := 0, slots := 0, locals := 84 } : Room) dC dI sz [.ref h_me, va_rf p0, .int p1, .int p2, .int p3] [wX1 h_me h_me_isles h_me_machine q_me k_me o_me, wX2 h_me_isles h_me_isles_now q_me_isles k_me_isles o_me_isles, wX4 h_me_isles_now q_me_isles_now k_me_isles_now o_me_isles_now, wX3 h_me_machine q_me_machine k_me_machine o_me_machine, wPL o_pool] [tX1 k_me, tX2 k_me_isles, tX4 k_me_isles_now, tX3 k_me_machine, tPL o_pool] y.1 [wX1 h_me h_me_isles h_me_machine q_me k_me o_me, wX2 h_me_isles h_me_isles_now q_me_isles k_me_isles o_me_isles, wX4 h_me_isles_now q_me_isles_now k_me_isles_now o_me_isles_now, wX3 h_me_machine q_me_machine k_me_machine y.2, wPL o_pool] := by
  refine CC_of (by decide) (by cases p0 <;> exact Nat.le_of_ble_eq_true rfl) ?_
  intro p e s m below meth c A ls hx hb hml hr hlk hnm hown hts hX hK hP hD hA hl
  have hl : lv_has ls 7 [(0, .ref h_me), (1, va_rf p0), (2, .int p1), (3, .int p2), (4, .int p3)] := by
    have e9 : lv_args 0 [.ref h_me, va_rf p0, .int p1, .int p2, .int p3] = [(0, .ref h_me), (1, va_rf p0), (2, .int p1), (3, .int p2), (4, .int p3)] := by cases p0 <;> rfl
    rw [← e9]; exact hl
  have hown : s.vm.findClass RX1 = some m.cls := hown
  have hw : Wd dC dI A s.heap [wX1 h_me h_me_isles h_me_machine q_me k_me o_me, wX2 h_me_isles h_me_isles_now q_me_isles k_me_isles o_me_isles, wX4 h_me_isles_now q_me_isles_now k_me_isles_now o_me_isles_now, wX3 h_me_machine q_me_machine k_me_machine o_me_machine, wPL o_pool] s.heap [] := ⟨hP, hD, va_S.rf⟩
  generalize hQz : (MQ below (QI dC dI (fun r (_ : Unit) => r = y.1) (fun _ => Jn [wX1 h_me h_me_isles h_me_machine q_me k_me o_me, wX2 h_me_isles h_me_isles_now q_me_isles k_me_isles o_me_isles, wX4 h_me_isles_now q_me_isles_now k_me_isles_now o_me_isles_now, wX3 h_me_machine q_me_machine k_me_machine y.2, wPL o_pool]) (fun _ => Jt [tX1 k_me, tX2 k_me_isles, tX4 k_me_isles_now, tX3 k_me_machine, tPL o_pool]) A) ([.ref h_me, va_rf p0, .int p1, .int p2, .int p3] : List Value).toArray s 0 0 A) = Qz
  clear hP hD hnm
  unfold f_X1_wins_Q at h
  refine lv_aload_n hx hb dX1_wins_0 rfl (lv_at hl 0 rfl) ?_
  refine xaload_n hx hb dX1_wins_1 rfl (lv_at hl 1 rfl) ?_
  refine lv_iconst (v := 2) hx hb dX1_wins_2 (by decide) ?_
  refine lv_iload_n hx hb dX1_wins_3 rfl (lv_at hl 2 rfl) ?_
  refine lv_iload_n hx hb dX1_wins_4 rfl (lv_at hl 3 rfl) ?_
  refine lv_iload hx hb dX1_wins_5 (lv_at hl 4 rfl) ?_
  obtain ⟨z1, ez1, h⟩ := z_bd h
  have kk9 : ∀ (H : Heap) (locs : List Loc), Wd dC dI A s.heap [wX1 h_me h_me_isles h_me_machine q_me k_me o_me, wX2 h_me_isles h_me_isles_now q_me_isles k_me_isles o_me_isles, wX4 h_me_isles_now q_me_isles_now k_me_isles_now o_me_isles_now, wX3 h_me_machine q_me_machine k_me_machine z1.2, wPL o_pool] H locs → W p l e ({ frames := 3, cells := 0, slots := 0, locals := 84 } : Room) s m ([.ref h_me, va_rf p0, .int p1, .int p2, .int p3] : List Value).toArray below meth c H locs 0 0 Qz (F0 m 10 ls [.long z1.1]) := by
    intro H locs hw
    refine lv_lstore (lv' := [(5, .long z1.1), (0, .ref h_me), (1, va_rf p0), (2, .int p1), (3, .int p2), (4, .int p3)]) hx hb dX1_wins_10 hl (by decide) rfl (fun ls hl => ?_)
    refine lv_lload hx hb dX1_wins_12 (lv_at hl 0 rfl) ?_
    refine lv_ldc2 (v := (-9000000000000000000)) hx hb hown (hts _ kw550) dX1_wins_14 ?_
    refine W.lcmp hx hb dX1_wins_17 ?_
    refine lv_if_ne (tgt := 28) hx hb dX1_wins_18 (by decide) (fun c => ?_) (fun c => ?_)
    · have h := z_f h c
      refine lv_lload hx hb dX1_wins_28 (lv_at hl 0 rfl) ?_
      refine lv_bipush (v := 9) hx hb dX1_wins_30 (by decide) ?_
      obtain ⟨z2, ez2, h⟩ := z_bd h
      refine xj_i (xrS (As := [.long z1.1, .int (9 : Int32)]) (rest := []) ⟨hx, hb, hml, hown, hts⟩ (m_X1_nearest l dC dI _  z1.1 (9 : Int32) z2 ez2) kw575 kw573 kw574 kw117 hd_X1_nearest ⟨rfl, rfl⟩ rfl rfl ⟨rfl, rfl⟩ hX hK hw [] (by decide) rfl rfl hl.1 rfl rfl dX1_wins_32) hw hA [] (by decide) rfl rfl (fun H locs hw => ?_)
      have hy := Option.some.inj h
      rw [← hQz, ← hy]
      exact xr_i (v := z2) hx hb hr rfl hlk hK hw dX1_wins_35
    · have h := z_t h c
      refine lv_iconst (v := 4) hx hb dX1_wins_21 (by decide) ?_
      refine lv_iload hx hb dX1_wins_22 (lv_at hl 5 rfl) ?_
      refine lv_isub hx hb dX1_wins_24 ?_
      refine lv_goto (tgt := 35) hx hb dX1_wins_25 (by decide) ?_
      have hy := Option.some.inj h
      rw [← hQz, ← hy]
      exact xr_i (v := (4 : Int32) - p3) hx hb hr rfl hlk hK hw dX1_wins_35
  rcases z_op ez1 with ⟨er, ek⟩ | ⟨⟨h_law, q_law, k_law, nc_law, ns_law, o_law⟩, l1, l2, er, el, ek⟩
  · refine W.eq (g2 := F0 m 7 ls [.int p3, .int p2, .int p1, .int (2 : Int32), .null, .ref h_me]) (by rw [er]; rfl) ?_
    obtain ⟨v9, ev9, ek⟩ := Option.map_eq_some_iff.mp ek
    refine xj_l (xrV (As := [.null, .int (2 : Int32), .int p1, .int p2, .int p3]) (rest := []) ⟨hx, hb, hml, hown, hts⟩ (m_X1_told_N l dC dI _ h_me h_me_isles h_me_machine q_me k_me o_me (2 : Int32) p1 p2 p3 v9 ev9) kw547 kw544 kw546 kw2 kw117 hd_X1_told ⟨rfl, rfl⟩ rfl rfl ⟨rfl, rfl⟩ hX hK hw [0] (by decide) rfl rfl rfl rfl rfl hl.1 rfl rfl dX1_wins_7) hw hA [0] (by decide) rfl rfl (fun H locs hw => ?_)
    refine lv_fl (v := z1.1) (by rw [← ek]) ?_
    refine kk9 H locs ?_
    rw [← ek]
    exact hw
  · refine W.eq (g2 := F0 m 7 ls [.int p3, .int p2, .int p1, .int (2 : Int32), .ref h_law, .ref h_me]) (by rw [er]; rfl) ?_
    have hw := wd_split 4 (l1 := l1) (l2 := l2) (c := (h_law, q_law, k_law, nc_law, ns_law, o_law)) (by rw [← el]; rfl) hw
    have hK9 := wk_split (Ts := [tX1 k_me, tX2 k_me_isles, tX4 k_me_isles_now, tX3 k_me_machine, tPL o_pool]) 4 (l1 := l1) (l2 := l2) (c := (h_law, q_law, k_law, nc_law, ns_law, o_law)) (by rw [← el]; rfl) hK
    have hw : Wd dC dI A s.heap [wX1 h_me h_me_isles h_me_machine q_me k_me o_me, wX2 h_me_isles h_me_isles_now q_me_isles k_me_isles o_me_isles, wX4 h_me_isles_now q_me_isles_now k_me_isles_now o_me_isles_now, wX3 h_me_machine q_me_machine k_me_machine o_me_machine, wPL (l1 ++ l2), wX0 h_law nc_law ns_law q_law k_law o_law] _ _ := hw
    have hK9 : va_K (dC, dI) vwCl (Jt [tX1 k_me, tX2 k_me_isles, tX4 k_me_isles_now, tX3 k_me_machine, tPL (l1 ++ l2), tX0 k_law]) s := hK9
    refine xj_l (xrV (As := [.ref h_law, .int (2 : Int32), .int p1, .int p2, .int p3]) (rest := []) ⟨hx, hb, hml, hown, hts⟩ (m_X1_told_O l dC dI _ h_me h_me_isles h_me_machine h_me_isles_now h_law q_me k_me q_me_isles k_me_isles q_me_isles_now k_me_isles_now q_me_machine k_me_machine q_law k_law nc_law ns_law o_me o_me_isles o_me_isles_now o_me_machine o_law (2 : Int32) p1 p2 p3 z1 ek) kw547 kw544 kw546 kw2 kw117 hd_X1_told ⟨rfl, rfl⟩ rfl rfl ⟨rfl, rfl⟩ hX hK9 hw [0, 1, 2, 3, 5] (by decide) rfl rfl rfl rfl rfl hl.1 rfl rfl dX1_wins_7) hw hA [0, 1, 2, 3, 5] (by decide) rfl rfl (fun H locs hw => ?_)
    have hw := wd_join 4 (l1 := l1) (l2 := l2) (c := (h_law, q_law, k_law, nc_law, ns_law, o_law)) (Ls := [wX1 h_me h_me_isles h_me_machine q_me k_me o_me, wX2 h_me_isles h_me_isles_now q_me_isles k_me_isles o_me_isles, wX4 h_me_isles_now q_me_isles_now k_me_isles_now o_me_isles_now, wX3 h_me_machine q_me_machine k_me_machine z1.2, wPL o_pool]) rfl hw
    rw [← el] at hw
    exact kk9 H locs hw

def f_X4_addPrizes (o_me : Ob) (p0 : Int32) (p1 : Int32) : Option (Ob) :=
  zgd (zin p0 7) <|
  zgd (zin p0 7) <|
  zlt (tA o_me 1 p0.toNatClampNeg (if ((gA o_me 1 p0.toNatClampNeg) + p1) < (999 : Int32) then ((gA o_me 1 p0.toNatClampNeg) + p1) else (999 : Int32))) fun o3 =>
  some o3
set_option maxHeartbeats 4000000 in
set_option maxRecDepth 100000 in
theorem m_X4_addPrizes (l : Launch) (dC : Nat → ClassId) (dI : Nat → Nat → Nat) (sz : Nat) (h_me : Nat) (q_me : Nat → Nat) (k_me : Nat → ClassId) (o_me : Ob) (p0 : Int32) (p1 : Int32) (y : Ob) (h : f_X4_addPrizes o_me p0 p1 = some y) : CV l yX4_addPrizes cX4_addPrizes 3 none ({ frames := 1, cells := 0, slots := 0, locals := 15 } : Room) dC dI sz [.ref h_me, .int p0, .int p1] [wX4 h_me q_me k_me o_me] [tX4 k_me] [wX4 h_me q_me k_me y] := by
  refine CC_of (by decide) (Nat.le_of_ble_eq_true rfl) ?_
  intro p e s m below meth c A ls hx hb hml hr hlk hnm hown hts hX hK hP hD hA hl
  have hl : lv_has ls 3 [(0, .ref h_me), (1, .int p0), (2, .int p1)] := hl
  have hown : s.vm.findClass RX4 = some m.cls := hown
  have hw : Wd dC dI A s.heap [wX4 h_me q_me k_me o_me] s.heap [] := ⟨hP, hD, va_S.rf⟩
  generalize hQz : (MQ below (QV dC dI (fun (_ : Unit) => True) (fun _ => Jn [wX4 h_me q_me k_me y]) (fun _ => Jt [tX4 k_me]) A) ([.ref h_me, .int p0, .int p1] : List Value).toArray s 0 0 A) = Qz
  clear hP hD hnm
  unfold f_X4_addPrizes at h
  refine lv_aload_n hx hb dX4_addPrizes_0 rfl (lv_at hl 0 rfl) ?_
  refine fgX4_1 hx hb hts hown hK hw 0 rfl kw265 dX4_addPrizes_1 ?_
  refine lv_iload_n hx hb dX4_addPrizes_4 rfl (lv_at hl 1 rfl) ?_
  refine lv_sipush (v := 999) hx hb dX4_addPrizes_5 (by decide) ?_
  refine lv_aload_n hx hb dX4_addPrizes_8 rfl (lv_at hl 0 rfl) ?_
  refine fgX4_1 hx hb hts hown hK hw 0 rfl kw265 dX4_addPrizes_9 ?_
  refine lv_iload_n hx hb dX4_addPrizes_12 rfl (lv_at hl 1 rfl) ?_
  obtain ⟨g1, h⟩ := z_gd h
  refine faX4_1 hx hb hK hw 0 rfl rfl g1 dX4_addPrizes_13 ?_
  refine lv_iload_n hx hb dX4_addPrizes_14 rfl (lv_at hl 2 rfl) ?_
  refine lv_iadd hx hb dX4_addPrizes_15 ?_
  refine va_mmin hx hb (hml.trans hl.1.symm) hown (hts _ kw881) (hts _ kw561) (hts _ kw113) (hts _ kw562) (Nat.le_of_ble_eq_true rfl) (Nat.le_of_ble_eq_true rfl) (Nat.le_of_ble_eq_true rfl) (Nat.le_of_ble_eq_true rfl) dX4_addPrizes_16 ?_
  obtain ⟨g2, h⟩ := z_gd h
  refine fbX4_1 hx hb hK hw 0 rfl rfl g2 dX4_addPrizes_19 (fun H locs hw => ?_)
  obtain ⟨o3, eo3, h⟩ := z_lt h
  have hw : Wd dC dI A s.heap [wX4 h_me q_me k_me o3] H locs := by rw [eo3]; exact hw
  have hy := Option.some.inj h
  rw [← hQz, ← hy]
  exact xr_v hx hb hr hlk hK hw dX4_addPrizes_20

def lb_X1_heldRace_186 (o_me : Ob) (o_me_isles : Ob) (o_pool : List CR)  (rec_186_6 : Int32 × Int32 × Ob × Ob → Option (Int32 × Ob × Ob)) (v3 : Int32) (v9 : Int32) (o_me_isles_now : Ob) (o_me_machine : Ob) : Option (Int32 × Ob × Ob) :=
  if (gI o_me 4) ≤ v9 then
  (some (v3, o_me_isles_now, o_me_machine))
  else
  (zgd (zin v9 7) <|
  zlt (sI o_me_isles_now 2 ((gI o_me_isles_now 2) &&& (((1 : Int32) <<< ((gA o_me 2 v9.toNatClampNeg) &&& 31)) ^^^ (-1 : Int32)))) fun o9 =>
  zlt (v9 + (1 : Int32)) fun x10 =>
  rec_186_6 (v3, x10, o9, o_me_machine))
def lp_X1_heldRace_186 (o_me : Ob) (o_me_isles : Ob) (o_pool : List CR)  : Nat → (Int32 × Int32 × Ob × Ob) → Option (Int32 × Ob × Ob) := zit (fun rec a => lb_X1_heldRace_186 o_me o_me_isles o_pool  rec a.1 a.2.1 a.2.2.1 a.2.2.2)
def bk_X1_heldRace_183 (o_me : Ob) (o_me_isles : Ob) (o_pool : List CR)  (v3 : Int32) (o_me_isles_now : Ob) (o_me_machine : Ob) : Option (Int32 × Ob × Ob) :=
  lp_X1_heldRace_186 o_me o_me_isles o_pool  zfu (v3, (0 : Int32), o_me_isles_now, o_me_machine)
def bk_X1_heldRace_163 (o_me : Ob) (o_me_isles : Ob) (o_pool : List CR)  (v3 : Int32) (v5 : Int32) (v8 : Int32) (o_me_isles_now : Ob) (o_me_machine : Ob) : Option (Int32 × Ob × Ob) :=
  if v5 = (-1 : Int32) then
  (bk_X1_heldRace_183 o_me o_me_isles o_pool  v3 o_me_isles_now o_me_machine)
  else
  ((f_X4_addPrizes o_me_isles_now v5 v8).bind fun z11 =>
  bk_X1_heldRace_183 o_me o_me_isles o_pool  v3 z11 o_me_machine)
def bk_X1_heldRace_145 (o_me : Ob) (o_me_isles : Ob) (o_pool : List CR)  (v3 : Int32) (v5 : Int32) (v6 : Int32) (v8 : Int32) (o_me_isles_now : Ob) (o_me_machine : Ob) : Option (Int32 × Ob × Ob) :=
  if v3 = (-1 : Int32) then
  (bk_X1_heldRace_163 o_me o_me_isles o_pool  v3 v5 v8 o_me_isles_now o_me_machine)
  else
  ((f_X4_addPrizes o_me_isles_now v3 v6).bind fun z12 =>
  bk_X1_heldRace_163 o_me o_me_isles o_pool  v3 v5 v8 z12 o_me_machine)
def bk_X1_heldRace_87 (o_me : Ob) (o_me_isles : Ob) (o_pool : List CR)  (v1 : Int32) (v2 : Option Nat) (v3 : Int32) (v4 : Int32) (v5 : Int32) (v6 : Int32) (v7 : Int32) (s0 : Int32) (o_me_isles_now : Ob) (o_me_machine : Ob) : Option (Int32 × Ob × Ob) :=
  if v4 = (-1 : Int32) then
  (bk_X1_heldRace_145 o_me o_me_isles o_pool  v3 v5 v6 s0 o_me_isles_now o_me_machine)
  else
  ((f_X1_turnsTo_Q o_me o_me_isles o_me_isles_now o_me_machine o_pool v2 v4 v1).bind fun z13 =>
  zgd (zin v4 7) <|
  zlt (tA o_me_isles_now 0 v4.toNatClampNeg z13.1) fun o15 =>
  zlt (sI o15 3 (if ((gI o15 3) + v7) < (999 : Int32) then ((gI o15 3) + v7) else (999 : Int32))) fun o16 =>
  bk_X1_heldRace_145 o_me o_me_isles o_pool  v3 v5 v6 s0 o16 z13.2)
def bk_X1_heldRace_66 (o_me : Ob) (o_me_isles : Ob) (o_pool : List CR)  (v1 : Int32) (v2 : Option Nat) (v3 : Int32) (v4 : Int32) (v5 : Int32) (v6 : Int32) (s0 : Int32) (o_me_isles_now : Ob) (o_me_machine : Ob) : Option (Int32 × Ob × Ob) :=
  if v5 = (-1 : Int32) then
  (bk_X1_heldRace_87 o_me o_me_isles o_pool  v1 v2 v3 v4 v5 v6 s0 (0 : Int32) o_me_isles_now o_me_machine)
  else
  ((f_X1_wins_Q o_me o_me_isles o_me_isles_now o_me_machine o_pool v2 v5 v1 (3 : Int32)).bind fun z7 =>
  bk_X1_heldRace_87 o_me o_me_isles o_pool  v1 v2 v3 v4 v5 v6 s0 z7.1 o_me_isles_now z7.2)
def bk_X1_heldRace_45 (o_me : Ob) (o_me_isles : Ob) (o_pool : List CR)  (v1 : Int32) (v2 : Option Nat) (v3 : Int32) (v4 : Int32) (v5 : Int32) (s0 : Int32) (o_me_isles_now : Ob) (o_me_machine : Ob) : Option (Int32 × Ob × Ob) :=
  if v4 = (-1 : Int32) then
  (bk_X1_heldRace_66 o_me o_me_isles o_pool  v1 v2 v3 v4 v5 s0 (0 : Int32) o_me_isles_now o_me_machine)
  else
  ((f_X1_wins_Q o_me o_me_isles o_me_isles_now o_me_machine o_pool v2 v4 v1 (2 : Int32)).bind fun z6 =>
  bk_X1_heldRace_66 o_me o_me_isles o_pool  v1 v2 v3 v4 v5 s0 z6.1 o_me_isles_now z6.2)
def f_X1_heldRace (o_me : Ob) (o_me_isles : Ob) (o_me_isles_now : Ob) (o_me_machine : Ob) (o_pool : List CR) (p0 : Int32) : Option (Int32 × Ob × Ob) :=
  (f_X2_lawInForce o_me_isles).bind fun z1 =>
  (f_X1_at o_me (1 : Int32)).bind fun z2 =>
  (f_X1_at o_me (2 : Int32)).bind fun z3 =>
  (f_X1_at o_me (3 : Int32)).bind fun z4 =>
  if z2 = (-1 : Int32) then
  (bk_X1_heldRace_45 o_me o_me_isles o_pool  p0 z1 z2 z3 z4 (0 : Int32) o_me_isles_now o_me_machine)
  else
  ((f_X1_wins_Q o_me o_me_isles o_me_isles_now o_me_machine o_pool z1 z2 p0 (1 : Int32)).bind fun z5 =>
  bk_X1_heldRace_45 o_me o_me_isles o_pool  p0 z1 z2 z3 z4 z5.1 o_me_isles_now z5.2)
set_option maxHeartbeats 4000000 in
set_option maxRecDepth 100000 in
theorem m_X1_heldRace (l : Launch) (dC : Nat → ClassId) (dI : Nat → Nat → Nat) (sz : Nat) (h_me : Nat) (h_me_isles : Nat) (h_me_machine : Nat) (h_me_isles_now : Nat) (q_me : Nat → Nat) (k_me : Nat → ClassId) (q_me_isles : Nat → Nat) (k_me_isles : Nat → ClassId) (q_me_isles_now : Nat → Nat) (k_me_isles_now : Nat → ClassId) (q_me_machine : Nat → Nat) (k_me_machine : Nat → ClassId) (o_me : Ob) (o_me_isles : Ob) (o_me_isles_now : Ob) (o_me_machine : Ob) (o_pool : List CR) (p0 : Int32) (y : Int32 × Ob × Ob) (h : f_X1_heldRace o_me o_me_isles o_me_isles_now o_me_machine o_pool p0 = some y) : CI l yX1_heldRace cX1_heldRace 10 (some .int) ({ frames := 4, cells := 0, slots := 0, locals := 110 } : Room) dC dI sz [.ref h_me, .int p0] [wX1 h_me h_me_isles h_me_machine q_me k_me o_me, wX2 h_me_isles h_me_isles_now q_me_isles k_me_isles o_me_isles, wX4 h_me_isles_now q_me_isles_now k_me_isles_now o_me_isles_now, wX3 h_me_machine q_me_machine k_me_machine o_me_machine, wPL o_pool] [tX1 k_me, tX2 k_me_isles, tX4 k_me_isles_now, tX3 k_me_machine, tPL o_pool] y.1 [wX1 h_me h_me_isles h_me_machine q_me k_me o_me, wX2 h_me_isles h_me_isles_now q_me_isles k_me_isles o_me_isles, wX4 h_me_isles_now q_me_isles_now k_me_isles_now y.2.1, wX3 h_me_machine q_me_machine k_me_machine y.2.2, wPL o_pool] := by
  refine CC_of (by decide) (Nat.le_of_ble_eq_true rfl) ?_
  intro p e s m below meth c A ls hx hb hml hr hlk hnm hown hts hX hK hP hD hA hl
  have hl : lv_has ls 10 [(0, .ref h_me), (1, .int p0)] := hl
  have hown : s.vm.findClass RX1 = some m.cls := hown
  have hw : Wd dC dI A s.heap [wX1 h_me h_me_isles h_me_machine q_me k_me o_me, wX2 h_me_isles h_me_isles_now q_me_isles k_me_isles o_me_isles, wX4 h_me_isles_now q_me_isles_now k_me_isles_now o_me_isles_now, wX3 h_me_machine q_me_machine k_me_machine o_me_machine, wPL o_pool] s.heap [] := ⟨hP, hD, va_S.rf⟩
  generalize hQz : (MQ below (QI dC dI (fun r (_ : Unit) => r = y.1) (fun _ => Jn [wX1 h_me h_me_isles h_me_machine q_me k_me o_me, wX2 h_me_isles h_me_isles_now q_me_isles k_me_isles o_me_isles, wX4 h_me_isles_now q_me_isles_now k_me_isles_now y.2.1, wX3 h_me_machine q_me_machine k_me_machine y.2.2, wPL o_pool]) (fun _ => Jt [tX1 k_me, tX2 k_me_isles, tX4 k_me_isles_now, tX3 k_me_machine, tPL o_pool]) A) ([.ref h_me, .int p0] : List Value).toArray s 0 0 A) = Qz
  clear hP hD hnm
  have lp_186_6 : ∀ (N : Nat), ∀ (v3 : Int32) (v9 : Int32) (o_me_isles_now : Ob) (o_me_machine : Ob) (H : Heap) (locs : List Loc) (ls : Array Slot), lp_X1_heldRace_186 o_me o_me_isles o_pool  N (v3, v9, o_me_isles_now, o_me_machine) = some y → Wd dC dI A s.heap [wX1 h_me h_me_isles h_me_machine q_me k_me o_me, wX2 h_me_isles h_me_isles_now q_me_isles k_me_isles o_me_isles, wX4 h_me_isles_now q_me_isles_now k_me_isles_now o_me_isles_now, wX3 h_me_machine q_me_machine k_me_machine o_me_machine, wPL o_pool] H locs → lv_has ls 10 [(0, .ref h_me), (3, .int v3), (9, .int v9)] → W p l e ({ frames := 4, cells := 0, slots := 0, locals := 110 } : Room) s m ([.ref h_me, .int p0] : List Value).toArray below meth c H locs 0 0 Qz (F0 m 186 ls []) := by
    intro N
    induction N with
    | zero =>
      intro v3 v9 o_me_isles_now o_me_machine H locs ls h hw hl
      exact absurd (show (none : Option (Int32 × Ob × Ob)) = some y from h) (by simp)
    | succ N ih =>
      intro v3 v9 o_me_isles_now o_me_machine H locs ls h hw hl
      have h : lb_X1_heldRace_186 o_me o_me_isles o_pool  (lp_X1_heldRace_186 o_me o_me_isles o_pool  N) v3 v9 o_me_isles_now o_me_machine = some y := h
      unfold lb_X1_heldRace_186 at h
      refine lv_iload hx hb dX1_heldRace_186 (lv_at hl 2 rfl) ?_
      refine lv_aload_n hx hb dX1_heldRace_188 rfl (lv_at hl 0 rfl) ?_
      refine fgX1_4 hx hb hts hown hK hw 0 rfl kw368 dX1_heldRace_189 ?_
      refine lv_icmp_ge (tgt := 227) hx hb dX1_heldRace_192 (by decide) (fun c => ?_) (fun c => ?_)
      · have h := z_t h c
        refine lv_iload_n hx hb dX1_heldRace_227 rfl (lv_at hl 1 rfl) ?_
        have hy := Option.some.inj h
        rw [← hQz, ← hy]
        exact xr_i (v := v3) hx hb hr rfl hlk hK hw dX1_heldRace_228
      · have h := z_f h c
        refine lv_aload_n hx hb dX1_heldRace_195 rfl (lv_at hl 0 rfl) ?_
        refine fgX1_0 hx hb hts hown hK hw 0 rfl kw363 dX1_heldRace_196 ?_
        refine fgX2_0 hx hb hts hown hK hw 1 rfl kw299 dX1_heldRace_199 ?_
        refine lv_dup hx hb dX1_heldRace_202 rfl ?_
        refine fgX4_2 hx hb hts hown hK hw 2 rfl kw271 dX1_heldRace_203 ?_
        refine lv_iconst (v := 1) hx hb dX1_heldRace_206 (by decide) ?_
        refine lv_aload_n hx hb dX1_heldRace_207 rfl (lv_at hl 0 rfl) ?_
        refine fgX1_2 hx hb hts hown hK hw 0 rfl kw366 dX1_heldRace_208 ?_
        refine lv_iload hx hb dX1_heldRace_211 (lv_at hl 2 rfl) ?_
        obtain ⟨g8, h⟩ := z_gd h
        refine faX1_2 hx hb hK hw 0 rfl rfl g8 dX1_heldRace_213 ?_
        refine lv_ishl hx hb dX1_heldRace_214 ?_
        refine lv_iconst (v := (-1)) hx hb dX1_heldRace_215 (by decide) ?_
        refine lv_ixor hx hb dX1_heldRace_216 ?_
        refine lv_iand hx hb dX1_heldRace_217 ?_
        refine fpX4_2 hx hb hts hown hK hw 2 rfl kw271 dX1_heldRace_218 (fun H locs hw => ?_)
        obtain ⟨o9, eo9, h⟩ := z_lt h
        have hw : Wd dC dI A s.heap [wX1 h_me h_me_isles h_me_machine q_me k_me o_me, wX2 h_me_isles h_me_isles_now q_me_isles k_me_isles o_me_isles, wX4 h_me_isles_now q_me_isles_now k_me_isles_now o9, wX3 h_me_machine q_me_machine k_me_machine o_me_machine, wPL o_pool] H locs := by rw [eo9]; exact hw
        obtain ⟨x10, ex10, h⟩ := z_lt h
        refine lv_iinc (v := x10) (lv' := [(9, .int x10), (0, .ref h_me), (3, .int v3)]) hx hb dX1_heldRace_221 hl (k := 2) rfl ((congrArg (v9 + ·) (show Int32.ofInt 1 = (1 : Int32) from by decide)).trans ex10.symm) (by decide) rfl (fun ls hl => ?_)
        refine lv_goto (tgt := 186) hx hb dX1_heldRace_224 (by decide) ?_
        exact ih v3 x10 o9 o_me_machine _ _ _ h hw (lv_sub hl [1, 2, 0] rfl)
  have bk_183_5 : ∀ (v3 : Int32) (o_me_isles_now : Ob) (o_me_machine : Ob) (H : Heap) (locs : List Loc) (ls : Array Slot), bk_X1_heldRace_183 o_me o_me_isles o_pool  v3 o_me_isles_now o_me_machine = some y → Wd dC dI A s.heap [wX1 h_me h_me_isles h_me_machine q_me k_me o_me, wX2 h_me_isles h_me_isles_now q_me_isles k_me_isles o_me_isles, wX4 h_me_isles_now q_me_isles_now k_me_isles_now o_me_isles_now, wX3 h_me_machine q_me_machine k_me_machine o_me_machine, wPL o_pool] H locs → lv_has ls 10 [(0, .ref h_me), (3, .int v3)] → W p l e ({ frames := 4, cells := 0, slots := 0, locals := 110 } : Room) s m ([.ref h_me, .int p0] : List Value).toArray below meth c H locs 0 0 Qz (F0 m 183 ls []) := by
    intro v3 o_me_isles_now o_me_machine H locs ls h hw hl
    unfold bk_X1_heldRace_183 at h
    refine lv_iconst (v := 0) hx hb dX1_heldRace_183 (by decide) ?_
    refine lv_istore (lv' := [(9, .int (0 : Int32)), (0, .ref h_me), (3, .int v3)]) hx hb dX1_heldRace_184 hl (by decide) rfl (fun ls hl => ?_)
    exact lp_186_6  zfu v3 (0 : Int32) o_me_isles_now o_me_machine _ _ _ h hw (lv_sub hl [1, 2, 0] rfl)
  have bk_163_4 : ∀ (v3 : Int32) (v5 : Int32) (v8 : Int32) (o_me_isles_now : Ob) (o_me_machine : Ob) (H : Heap) (locs : List Loc) (ls : Array Slot), bk_X1_heldRace_163 o_me o_me_isles o_pool  v3 v5 v8 o_me_isles_now o_me_machine = some y → Wd dC dI A s.heap [wX1 h_me h_me_isles h_me_machine q_me k_me o_me, wX2 h_me_isles h_me_isles_now q_me_isles k_me_isles o_me_isles, wX4 h_me_isles_now q_me_isles_now k_me_isles_now o_me_isles_now, wX3 h_me_machine q_me_machine k_me_machine o_me_machine, wPL o_pool] H locs → lv_has ls 10 [(0, .ref h_me), (3, .int v3), (5, .int v5), (8, .int v8)] → W p l e ({ frames := 4, cells := 0, slots := 0, locals := 110 } : Room) s m ([.ref h_me, .int p0] : List Value).toArray below meth c H locs 0 0 Qz (F0 m 163 ls []) := by
    intro v3 v5 v8 o_me_isles_now o_me_machine H locs ls h hw hl
    unfold bk_X1_heldRace_163 at h
    refine lv_iload hx hb dX1_heldRace_163 (lv_at hl 2 rfl) ?_
    refine lv_iconst (v := (-1)) hx hb dX1_heldRace_165 (by decide) ?_
    refine lv_icmp_eq (tgt := 183) hx hb dX1_heldRace_166 (by decide) (fun c => ?_) (fun c => ?_)
    · have h := z_t h c
      exact bk_183_5  v3 o_me_isles_now o_me_machine _ _ _ h hw (lv_sub hl [0, 1] rfl)
    · have h := z_f h c
      refine lv_aload_n hx hb dX1_heldRace_169 rfl (lv_at hl 0 rfl) ?_
      refine fgX1_0 hx hb hts hown hK hw 0 rfl kw363 dX1_heldRace_170 ?_
      refine fgX2_0 hx hb hts hown hK hw 1 rfl kw299 dX1_heldRace_173 ?_
      refine lv_iload hx hb dX1_heldRace_176 (lv_at hl 2 rfl) ?_
      refine lv_iload hx hb dX1_heldRace_178 (lv_at hl 3 rfl) ?_
      obtain ⟨z11, ez11, h⟩ := z_bd h
      refine xj_v (xrV (As := [.int v5, .int v8]) (rest := []) ⟨hx, hb, hml, hown, hts⟩ (m_X4_addPrizes l dC dI _ h_me_isles_now q_me_isles_now k_me_isles_now o_me_isles_now v5 v8 z11 ez11) kw880 kw877 kw878 kw879 kw116 hd_X4_addPrizes ⟨rfl, rfl⟩ rfl rfl ⟨rfl, rfl⟩ hX hK hw [2] (by decide) rfl rfl rfl rfl rfl hl.1 rfl rfl dX1_heldRace_180) hw hA [2] (by decide) rfl rfl (fun H locs hw => ?_)
      have hw : Wd dC dI A s.heap [wX1 h_me h_me_isles h_me_machine q_me k_me o_me, wX2 h_me_isles h_me_isles_now q_me_isles k_me_isles o_me_isles, wX4 h_me_isles_now q_me_isles_now k_me_isles_now z11, wX3 h_me_machine q_me_machine k_me_machine o_me_machine, wPL o_pool] H locs := hw
      exact bk_183_5  v3 z11 o_me_machine _ _ _ h hw (lv_sub hl [0, 1] rfl)
  have bk_145_3 : ∀ (v3 : Int32) (v5 : Int32) (v6 : Int32) (v8 : Int32) (o_me_isles_now : Ob) (o_me_machine : Ob) (H : Heap) (locs : List Loc) (ls : Array Slot), bk_X1_heldRace_145 o_me o_me_isles o_pool  v3 v5 v6 v8 o_me_isles_now o_me_machine = some y → Wd dC dI A s.heap [wX1 h_me h_me_isles h_me_machine q_me k_me o_me, wX2 h_me_isles h_me_isles_now q_me_isles k_me_isles o_me_isles, wX4 h_me_isles_now q_me_isles_now k_me_isles_now o_me_isles_now, wX3 h_me_machine q_me_machine k_me_machine o_me_machine, wPL o_pool] H locs → lv_has ls 10 [(0, .ref h_me), (3, .int v3), (5, .int v5), (6, .int v6), (8, .int v8)] → W p l e ({ frames := 4, cells := 0, slots := 0, locals := 110 } : Room) s m ([.ref h_me, .int p0] : List Value).toArray below meth c H locs 0 0 Qz (F0 m 145 ls []) := by
    intro v3 v5 v6 v8 o_me_isles_now o_me_machine H locs ls h hw hl
    unfold bk_X1_heldRace_145 at h
    refine lv_iload_n hx hb dX1_heldRace_145 rfl (lv_at hl 1 rfl) ?_
    refine lv_iconst (v := (-1)) hx hb dX1_heldRace_146 (by decide) ?_
    refine lv_icmp_eq (tgt := 163) hx hb dX1_heldRace_147 (by decide) (fun c => ?_) (fun c => ?_)
    · have h := z_t h c
      exact bk_163_4  v3 v5 v8 o_me_isles_now o_me_machine _ _ _ h hw (lv_sub hl [0, 1, 2, 4] rfl)
    · have h := z_f h c
      refine lv_aload_n hx hb dX1_heldRace_150 rfl (lv_at hl 0 rfl) ?_
      refine fgX1_0 hx hb hts hown hK hw 0 rfl kw363 dX1_heldRace_151 ?_
      refine fgX2_0 hx hb hts hown hK hw 1 rfl kw299 dX1_heldRace_154 ?_
      refine lv_iload_n hx hb dX1_heldRace_157 rfl (lv_at hl 1 rfl) ?_
      refine lv_iload hx hb dX1_heldRace_158 (lv_at hl 3 rfl) ?_
      obtain ⟨z12, ez12, h⟩ := z_bd h
      refine xj_v (xrV (As := [.int v3, .int v6]) (rest := []) ⟨hx, hb, hml, hown, hts⟩ (m_X4_addPrizes l dC dI _ h_me_isles_now q_me_isles_now k_me_isles_now o_me_isles_now v3 v6 z12 ez12) kw880 kw877 kw878 kw879 kw116 hd_X4_addPrizes ⟨rfl, rfl⟩ rfl rfl ⟨rfl, rfl⟩ hX hK hw [2] (by decide) rfl rfl rfl rfl rfl hl.1 rfl rfl dX1_heldRace_160) hw hA [2] (by decide) rfl rfl (fun H locs hw => ?_)
      have hw : Wd dC dI A s.heap [wX1 h_me h_me_isles h_me_machine q_me k_me o_me, wX2 h_me_isles h_me_isles_now q_me_isles k_me_isles o_me_isles, wX4 h_me_isles_now q_me_isles_now k_me_isles_now z12, wX3 h_me_machine q_me_machine k_me_machine o_me_machine, wPL o_pool] H locs := hw
      exact bk_163_4  v3 v5 v8 z12 o_me_machine _ _ _ h hw (lv_sub hl [0, 1, 2, 4] rfl)
  have bk_87_2 : ∀ (v1 : Int32) (v2 : Option Nat) (v3 : Int32) (v4 : Int32) (v5 : Int32) (v6 : Int32) (v7 : Int32) (s0 : Int32) (o_me_isles_now : Ob) (o_me_machine : Ob) (H : Heap) (locs : List Loc) (ls : Array Slot), bk_X1_heldRace_87 o_me o_me_isles o_pool  v1 v2 v3 v4 v5 v6 v7 s0 o_me_isles_now o_me_machine = some y → Wd dC dI A s.heap [wX1 h_me h_me_isles h_me_machine q_me k_me o_me, wX2 h_me_isles h_me_isles_now q_me_isles k_me_isles o_me_isles, wX4 h_me_isles_now q_me_isles_now k_me_isles_now o_me_isles_now, wX3 h_me_machine q_me_machine k_me_machine o_me_machine, wPL o_pool] H locs → lv_has ls 10 [(0, .ref h_me), (1, .int v1), (2, va_rf v2), (3, .int v3), (4, .int v4), (5, .int v5), (6, .int v6), (7, .int v7)] → W p l e ({ frames := 4, cells := 0, slots := 0, locals := 110 } : Room) s m ([.ref h_me, .int p0] : List Value).toArray below meth c H locs 0 0 Qz (F0 m 87 ls [.int s0]) := by
    intro v1 v2 v3 v4 v5 v6 v7 s0 o_me_isles_now o_me_machine H locs ls h hw hl
    unfold bk_X1_heldRace_87 at h
    refine lv_istore (lv' := [(8, .int s0), (0, .ref h_me), (1, .int v1), (2, va_rf v2), (3, .int v3), (4, .int v4), (5, .int v5), (6, .int v6), (7, .int v7)]) hx hb dX1_heldRace_87 hl (by decide) rfl (fun ls hl => ?_)
    refine lv_iload hx hb dX1_heldRace_89 (lv_at hl 5 rfl) ?_
    refine lv_iconst (v := (-1)) hx hb dX1_heldRace_91 (by decide) ?_
    refine lv_icmp_eq (tgt := 145) hx hb dX1_heldRace_92 (by decide) (fun c => ?_) (fun c => ?_)
    · have h := z_t h c
      exact bk_145_3  v3 v5 v6 s0 o_me_isles_now o_me_machine _ _ _ h hw (lv_sub hl [1, 4, 6, 7, 0] rfl)
    · have h := z_f h c
      refine lv_aload_n hx hb dX1_heldRace_95 rfl (lv_at hl 1 rfl) ?_
      refine fgX1_0 hx hb hts hown hK hw 0 rfl kw363 dX1_heldRace_96 ?_
      refine fgX2_0 hx hb hts hown hK hw 1 rfl kw299 dX1_heldRace_99 ?_
      refine fgX4_0 hx hb hts hown hK hw 2 rfl kw263 dX1_heldRace_102 ?_
      refine lv_iload hx hb dX1_heldRace_105 (lv_at hl 5 rfl) ?_
      refine lv_aload_n hx hb dX1_heldRace_107 rfl (lv_at hl 1 rfl) ?_
      refine xaload_n hx hb dX1_heldRace_108 rfl (lv_at hl 3 rfl) ?_
      refine lv_iload hx hb dX1_heldRace_109 (lv_at hl 5 rfl) ?_
      refine lv_iload_n hx hb dX1_heldRace_111 rfl (lv_at hl 2 rfl) ?_
      obtain ⟨z13, ez13, h⟩ := z_bd h
      refine xj_i (xrV (As := [va_rf v2, .int v4, .int v1]) (rest := [.int v4, .ref (q_me_isles_now 0)]) ⟨hx, hb, hml, hown, hts⟩ (m_X1_turnsTo_Q l dC dI _ h_me h_me_isles h_me_machine h_me_isles_now q_me k_me q_me_isles k_me_isles q_me_isles_now k_me_isles_now q_me_machine k_me_machine o_me o_me_isles o_me_isles_now o_me_machine o_pool v2 v4 v1 z13 ez13) kw875 kw872 kw873 kw874 kw117 hd_X1_turnsTo ⟨rfl, rfl⟩ rfl rfl ⟨rfl, rfl⟩ hX hK hw [0, 1, 2, 3, 4] (by decide) rfl rfl rfl rfl rfl hl.1 rfl rfl dX1_heldRace_112) hw hA [0, 1, 2, 3, 4] (by decide) rfl rfl (fun H locs hw => ?_)
      have hw : Wd dC dI A s.heap [wX1 h_me h_me_isles h_me_machine q_me k_me o_me, wX2 h_me_isles h_me_isles_now q_me_isles k_me_isles o_me_isles, wX4 h_me_isles_now q_me_isles_now k_me_isles_now o_me_isles_now, wX3 h_me_machine q_me_machine k_me_machine z13.2, wPL o_pool] H locs := hw
      obtain ⟨g14, h⟩ := z_gd h
      refine fbX4_0 hx hb hK hw 2 rfl rfl g14 dX1_heldRace_115 (fun H locs hw => ?_)
      obtain ⟨o15, eo15, h⟩ := z_lt h
      have hw : Wd dC dI A s.heap [wX1 h_me h_me_isles h_me_machine q_me k_me o_me, wX2 h_me_isles h_me_isles_now q_me_isles k_me_isles o_me_isles, wX4 h_me_isles_now q_me_isles_now k_me_isles_now o15, wX3 h_me_machine q_me_machine k_me_machine z13.2, wPL o_pool] H locs := by rw [eo15]; exact hw
      refine lv_aload_n hx hb dX1_heldRace_116 rfl (lv_at hl 1 rfl) ?_
      refine fgX1_0 hx hb hts hown hK hw 0 rfl kw363 dX1_heldRace_117 ?_
      refine fgX2_0 hx hb hts hown hK hw 1 rfl kw299 dX1_heldRace_120 ?_
      refine lv_sipush (v := 999) hx hb dX1_heldRace_123 (by decide) ?_
      refine lv_aload_n hx hb dX1_heldRace_126 rfl (lv_at hl 1 rfl) ?_
      refine fgX1_0 hx hb hts hown hK hw 0 rfl kw363 dX1_heldRace_127 ?_
      refine fgX2_0 hx hb hts hown hK hw 1 rfl kw299 dX1_heldRace_130 ?_
      refine fgX4_3 hx hb hts hown hK hw 2 rfl kw275 dX1_heldRace_133 ?_
      refine lv_iload hx hb dX1_heldRace_136 (lv_at hl 8 rfl) ?_
      refine lv_iadd hx hb dX1_heldRace_138 ?_
      refine va_mmin hx hb (hml.trans hl.1.symm) hown (hts _ kw876) (hts _ kw561) (hts _ kw113) (hts _ kw562) (Nat.le_of_ble_eq_true rfl) (Nat.le_of_ble_eq_true rfl) (Nat.le_of_ble_eq_true rfl) (Nat.le_of_ble_eq_true rfl) dX1_heldRace_139 ?_
      refine fpX4_3 hx hb hts hown hK hw 2 rfl kw275 dX1_heldRace_142 (fun H locs hw => ?_)
      obtain ⟨o16, eo16, h⟩ := z_lt h
      have hw : Wd dC dI A s.heap [wX1 h_me h_me_isles h_me_machine q_me k_me o_me, wX2 h_me_isles h_me_isles_now q_me_isles k_me_isles o_me_isles, wX4 h_me_isles_now q_me_isles_now k_me_isles_now o16, wX3 h_me_machine q_me_machine k_me_machine z13.2, wPL o_pool] H locs := by rw [eo16]; exact hw
      exact bk_145_3  v3 v5 v6 s0 o16 z13.2 _ _ _ h hw (lv_sub hl [1, 4, 6, 7, 0] rfl)
  have bk_66_1 : ∀ (v1 : Int32) (v2 : Option Nat) (v3 : Int32) (v4 : Int32) (v5 : Int32) (v6 : Int32) (s0 : Int32) (o_me_isles_now : Ob) (o_me_machine : Ob) (H : Heap) (locs : List Loc) (ls : Array Slot), bk_X1_heldRace_66 o_me o_me_isles o_pool  v1 v2 v3 v4 v5 v6 s0 o_me_isles_now o_me_machine = some y → Wd dC dI A s.heap [wX1 h_me h_me_isles h_me_machine q_me k_me o_me, wX2 h_me_isles h_me_isles_now q_me_isles k_me_isles o_me_isles, wX4 h_me_isles_now q_me_isles_now k_me_isles_now o_me_isles_now, wX3 h_me_machine q_me_machine k_me_machine o_me_machine, wPL o_pool] H locs → lv_has ls 10 [(0, .ref h_me), (1, .int v1), (2, va_rf v2), (3, .int v3), (4, .int v4), (5, .int v5), (6, .int v6)] → W p l e ({ frames := 4, cells := 0, slots := 0, locals := 110 } : Room) s m ([.ref h_me, .int p0] : List Value).toArray below meth c H locs 0 0 Qz (F0 m 66 ls [.int s0]) := by
    intro v1 v2 v3 v4 v5 v6 s0 o_me_isles_now o_me_machine H locs ls h hw hl
    unfold bk_X1_heldRace_66 at h
    refine lv_istore (lv' := [(7, .int s0), (0, .ref h_me), (1, .int v1), (2, va_rf v2), (3, .int v3), (4, .int v4), (5, .int v5), (6, .int v6)]) hx hb dX1_heldRace_66 hl (by decide) rfl (fun ls hl => ?_)
    refine lv_iload hx hb dX1_heldRace_68 (lv_at hl 6 rfl) ?_
    refine lv_iconst (v := (-1)) hx hb dX1_heldRace_70 (by decide) ?_
    refine lv_icmp_ne (tgt := 78) hx hb dX1_heldRace_71 (by decide) (fun c => ?_) (fun c => ?_)
    · have h := z_f h c
      refine lv_aload_n hx hb dX1_heldRace_78 rfl (lv_at hl 1 rfl) ?_
      refine xaload_n hx hb dX1_heldRace_79 rfl (lv_at hl 3 rfl) ?_
      refine lv_iload hx hb dX1_heldRace_80 (lv_at hl 6 rfl) ?_
      refine lv_iload_n hx hb dX1_heldRace_82 rfl (lv_at hl 2 rfl) ?_
      refine lv_iconst (v := 3) hx hb dX1_heldRace_83 (by decide) ?_
      obtain ⟨z7, ez7, h⟩ := z_bd h
      refine xj_i (xrV (As := [va_rf v2, .int v5, .int v1, .int (3 : Int32)]) (rest := []) ⟨hx, hb, hml, hown, hts⟩ (m_X1_wins_Q l dC dI _ h_me h_me_isles h_me_machine h_me_isles_now q_me k_me q_me_isles k_me_isles q_me_isles_now k_me_isles_now q_me_machine k_me_machine o_me o_me_isles o_me_isles_now o_me_machine o_pool v2 v5 v1 (3 : Int32) z7 ez7) kw871 kw868 kw870 kw21 kw117 hd_X1_wins ⟨rfl, rfl⟩ rfl rfl ⟨rfl, rfl⟩ hX hK hw [0, 1, 2, 3, 4] (by decide) rfl rfl rfl rfl rfl hl.1 rfl rfl dX1_heldRace_84) hw hA [0, 1, 2, 3, 4] (by decide) rfl rfl (fun H locs hw => ?_)
      have hw : Wd dC dI A s.heap [wX1 h_me h_me_isles h_me_machine q_me k_me o_me, wX2 h_me_isles h_me_isles_now q_me_isles k_me_isles o_me_isles, wX4 h_me_isles_now q_me_isles_now k_me_isles_now o_me_isles_now, wX3 h_me_machine q_me_machine k_me_machine z7.2, wPL o_pool] H locs := hw
      exact bk_87_2  v1 v2 v3 v4 v5 v6 s0 z7.1 o_me_isles_now z7.2 _ _ _ h hw (lv_sub hl [1, 2, 3, 4, 5, 6, 7, 0] rfl)
    · have h := z_t h c
      refine lv_iconst (v := 0) hx hb dX1_heldRace_74 (by decide) ?_
      refine lv_goto (tgt := 87) hx hb dX1_heldRace_75 (by decide) ?_
      exact bk_87_2  v1 v2 v3 v4 v5 v6 s0 (0 : Int32) o_me_isles_now o_me_machine _ _ _ h hw (lv_sub hl [1, 2, 3, 4, 5, 6, 7, 0] rfl)
  have bk_45_0 : ∀ (v1 : Int32) (v2 : Option Nat) (v3 : Int32) (v4 : Int32) (v5 : Int32) (s0 : Int32) (o_me_isles_now : Ob) (o_me_machine : Ob) (H : Heap) (locs : List Loc) (ls : Array Slot), bk_X1_heldRace_45 o_me o_me_isles o_pool  v1 v2 v3 v4 v5 s0 o_me_isles_now o_me_machine = some y → Wd dC dI A s.heap [wX1 h_me h_me_isles h_me_machine q_me k_me o_me, wX2 h_me_isles h_me_isles_now q_me_isles k_me_isles o_me_isles, wX4 h_me_isles_now q_me_isles_now k_me_isles_now o_me_isles_now, wX3 h_me_machine q_me_machine k_me_machine o_me_machine, wPL o_pool] H locs → lv_has ls 10 [(0, .ref h_me), (1, .int v1), (2, va_rf v2), (3, .int v3), (4, .int v4), (5, .int v5)] → W p l e ({ frames := 4, cells := 0, slots := 0, locals := 110 } : Room) s m ([.ref h_me, .int p0] : List Value).toArray below meth c H locs 0 0 Qz (F0 m 45 ls [.int s0]) := by
    intro v1 v2 v3 v4 v5 s0 o_me_isles_now o_me_machine H locs ls h hw hl
    unfold bk_X1_heldRace_45 at h
    refine lv_istore (lv' := [(6, .int s0), (0, .ref h_me), (1, .int v1), (2, va_rf v2), (3, .int v3), (4, .int v4), (5, .int v5)]) hx hb dX1_heldRace_45 hl (by decide) rfl (fun ls hl => ?_)
    refine lv_iload hx hb dX1_heldRace_47 (lv_at hl 5 rfl) ?_
    refine lv_iconst (v := (-1)) hx hb dX1_heldRace_49 (by decide) ?_
    refine lv_icmp_ne (tgt := 57) hx hb dX1_heldRace_50 (by decide) (fun c => ?_) (fun c => ?_)
    · have h := z_f h c
      refine lv_aload_n hx hb dX1_heldRace_57 rfl (lv_at hl 1 rfl) ?_
      refine xaload_n hx hb dX1_heldRace_58 rfl (lv_at hl 3 rfl) ?_
      refine lv_iload hx hb dX1_heldRace_59 (lv_at hl 5 rfl) ?_
      refine lv_iload_n hx hb dX1_heldRace_61 rfl (lv_at hl 2 rfl) ?_
      refine lv_iconst (v := 2) hx hb dX1_heldRace_62 (by decide) ?_
      obtain ⟨z6, ez6, h⟩ := z_bd h
      refine xj_i (xrV (As := [va_rf v2, .int v4, .int v1, .int (2 : Int32)]) (rest := []) ⟨hx, hb, hml, hown, hts⟩ (m_X1_wins_Q l dC dI _ h_me h_me_isles h_me_machine h_me_isles_now q_me k_me q_me_isles k_me_isles q_me_isles_now k_me_isles_now q_me_machine k_me_machine o_me o_me_isles o_me_isles_now o_me_machine o_pool v2 v4 v1 (2 : Int32) z6 ez6) kw871 kw868 kw870 kw21 kw117 hd_X1_wins ⟨rfl, rfl⟩ rfl rfl ⟨rfl, rfl⟩ hX hK hw [0, 1, 2, 3, 4] (by decide) rfl rfl rfl rfl rfl hl.1 rfl rfl dX1_heldRace_63) hw hA [0, 1, 2, 3, 4] (by decide) rfl rfl (fun H locs hw => ?_)
      have hw : Wd dC dI A s.heap [wX1 h_me h_me_isles h_me_machine q_me k_me o_me, wX2 h_me_isles h_me_isles_now q_me_isles k_me_isles o_me_isles, wX4 h_me_isles_now q_me_isles_now k_me_isles_now o_me_isles_now, wX3 h_me_machine q_me_machine k_me_machine z6.2, wPL o_pool] H locs := hw
      exact bk_66_1  v1 v2 v3 v4 v5 s0 z6.1 o_me_isles_now z6.2 _ _ _ h hw (lv_sub hl [1, 2, 3, 4, 5, 6, 0] rfl)
    · have h := z_t h c
      refine lv_iconst (v := 0) hx hb dX1_heldRace_53 (by decide) ?_
      refine lv_goto (tgt := 66) hx hb dX1_heldRace_54 (by decide) ?_
      exact bk_66_1  v1 v2 v3 v4 v5 s0 (0 : Int32) o_me_isles_now o_me_machine _ _ _ h hw (lv_sub hl [1, 2, 3, 4, 5, 6, 0] rfl)
  unfold f_X1_heldRace at h
  refine lv_aload_n hx hb dX1_heldRace_0 rfl (lv_at hl 0 rfl) ?_
  refine fgX1_0 hx hb hts hown hK hw 0 rfl kw363 dX1_heldRace_1 ?_
  obtain ⟨z1, ez1, h⟩ := z_bd h
  refine xj_q (xrV (As := []) (rest := []) ⟨hx, hb, hml, hown, hts⟩ (m_X2_lawInForce l dC dI _ h_me_isles h_me_isles_now q_me_isles k_me_isles o_me_isles z1 ez1) kw531 kw853 kw529 kw530 kw115 hd_X2_lawInForce ⟨rfl, rfl⟩ rfl rfl ⟨rfl, rfl⟩ hX hK hw [1] (by decide) rfl rfl rfl rfl rfl hl.1 rfl rfl dX1_heldRace_4) hw hA [1] (by decide) rfl rfl (fun H locs hw => ?_)
  have hw : Wd dC dI A s.heap [wX1 h_me h_me_isles h_me_machine q_me k_me o_me, wX2 h_me_isles h_me_isles_now q_me_isles k_me_isles o_me_isles, wX4 h_me_isles_now q_me_isles_now k_me_isles_now o_me_isles_now, wX3 h_me_machine q_me_machine k_me_machine o_me_machine, wPL o_pool] H locs := hw
  refine xastore_n (lv' := [(2, va_rf z1), (0, .ref h_me), (1, .int p0)]) hx hb dX1_heldRace_7 rfl hl (by decide) rfl (fun ls hl => ?_)
  refine lv_aload_n hx hb dX1_heldRace_8 rfl (lv_at hl 1 rfl) ?_
  refine lv_iconst (v := 1) hx hb dX1_heldRace_9 (by decide) ?_
  obtain ⟨z2, ez2, h⟩ := z_bd h
  refine xj_i (xrV (As := [.int (1 : Int32)]) (rest := []) ⟨hx, hb, hml, hown, hts⟩ (m_X1_at l dC dI _ h_me h_me_isles h_me_machine q_me k_me o_me (1 : Int32) z2 ez2) kw615 kw867 kw613 kw614 kw117 hd_X1_at ⟨rfl, rfl⟩ rfl rfl ⟨rfl, rfl⟩ hX hK hw [0] (by decide) rfl rfl rfl rfl rfl hl.1 rfl rfl dX1_heldRace_10) hw hA [0] (by decide) rfl rfl (fun H locs hw => ?_)
  have hw : Wd dC dI A s.heap [wX1 h_me h_me_isles h_me_machine q_me k_me o_me, wX2 h_me_isles h_me_isles_now q_me_isles k_me_isles o_me_isles, wX4 h_me_isles_now q_me_isles_now k_me_isles_now o_me_isles_now, wX3 h_me_machine q_me_machine k_me_machine o_me_machine, wPL o_pool] H locs := hw
  refine lv_istore_n (lv' := [(3, .int z2), (2, va_rf z1), (0, .ref h_me), (1, .int p0)]) hx hb dX1_heldRace_13 rfl hl (by decide) (by generalize z1 = r9; cases r9 <;> rfl) (fun ls hl => ?_)
  refine lv_aload_n hx hb dX1_heldRace_14 rfl (lv_at hl 2 rfl) ?_
  refine lv_iconst (v := 2) hx hb dX1_heldRace_15 (by decide) ?_
  obtain ⟨z3, ez3, h⟩ := z_bd h
  refine xj_i (xrV (As := [.int (2 : Int32)]) (rest := []) ⟨hx, hb, hml, hown, hts⟩ (m_X1_at l dC dI _ h_me h_me_isles h_me_machine q_me k_me o_me (2 : Int32) z3 ez3) kw615 kw867 kw613 kw614 kw117 hd_X1_at ⟨rfl, rfl⟩ rfl rfl ⟨rfl, rfl⟩ hX hK hw [0] (by decide) rfl rfl rfl rfl rfl hl.1 rfl rfl dX1_heldRace_16) hw hA [0] (by decide) rfl rfl (fun H locs hw => ?_)
  have hw : Wd dC dI A s.heap [wX1 h_me h_me_isles h_me_machine q_me k_me o_me, wX2 h_me_isles h_me_isles_now q_me_isles k_me_isles o_me_isles, wX4 h_me_isles_now q_me_isles_now k_me_isles_now o_me_isles_now, wX3 h_me_machine q_me_machine k_me_machine o_me_machine, wPL o_pool] H locs := hw
  refine lv_istore (lv' := [(4, .int z3), (3, .int z2), (2, va_rf z1), (0, .ref h_me), (1, .int p0)]) hx hb dX1_heldRace_19 hl (by decide) rfl (fun ls hl => ?_)
  refine lv_aload_n hx hb dX1_heldRace_21 rfl (lv_at hl 3 rfl) ?_
  refine lv_iconst (v := 3) hx hb dX1_heldRace_22 (by decide) ?_
  obtain ⟨z4, ez4, h⟩ := z_bd h
  refine xj_i (xrV (As := [.int (3 : Int32)]) (rest := []) ⟨hx, hb, hml, hown, hts⟩ (m_X1_at l dC dI _ h_me h_me_isles h_me_machine q_me k_me o_me (3 : Int32) z4 ez4) kw615 kw867 kw613 kw614 kw117 hd_X1_at ⟨rfl, rfl⟩ rfl rfl ⟨rfl, rfl⟩ hX hK hw [0] (by decide) rfl rfl rfl rfl rfl hl.1 rfl rfl dX1_heldRace_23) hw hA [0] (by decide) rfl rfl (fun H locs hw => ?_)
  have hw : Wd dC dI A s.heap [wX1 h_me h_me_isles h_me_machine q_me k_me o_me, wX2 h_me_isles h_me_isles_now q_me_isles k_me_isles o_me_isles, wX4 h_me_isles_now q_me_isles_now k_me_isles_now o_me_isles_now, wX3 h_me_machine q_me_machine k_me_machine o_me_machine, wPL o_pool] H locs := hw
  refine lv_istore (lv' := [(5, .int z4), (4, .int z3), (3, .int z2), (2, va_rf z1), (0, .ref h_me), (1, .int p0)]) hx hb dX1_heldRace_26 hl (by decide) rfl (fun ls hl => ?_)
  refine lv_iload_n hx hb dX1_heldRace_28 rfl (lv_at hl 2 rfl) ?_
  refine lv_iconst (v := (-1)) hx hb dX1_heldRace_29 (by decide) ?_
  refine lv_icmp_ne (tgt := 37) hx hb dX1_heldRace_30 (by decide) (fun c => ?_) (fun c => ?_)
  · have h := z_f h c
    refine lv_aload_n hx hb dX1_heldRace_37 rfl (lv_at hl 4 rfl) ?_
    refine xaload_n hx hb dX1_heldRace_38 rfl (lv_at hl 3 rfl) ?_
    refine lv_iload_n hx hb dX1_heldRace_39 rfl (lv_at hl 2 rfl) ?_
    refine lv_iload_n hx hb dX1_heldRace_40 rfl (lv_at hl 5 rfl) ?_
    refine lv_iconst (v := 1) hx hb dX1_heldRace_41 (by decide) ?_
    obtain ⟨z5, ez5, h⟩ := z_bd h
    refine xj_i (xrV (As := [va_rf z1, .int z2, .int p0, .int (1 : Int32)]) (rest := []) ⟨hx, hb, hml, hown, hts⟩ (m_X1_wins_Q l dC dI _ h_me h_me_isles h_me_machine h_me_isles_now q_me k_me q_me_isles k_me_isles q_me_isles_now k_me_isles_now q_me_machine k_me_machine o_me o_me_isles o_me_isles_now o_me_machine o_pool z1 z2 p0 (1 : Int32) z5 ez5) kw871 kw868 kw870 kw21 kw117 hd_X1_wins ⟨rfl, rfl⟩ rfl rfl ⟨rfl, rfl⟩ hX hK hw [0, 1, 2, 3, 4] (by decide) rfl rfl rfl rfl rfl hl.1 rfl rfl dX1_heldRace_42) hw hA [0, 1, 2, 3, 4] (by decide) rfl rfl (fun H locs hw => ?_)
    have hw : Wd dC dI A s.heap [wX1 h_me h_me_isles h_me_machine q_me k_me o_me, wX2 h_me_isles h_me_isles_now q_me_isles k_me_isles o_me_isles, wX4 h_me_isles_now q_me_isles_now k_me_isles_now o_me_isles_now, wX3 h_me_machine q_me_machine k_me_machine z5.2, wPL o_pool] H locs := hw
    exact bk_45_0  p0 z1 z2 z3 z4 z5.1 o_me_isles_now z5.2 _ _ _ h hw (lv_sub hl [4, 5, 3, 2, 1, 0] rfl)
  · have h := z_t h c
    refine lv_iconst (v := 0) hx hb dX1_heldRace_33 (by decide) ?_
    refine lv_goto (tgt := 45) hx hb dX1_heldRace_34 (by decide) ?_
    exact bk_45_0  p0 z1 z2 z3 z4 (0 : Int32) o_me_isles_now o_me_machine _ _ _ h hw (lv_sub hl [4, 5, 3, 2, 1, 0] rfl)

def f_X1_changedEntry (o_me : Ob) (o_me_isles : Ob) (o_me_isles_now : Ob) (p0 : Int32) : Option (Int32 × Ob) :=
  zlt (sI o_me_isles_now 2 ((gI o_me_isles_now 2) ^^^ ((1 : Int32) <<< (p0 &&& 31)))) fun o1 =>
  some (((gI o1 2) >>> (p0 &&& 31)) &&& (1 : Int32), o1)
set_option maxHeartbeats 4000000 in
set_option maxRecDepth 100000 in
theorem m_X1_changedEntry (l : Launch) (dC : Nat → ClassId) (dI : Nat → Nat → Nat) (sz : Nat) (h_me : Nat) (h_me_isles : Nat) (h_me_machine : Nat) (h_me_isles_now : Nat) (q_me : Nat → Nat) (k_me : Nat → ClassId) (q_me_isles : Nat → Nat) (k_me_isles : Nat → ClassId) (q_me_isles_now : Nat → Nat) (k_me_isles_now : Nat → ClassId) (o_me : Ob) (o_me_isles : Ob) (o_me_isles_now : Ob) (p0 : Int32) (y : Int32 × Ob) (h : f_X1_changedEntry o_me o_me_isles o_me_isles_now p0 = some y) : CI l yX1_changedEntry cX1_changedEntry 2 (some .int) ({ frames := 0, cells := 0, slots := 0, locals := 0 } : Room) dC dI sz [.ref h_me, .int p0] [wX1 h_me h_me_isles h_me_machine q_me k_me o_me, wX2 h_me_isles h_me_isles_now q_me_isles k_me_isles o_me_isles, wX4 h_me_isles_now q_me_isles_now k_me_isles_now o_me_isles_now] [tX1 k_me, tX2 k_me_isles, tX4 k_me_isles_now] y.1 [wX1 h_me h_me_isles h_me_machine q_me k_me o_me, wX2 h_me_isles h_me_isles_now q_me_isles k_me_isles o_me_isles, wX4 h_me_isles_now q_me_isles_now k_me_isles_now y.2] := by
  refine CC_of (by decide) (Nat.le_of_ble_eq_true rfl) ?_
  intro p e s m below meth c A ls hx hb hml hr hlk hnm hown hts hX hK hP hD hA hl
  have hl : lv_has ls 2 [(0, .ref h_me), (1, .int p0)] := hl
  have hown : s.vm.findClass RX1 = some m.cls := hown
  have hw : Wd dC dI A s.heap [wX1 h_me h_me_isles h_me_machine q_me k_me o_me, wX2 h_me_isles h_me_isles_now q_me_isles k_me_isles o_me_isles, wX4 h_me_isles_now q_me_isles_now k_me_isles_now o_me_isles_now] s.heap [] := ⟨hP, hD, va_S.rf⟩
  generalize hQz : (MQ below (QI dC dI (fun r (_ : Unit) => r = y.1) (fun _ => Jn [wX1 h_me h_me_isles h_me_machine q_me k_me o_me, wX2 h_me_isles h_me_isles_now q_me_isles k_me_isles o_me_isles, wX4 h_me_isles_now q_me_isles_now k_me_isles_now y.2]) (fun _ => Jt [tX1 k_me, tX2 k_me_isles, tX4 k_me_isles_now]) A) ([.ref h_me, .int p0] : List Value).toArray s 0 0 A) = Qz
  clear hP hD hnm
  unfold f_X1_changedEntry at h
  refine lv_aload_n hx hb dX1_changedEntry_0 rfl (lv_at hl 0 rfl) ?_
  refine fgX1_0 hx hb hts hown hK hw 0 rfl kw363 dX1_changedEntry_1 ?_
  refine fgX2_0 hx hb hts hown hK hw 1 rfl kw299 dX1_changedEntry_4 ?_
  refine lv_dup hx hb dX1_changedEntry_7 rfl ?_
  refine fgX4_2 hx hb hts hown hK hw 2 rfl kw271 dX1_changedEntry_8 ?_
  refine lv_iconst (v := 1) hx hb dX1_changedEntry_11 (by decide) ?_
  refine lv_iload_n hx hb dX1_changedEntry_12 rfl (lv_at hl 1 rfl) ?_
  refine lv_ishl hx hb dX1_changedEntry_13 ?_
  refine lv_ixor hx hb dX1_changedEntry_14 ?_
  refine fpX4_2 hx hb hts hown hK hw 2 rfl kw271 dX1_changedEntry_15 (fun H locs hw => ?_)
  obtain ⟨o1, eo1, h⟩ := z_lt h
  have hw : Wd dC dI A s.heap [wX1 h_me h_me_isles h_me_machine q_me k_me o_me, wX2 h_me_isles h_me_isles_now q_me_isles k_me_isles o_me_isles, wX4 h_me_isles_now q_me_isles_now k_me_isles_now o1] H locs := by rw [eo1]; exact hw
  refine lv_aload_n hx hb dX1_changedEntry_18 rfl (lv_at hl 0 rfl) ?_
  refine fgX1_0 hx hb hts hown hK hw 0 rfl kw363 dX1_changedEntry_19 ?_
  refine fgX2_0 hx hb hts hown hK hw 1 rfl kw299 dX1_changedEntry_22 ?_
  refine fgX4_2 hx hb hts hown hK hw 2 rfl kw271 dX1_changedEntry_25 ?_
  refine lv_iload_n hx hb dX1_changedEntry_28 rfl (lv_at hl 1 rfl) ?_
  refine lv_ishr hx hb dX1_changedEntry_29 ?_
  refine lv_iconst (v := 1) hx hb dX1_changedEntry_30 (by decide) ?_
  refine lv_iand hx hb dX1_changedEntry_31 ?_
  have hy := Option.some.inj h
  rw [← hQz, ← hy]
  exact xr_i (v := ((gI o1 2) >>> (p0 &&& 31)) &&& (1 : Int32)) hx hb hr rfl hlk hK hw dX1_changedEntry_32

def f_X1_takenGap (o_me : Ob) (o_me_isles : Ob) (o_me_isles_now : Ob) (p0 : Int32) : Option (Int32 × Ob) :=
  zlt (gI o_me_isles_now 3) fun x1 =>
  (f_X4_addPrizes o_me_isles_now p0 x1).bind fun z2 =>
  zlt (sI z2 3 (0 : Int32)) fun o3 =>
  some (x1, o3)
set_option maxHeartbeats 4000000 in
set_option maxRecDepth 100000 in
theorem m_X1_takenGap (l : Launch) (dC : Nat → ClassId) (dI : Nat → Nat → Nat) (sz : Nat) (h_me : Nat) (h_me_isles : Nat) (h_me_machine : Nat) (h_me_isles_now : Nat) (q_me : Nat → Nat) (k_me : Nat → ClassId) (q_me_isles : Nat → Nat) (k_me_isles : Nat → ClassId) (q_me_isles_now : Nat → Nat) (k_me_isles_now : Nat → ClassId) (o_me : Ob) (o_me_isles : Ob) (o_me_isles_now : Ob) (p0 : Int32) (y : Int32 × Ob) (h : f_X1_takenGap o_me o_me_isles o_me_isles_now p0 = some y) : CI l yX1_takenGap cX1_takenGap 3 (some .int) ({ frames := 2, cells := 0, slots := 0, locals := 37 } : Room) dC dI sz [.ref h_me, .int p0] [wX1 h_me h_me_isles h_me_machine q_me k_me o_me, wX2 h_me_isles h_me_isles_now q_me_isles k_me_isles o_me_isles, wX4 h_me_isles_now q_me_isles_now k_me_isles_now o_me_isles_now] [tX1 k_me, tX2 k_me_isles, tX4 k_me_isles_now] y.1 [wX1 h_me h_me_isles h_me_machine q_me k_me o_me, wX2 h_me_isles h_me_isles_now q_me_isles k_me_isles o_me_isles, wX4 h_me_isles_now q_me_isles_now k_me_isles_now y.2] := by
  refine CC_of (by decide) (Nat.le_of_ble_eq_true rfl) ?_
  intro p e s m below meth c A ls hx hb hml hr hlk hnm hown hts hX hK hP hD hA hl
  have hl : lv_has ls 3 [(0, .ref h_me), (1, .int p0)] := hl
  have hown : s.vm.findClass RX1 = some m.cls := hown
  have hw : Wd dC dI A s.heap [wX1 h_me h_me_isles h_me_machine q_me k_me o_me, wX2 h_me_isles h_me_isles_now q_me_isles k_me_isles o_me_isles, wX4 h_me_isles_now q_me_isles_now k_me_isles_now o_me_isles_now] s.heap [] := ⟨hP, hD, va_S.rf⟩
  generalize hQz : (MQ below (QI dC dI (fun r (_ : Unit) => r = y.1) (fun _ => Jn [wX1 h_me h_me_isles h_me_machine q_me k_me o_me, wX2 h_me_isles h_me_isles_now q_me_isles k_me_isles o_me_isles, wX4 h_me_isles_now q_me_isles_now k_me_isles_now y.2]) (fun _ => Jt [tX1 k_me, tX2 k_me_isles, tX4 k_me_isles_now]) A) ([.ref h_me, .int p0] : List Value).toArray s 0 0 A) = Qz
  clear hP hD hnm
  unfold f_X1_takenGap at h
  refine lv_aload_n hx hb dX1_takenGap_0 rfl (lv_at hl 0 rfl) ?_
  refine fgX1_0 hx hb hts hown hK hw 0 rfl kw363 dX1_takenGap_1 ?_
  refine fgX2_0 hx hb hts hown hK hw 1 rfl kw299 dX1_takenGap_4 ?_
  refine fgX4_3 hx hb hts hown hK hw 2 rfl kw275 dX1_takenGap_7 ?_
  obtain ⟨x1, ex1, h⟩ := z_lt h
  refine lv_fi (v := x1) ex1.symm ?_
  refine lv_istore_n (lv' := [(2, .int x1), (0, .ref h_me), (1, .int p0)]) hx hb dX1_takenGap_10 rfl hl (by decide) rfl (fun ls hl => ?_)
  refine lv_aload_n hx hb dX1_takenGap_11 rfl (lv_at hl 1 rfl) ?_
  refine fgX1_0 hx hb hts hown hK hw 0 rfl kw363 dX1_takenGap_12 ?_
  refine fgX2_0 hx hb hts hown hK hw 1 rfl kw299 dX1_takenGap_15 ?_
  refine lv_iload_n hx hb dX1_takenGap_18 rfl (lv_at hl 2 rfl) ?_
  refine lv_iload_n hx hb dX1_takenGap_19 rfl (lv_at hl 0 rfl) ?_
  obtain ⟨z2, ez2, h⟩ := z_bd h
  refine xj_v (xrV (As := [.int p0, .int x1]) (rest := []) ⟨hx, hb, hml, hown, hts⟩ (m_X4_addPrizes l dC dI _ h_me_isles_now q_me_isles_now k_me_isles_now o_me_isles_now p0 x1 z2 ez2) kw880 kw877 kw878 kw879 kw116 hd_X4_addPrizes ⟨rfl, rfl⟩ rfl rfl ⟨rfl, rfl⟩ hX hK hw [2] (by decide) rfl rfl rfl rfl rfl hl.1 rfl rfl dX1_takenGap_20) hw hA [2] (by decide) rfl rfl (fun H locs hw => ?_)
  have hw : Wd dC dI A s.heap [wX1 h_me h_me_isles h_me_machine q_me k_me o_me, wX2 h_me_isles h_me_isles_now q_me_isles k_me_isles o_me_isles, wX4 h_me_isles_now q_me_isles_now k_me_isles_now z2] H locs := hw
  refine lv_aload_n hx hb dX1_takenGap_23 rfl (lv_at hl 1 rfl) ?_
  refine fgX1_0 hx hb hts hown hK hw 0 rfl kw363 dX1_takenGap_24 ?_
  refine fgX2_0 hx hb hts hown hK hw 1 rfl kw299 dX1_takenGap_27 ?_
  refine lv_iconst (v := 0) hx hb dX1_takenGap_30 (by decide) ?_
  refine fpX4_3 hx hb hts hown hK hw 2 rfl kw275 dX1_takenGap_31 (fun H locs hw => ?_)
  obtain ⟨o3, eo3, h⟩ := z_lt h
  have hw : Wd dC dI A s.heap [wX1 h_me h_me_isles h_me_machine q_me k_me o_me, wX2 h_me_isles h_me_isles_now q_me_isles k_me_isles o_me_isles, wX4 h_me_isles_now q_me_isles_now k_me_isles_now o3] H locs := by rw [eo3]; exact hw
  refine lv_iload_n hx hb dX1_takenGap_34 rfl (lv_at hl 0 rfl) ?_
  have hy := Option.some.inj h
  rw [← hQz, ← hy]
  exact xr_i (v := x1) hx hb hr rfl hlk hK hw dX1_takenGap_35

def lb_X1_hasTradeOfLower_2 (o_me : Ob) (o_me_isles : Ob) (o_me_isles_now : Ob)  (rec_2_0 : Int32 × Int32 → Option (Int32)) (v1 : Int32) (v2 : Int32) : Option (Int32) :=
  if v1 ≤ v2 then
  (some (0 : Int32))
  else
  (zgd (zin v2 7) <|
  zgd (zin v1 7) <|
  if (gA o_me_isles_now 0 v2.toNatClampNeg) = (gA o_me_isles_now 0 v1.toNatClampNeg) then
  (some (1 : Int32))
  else
  (zlt (v2 + (1 : Int32)) fun x3 =>
  rec_2_0 (v1, x3)))
def lp_X1_hasTradeOfLower_2 (o_me : Ob) (o_me_isles : Ob) (o_me_isles_now : Ob)  : Nat → (Int32 × Int32) → Option (Int32) := zit (fun rec a => lb_X1_hasTradeOfLower_2 o_me o_me_isles o_me_isles_now  rec a.1 a.2)
def f_X1_hasTradeOfLower (o_me : Ob) (o_me_isles : Ob) (o_me_isles_now : Ob) (p0 : Int32) : Option (Int32) :=
  lp_X1_hasTradeOfLower_2 o_me o_me_isles o_me_isles_now  zfu (p0, (0 : Int32))
set_option maxHeartbeats 4000000 in
set_option maxRecDepth 100000 in
theorem m_X1_hasTradeOfLower (l : Launch) (dC : Nat → ClassId) (dI : Nat → Nat → Nat) (sz : Nat) (h_me : Nat) (h_me_isles : Nat) (h_me_machine : Nat) (h_me_isles_now : Nat) (q_me : Nat → Nat) (k_me : Nat → ClassId) (q_me_isles : Nat → Nat) (k_me_isles : Nat → ClassId) (q_me_isles_now : Nat → Nat) (k_me_isles_now : Nat → ClassId) (o_me : Ob) (o_me_isles : Ob) (o_me_isles_now : Ob) (p0 : Int32) (y : Int32) (h : f_X1_hasTradeOfLower o_me o_me_isles o_me_isles_now p0 = some y) : CI l yX1_hasTradeOfLower cX1_hasTradeOfLower 3 (some .boolean) ({ frames := 0, cells := 0, slots := 0, locals := 0 } : Room) dC dI sz [.ref h_me, .int p0] [wX1 h_me h_me_isles h_me_machine q_me k_me o_me, wX2 h_me_isles h_me_isles_now q_me_isles k_me_isles o_me_isles, wX4 h_me_isles_now q_me_isles_now k_me_isles_now o_me_isles_now] [tX1 k_me, tX2 k_me_isles, tX4 k_me_isles_now] y [wX1 h_me h_me_isles h_me_machine q_me k_me o_me, wX2 h_me_isles h_me_isles_now q_me_isles k_me_isles o_me_isles, wX4 h_me_isles_now q_me_isles_now k_me_isles_now o_me_isles_now] := by
  refine CC_of (by decide) (Nat.le_of_ble_eq_true rfl) ?_
  intro p e s m below meth c A ls hx hb hml hr hlk hnm hown hts hX hK hP hD hA hl
  have hl : lv_has ls 3 [(0, .ref h_me), (1, .int p0)] := hl
  have hown : s.vm.findClass RX1 = some m.cls := hown
  have hw : Wd dC dI A s.heap [wX1 h_me h_me_isles h_me_machine q_me k_me o_me, wX2 h_me_isles h_me_isles_now q_me_isles k_me_isles o_me_isles, wX4 h_me_isles_now q_me_isles_now k_me_isles_now o_me_isles_now] s.heap [] := ⟨hP, hD, va_S.rf⟩
  generalize hQz : (MQ below (QI dC dI (fun r (_ : Unit) => r = y) (fun _ => Jn [wX1 h_me h_me_isles h_me_machine q_me k_me o_me, wX2 h_me_isles h_me_isles_now q_me_isles k_me_isles o_me_isles, wX4 h_me_isles_now q_me_isles_now k_me_isles_now o_me_isles_now]) (fun _ => Jt [tX1 k_me, tX2 k_me_isles, tX4 k_me_isles_now]) A) ([.ref h_me, .int p0] : List Value).toArray s 0 0 A) = Qz
  clear hP hD hnm
  have lp_2_0 : ∀ (N : Nat), ∀ (v1 : Int32) (v2 : Int32) (H : Heap) (locs : List Loc) (ls : Array Slot), lp_X1_hasTradeOfLower_2 o_me o_me_isles o_me_isles_now  N (v1, v2) = some y → Wd dC dI A s.heap [wX1 h_me h_me_isles h_me_machine q_me k_me o_me, wX2 h_me_isles h_me_isles_now q_me_isles k_me_isles o_me_isles, wX4 h_me_isles_now q_me_isles_now k_me_isles_now o_me_isles_now] H locs → lv_has ls 3 [(0, .ref h_me), (1, .int v1), (2, .int v2)] → W p l e ({ frames := 0, cells := 0, slots := 0, locals := 0 } : Room) s m ([.ref h_me, .int p0] : List Value).toArray below meth c H locs 0 0 Qz (F0 m 2 ls []) := by
    intro N
    induction N with
    | zero =>
      intro v1 v2 H locs ls h hw hl
      exact absurd (show (none : Option (Int32)) = some y from h) (by simp)
    | succ N ih =>
      intro v1 v2 H locs ls h hw hl
      have h : lb_X1_hasTradeOfLower_2 o_me o_me_isles o_me_isles_now  (lp_X1_hasTradeOfLower_2 o_me o_me_isles o_me_isles_now  N) v1 v2 = some y := h
      unfold lb_X1_hasTradeOfLower_2 at h
      refine lv_iload_n hx hb dX1_hasTradeOfLower_2 rfl (lv_at hl 2 rfl) ?_
      refine lv_iload_n hx hb dX1_hasTradeOfLower_3 rfl (lv_at hl 1 rfl) ?_
      refine lv_icmp_ge (tgt := 42) hx hb dX1_hasTradeOfLower_4 (by decide) (fun c => ?_) (fun c => ?_)
      · have h := z_t h c
        refine lv_iconst (v := 0) hx hb dX1_hasTradeOfLower_42 (by decide) ?_
        have hy := Option.some.inj h
        rw [← hQz, ← hy]
        exact xr_i (v := (0 : Int32)) hx hb hr rfl hlk hK hw dX1_hasTradeOfLower_43
      · have h := z_f h c
        refine lv_aload_n hx hb dX1_hasTradeOfLower_7 rfl (lv_at hl 0 rfl) ?_
        refine fgX1_0 hx hb hts hown hK hw 0 rfl kw363 dX1_hasTradeOfLower_8 ?_
        refine fgX2_0 hx hb hts hown hK hw 1 rfl kw299 dX1_hasTradeOfLower_11 ?_
        refine fgX4_0 hx hb hts hown hK hw 2 rfl kw263 dX1_hasTradeOfLower_14 ?_
        refine lv_iload_n hx hb dX1_hasTradeOfLower_17 rfl (lv_at hl 2 rfl) ?_
        obtain ⟨g1, h⟩ := z_gd h
        refine faX4_0 hx hb hK hw 2 rfl rfl g1 dX1_hasTradeOfLower_18 ?_
        refine lv_aload_n hx hb dX1_hasTradeOfLower_19 rfl (lv_at hl 0 rfl) ?_
        refine fgX1_0 hx hb hts hown hK hw 0 rfl kw363 dX1_hasTradeOfLower_20 ?_
        refine fgX2_0 hx hb hts hown hK hw 1 rfl kw299 dX1_hasTradeOfLower_23 ?_
        refine fgX4_0 hx hb hts hown hK hw 2 rfl kw263 dX1_hasTradeOfLower_26 ?_
        refine lv_iload_n hx hb dX1_hasTradeOfLower_29 rfl (lv_at hl 1 rfl) ?_
        obtain ⟨g2, h⟩ := z_gd h
        refine faX4_0 hx hb hK hw 2 rfl rfl g2 dX1_hasTradeOfLower_30 ?_
        refine lv_icmp_ne (tgt := 36) hx hb dX1_hasTradeOfLower_31 (by decide) (fun c => ?_) (fun c => ?_)
        · have h := z_f h c
          obtain ⟨x3, ex3, h⟩ := z_lt h
          refine lv_iinc (v := x3) (lv' := [(2, .int x3), (0, .ref h_me), (1, .int v1)]) hx hb dX1_hasTradeOfLower_36 hl (k := 2) rfl ((congrArg (v2 + ·) (show Int32.ofInt 1 = (1 : Int32) from by decide)).trans ex3.symm) (by decide) rfl (fun ls hl => ?_)
          refine lv_goto (tgt := 2) hx hb dX1_hasTradeOfLower_39 (by decide) ?_
          exact ih v1 x3 _ _ _ h hw (lv_sub hl [1, 2, 0] rfl)
        · have h := z_t h c
          refine lv_iconst (v := 1) hx hb dX1_hasTradeOfLower_34 (by decide) ?_
          have hy := Option.some.inj h
          rw [← hQz, ← hy]
          exact xr_i (v := (1 : Int32)) hx hb hr rfl hlk hK hw dX1_hasTradeOfLower_35
  unfold f_X1_hasTradeOfLower at h
  refine lv_iconst (v := 0) hx hb dX1_hasTradeOfLower_0 (by decide) ?_
  refine lv_istore_n (lv' := [(2, .int (0 : Int32)), (0, .ref h_me), (1, .int p0)]) hx hb dX1_hasTradeOfLower_1 rfl hl (by decide) rfl (fun ls hl => ?_)
  exact lp_2_0  zfu p0 (0 : Int32) _ _ _ h hw (lv_sub hl [1, 2, 0] rfl)

def bk_X1_passedYear_53 (o_me : Ob) (o_me_isles : Ob) (o_pool : List CR) (rec_12_0 : Option Nat × Int32 × Int32 × Ob × Ob → Option (Int32 × Ob × Ob)) (v1 : Option Nat) (v2 : Int32) (v3 : Int32) (o_me_isles_now : Ob) (o_me_machine : Ob) : Option (Int32 × Ob × Ob) :=
  zlt (v3 + (1 : Int32)) fun x4 =>
  rec_12_0 (v1, v2, x4, o_me_isles_now, o_me_machine)
def lb_X1_passedYear_12 (o_me : Ob) (o_me_isles : Ob) (o_pool : List CR)  (rec_12_0 : Option Nat × Int32 × Int32 × Ob × Ob → Option (Int32 × Ob × Ob)) (v1 : Option Nat) (v2 : Int32) (v3 : Int32) (o_me_isles_now : Ob) (o_me_machine : Ob) : Option (Int32 × Ob × Ob) :=
  if (gI o_me_isles 7) ≤ v3 then
  (zlt (sI o_me_isles_now 4 ((gI o_me_isles_now 4) + (1 : Int32))) fun o2 =>
  some (v2, o2, o_me_machine))
  else
  ((f_X1_hasTradeOfLower o_me o_me_isles o_me_isles_now v3).bind fun z3 =>
  if z3 = (0 : Int32) then
  (bk_X1_passedYear_53 o_me o_me_isles o_pool rec_12_0 v1 v2 v3 o_me_isles_now o_me_machine)
  else
  ((f_X1_turnsTo_Q o_me o_me_isles o_me_isles_now o_me_machine o_pool v1 v3 (0 : Int32)).bind fun z5 =>
  zgd (zin v3 7) <|
  zlt (tA o_me_isles_now 0 v3.toNatClampNeg z5.1) fun o7 =>
  zlt (v2 + (1 : Int32)) fun x8 =>
  bk_X1_passedYear_53 o_me o_me_isles o_pool rec_12_0 v1 x8 v3 o7 z5.2))
def lp_X1_passedYear_12 (o_me : Ob) (o_me_isles : Ob) (o_pool : List CR)  : Nat → (Option Nat × Int32 × Int32 × Ob × Ob) → Option (Int32 × Ob × Ob) := zit (fun rec a => lb_X1_passedYear_12 o_me o_me_isles o_pool  rec a.1 a.2.1 a.2.2.1 a.2.2.2.1 a.2.2.2.2)
def f_X1_passedYear (o_me : Ob) (o_me_isles : Ob) (o_me_isles_now : Ob) (o_me_machine : Ob) (o_pool : List CR) : Option (Int32 × Ob × Ob) :=
  (f_X2_lawInForce o_me_isles).bind fun z1 =>
  lp_X1_passedYear_12 o_me o_me_isles o_pool  zfu (z1, (0 : Int32), (0 : Int32), o_me_isles_now, o_me_machine)
set_option maxHeartbeats 4000000 in
set_option maxRecDepth 100000 in
theorem m_X1_passedYear (l : Launch) (dC : Nat → ClassId) (dI : Nat → Nat → Nat) (sz : Nat) (h_me : Nat) (h_me_isles : Nat) (h_me_machine : Nat) (h_me_isles_now : Nat) (q_me : Nat → Nat) (k_me : Nat → ClassId) (q_me_isles : Nat → Nat) (k_me_isles : Nat → ClassId) (q_me_isles_now : Nat → Nat) (k_me_isles_now : Nat → ClassId) (q_me_machine : Nat → Nat) (k_me_machine : Nat → ClassId) (o_me : Ob) (o_me_isles : Ob) (o_me_isles_now : Ob) (o_me_machine : Ob) (o_pool : List CR) (y : Int32 × Ob × Ob) (h : f_X1_passedYear o_me o_me_isles o_me_isles_now o_me_machine o_pool = some y) : CI l yX1_passedYear cX1_passedYear 4 (some .int) ({ frames := 4, cells := 0, slots := 0, locals := 109 } : Room) dC dI sz [.ref h_me] [wX1 h_me h_me_isles h_me_machine q_me k_me o_me, wX2 h_me_isles h_me_isles_now q_me_isles k_me_isles o_me_isles, wX4 h_me_isles_now q_me_isles_now k_me_isles_now o_me_isles_now, wX3 h_me_machine q_me_machine k_me_machine o_me_machine, wPL o_pool] [tX1 k_me, tX2 k_me_isles, tX4 k_me_isles_now, tX3 k_me_machine, tPL o_pool] y.1 [wX1 h_me h_me_isles h_me_machine q_me k_me o_me, wX2 h_me_isles h_me_isles_now q_me_isles k_me_isles o_me_isles, wX4 h_me_isles_now q_me_isles_now k_me_isles_now y.2.1, wX3 h_me_machine q_me_machine k_me_machine y.2.2, wPL o_pool] := by
  refine CC_of (by decide) (Nat.le_of_ble_eq_true rfl) ?_
  intro p e s m below meth c A ls hx hb hml hr hlk hnm hown hts hX hK hP hD hA hl
  have hl : lv_has ls 4 [(0, .ref h_me)] := hl
  have hown : s.vm.findClass RX1 = some m.cls := hown
  have hw : Wd dC dI A s.heap [wX1 h_me h_me_isles h_me_machine q_me k_me o_me, wX2 h_me_isles h_me_isles_now q_me_isles k_me_isles o_me_isles, wX4 h_me_isles_now q_me_isles_now k_me_isles_now o_me_isles_now, wX3 h_me_machine q_me_machine k_me_machine o_me_machine, wPL o_pool] s.heap [] := ⟨hP, hD, va_S.rf⟩
  generalize hQz : (MQ below (QI dC dI (fun r (_ : Unit) => r = y.1) (fun _ => Jn [wX1 h_me h_me_isles h_me_machine q_me k_me o_me, wX2 h_me_isles h_me_isles_now q_me_isles k_me_isles o_me_isles, wX4 h_me_isles_now q_me_isles_now k_me_isles_now y.2.1, wX3 h_me_machine q_me_machine k_me_machine y.2.2, wPL o_pool]) (fun _ => Jt [tX1 k_me, tX2 k_me_isles, tX4 k_me_isles_now, tX3 k_me_machine, tPL o_pool]) A) ([.ref h_me] : List Value).toArray s 0 0 A) = Qz
  clear hP hD hnm
  have bk_53_1 : ∀ (rec_12_0 : Option Nat × Int32 × Int32 × Ob × Ob → Option (Int32 × Ob × Ob)) (hrec_12_0 : ∀ (v1 : Option Nat) (v2 : Int32) (v3 : Int32) (o_me_isles_now : Ob) (o_me_machine : Ob) (H : Heap) (locs : List Loc) (ls : Array Slot), rec_12_0 (v1, v2, v3, o_me_isles_now, o_me_machine) = some y → Wd dC dI A s.heap [wX1 h_me h_me_isles h_me_machine q_me k_me o_me, wX2 h_me_isles h_me_isles_now q_me_isles k_me_isles o_me_isles, wX4 h_me_isles_now q_me_isles_now k_me_isles_now o_me_isles_now, wX3 h_me_machine q_me_machine k_me_machine o_me_machine, wPL o_pool] H locs → lv_has ls 4 [(0, .ref h_me), (1, va_rf v1), (2, .int v2), (3, .int v3)] → W p l e ({ frames := 4, cells := 0, slots := 0, locals := 109 } : Room) s m ([.ref h_me] : List Value).toArray below meth c H locs 0 0 Qz (F0 m 12 ls [])), ∀ (v1 : Option Nat) (v2 : Int32) (v3 : Int32) (o_me_isles_now : Ob) (o_me_machine : Ob) (H : Heap) (locs : List Loc) (ls : Array Slot), bk_X1_passedYear_53 o_me o_me_isles o_pool rec_12_0 v1 v2 v3 o_me_isles_now o_me_machine = some y → Wd dC dI A s.heap [wX1 h_me h_me_isles h_me_machine q_me k_me o_me, wX2 h_me_isles h_me_isles_now q_me_isles k_me_isles o_me_isles, wX4 h_me_isles_now q_me_isles_now k_me_isles_now o_me_isles_now, wX3 h_me_machine q_me_machine k_me_machine o_me_machine, wPL o_pool] H locs → lv_has ls 4 [(0, .ref h_me), (1, va_rf v1), (2, .int v2), (3, .int v3)] → W p l e ({ frames := 4, cells := 0, slots := 0, locals := 109 } : Room) s m ([.ref h_me] : List Value).toArray below meth c H locs 0 0 Qz (F0 m 53 ls []) := by
    intro rec_12_0 hrec_12_0
    intro v1 v2 v3 o_me_isles_now o_me_machine H locs ls h hw hl
    unfold bk_X1_passedYear_53 at h
    obtain ⟨x4, ex4, h⟩ := z_lt h
    refine lv_iinc (v := x4) (lv' := [(3, .int x4), (0, .ref h_me), (1, va_rf v1), (2, .int v2)]) hx hb dX1_passedYear_53 hl (k := 3) rfl ((congrArg (v3 + ·) (show Int32.ofInt 1 = (1 : Int32) from by decide)).trans ex4.symm) (by decide) rfl (fun ls hl => ?_)
    refine lv_goto (tgt := 12) hx hb dX1_passedYear_56 (by decide) ?_
    exact hrec_12_0 v1 v2 x4 o_me_isles_now o_me_machine _ _ _ h hw (lv_sub hl [1, 2, 3, 0] rfl)
  have lp_12_0 : ∀ (N : Nat), ∀ (v1 : Option Nat) (v2 : Int32) (v3 : Int32) (o_me_isles_now : Ob) (o_me_machine : Ob) (H : Heap) (locs : List Loc) (ls : Array Slot), lp_X1_passedYear_12 o_me o_me_isles o_pool  N (v1, v2, v3, o_me_isles_now, o_me_machine) = some y → Wd dC dI A s.heap [wX1 h_me h_me_isles h_me_machine q_me k_me o_me, wX2 h_me_isles h_me_isles_now q_me_isles k_me_isles o_me_isles, wX4 h_me_isles_now q_me_isles_now k_me_isles_now o_me_isles_now, wX3 h_me_machine q_me_machine k_me_machine o_me_machine, wPL o_pool] H locs → lv_has ls 4 [(0, .ref h_me), (1, va_rf v1), (2, .int v2), (3, .int v3)] → W p l e ({ frames := 4, cells := 0, slots := 0, locals := 109 } : Room) s m ([.ref h_me] : List Value).toArray below meth c H locs 0 0 Qz (F0 m 12 ls []) := by
    intro N
    induction N with
    | zero =>
      intro v1 v2 v3 o_me_isles_now o_me_machine H locs ls h hw hl
      exact absurd (show (none : Option (Int32 × Ob × Ob)) = some y from h) (by simp)
    | succ N ih =>
      intro v1 v2 v3 o_me_isles_now o_me_machine H locs ls h hw hl
      have h : lb_X1_passedYear_12 o_me o_me_isles o_pool  (lp_X1_passedYear_12 o_me o_me_isles o_pool  N) v1 v2 v3 o_me_isles_now o_me_machine = some y := h
      unfold lb_X1_passedYear_12 at h
      refine lv_iload_n hx hb dX1_passedYear_12 rfl (lv_at hl 3 rfl) ?_
      refine lv_aload_n hx hb dX1_passedYear_13 rfl (lv_at hl 0 rfl) ?_
      refine fgX1_0 hx hb hts hown hK hw 0 rfl kw363 dX1_passedYear_14 ?_
      refine fgX2_7 hx hb hts hown hK hw 1 rfl kw318 dX1_passedYear_17 ?_
      refine lv_icmp_ge (tgt := 59) hx hb dX1_passedYear_20 (by decide) (fun c => ?_) (fun c => ?_)
      · have h := z_t h c
        refine lv_aload_n hx hb dX1_passedYear_59 rfl (lv_at hl 0 rfl) ?_
        refine fgX1_0 hx hb hts hown hK hw 0 rfl kw363 dX1_passedYear_60 ?_
        refine fgX2_0 hx hb hts hown hK hw 1 rfl kw299 dX1_passedYear_63 ?_
        refine lv_dup hx hb dX1_passedYear_66 rfl ?_
        refine fgX4_4 hx hb hts hown hK hw 2 rfl kw280 dX1_passedYear_67 ?_
        refine lv_iconst (v := 1) hx hb dX1_passedYear_70 (by decide) ?_
        refine lv_iadd hx hb dX1_passedYear_71 ?_
        refine fpX4_4 hx hb hts hown hK hw 2 rfl kw280 dX1_passedYear_72 (fun H locs hw => ?_)
        obtain ⟨o2, eo2, h⟩ := z_lt h
        have hw : Wd dC dI A s.heap [wX1 h_me h_me_isles h_me_machine q_me k_me o_me, wX2 h_me_isles h_me_isles_now q_me_isles k_me_isles o_me_isles, wX4 h_me_isles_now q_me_isles_now k_me_isles_now o2, wX3 h_me_machine q_me_machine k_me_machine o_me_machine, wPL o_pool] H locs := by rw [eo2]; exact hw
        refine lv_iload_n hx hb dX1_passedYear_75 rfl (lv_at hl 2 rfl) ?_
        have hy := Option.some.inj h
        rw [← hQz, ← hy]
        exact xr_i (v := v2) hx hb hr rfl hlk hK hw dX1_passedYear_76
      · have h := z_f h c
        refine lv_aload_n hx hb dX1_passedYear_23 rfl (lv_at hl 0 rfl) ?_
        refine lv_iload_n hx hb dX1_passedYear_24 rfl (lv_at hl 3 rfl) ?_
        obtain ⟨z3, ez3, h⟩ := z_bd h
        refine xj_i (xrV (As := [.int v3]) (rest := []) ⟨hx, hb, hml, hown, hts⟩ (m_X1_hasTradeOfLower l dC dI _ h_me h_me_isles h_me_machine h_me_isles_now q_me k_me q_me_isles k_me_isles q_me_isles_now k_me_isles_now o_me o_me_isles o_me_isles_now v3 z3 ez3) kw897 kw894 kw896 kw25 kw117 hd_X1_hasTradeOfLower ⟨rfl, rfl⟩ rfl rfl ⟨rfl, rfl⟩ hX hK hw [0, 1, 2] (by decide) rfl rfl rfl rfl rfl hl.1 rfl rfl dX1_passedYear_25) hw hA [0, 1, 2] (by decide) rfl rfl (fun H locs hw => ?_)
        have hw : Wd dC dI A s.heap [wX1 h_me h_me_isles h_me_machine q_me k_me o_me, wX2 h_me_isles h_me_isles_now q_me_isles k_me_isles o_me_isles, wX4 h_me_isles_now q_me_isles_now k_me_isles_now o_me_isles_now, wX3 h_me_machine q_me_machine k_me_machine o_me_machine, wPL o_pool] H locs := hw
        refine lv_if_eq (tgt := 53) hx hb dX1_passedYear_28 (by decide) (fun c => ?_) (fun c => ?_)
        · have h := z_t h c
          exact bk_53_1 (lp_X1_passedYear_12 o_me o_me_isles o_pool  N) ih v1 v2 v3 o_me_isles_now o_me_machine _ _ _ h hw (lv_sub hl [0, 1, 2, 3] rfl)
        · have h := z_f h c
          refine lv_aload_n hx hb dX1_passedYear_31 rfl (lv_at hl 0 rfl) ?_
          refine fgX1_0 hx hb hts hown hK hw 0 rfl kw363 dX1_passedYear_32 ?_
          refine fgX2_0 hx hb hts hown hK hw 1 rfl kw299 dX1_passedYear_35 ?_
          refine fgX4_0 hx hb hts hown hK hw 2 rfl kw263 dX1_passedYear_38 ?_
          refine lv_iload_n hx hb dX1_passedYear_41 rfl (lv_at hl 3 rfl) ?_
          refine lv_aload_n hx hb dX1_passedYear_42 rfl (lv_at hl 0 rfl) ?_
          refine xaload_n hx hb dX1_passedYear_43 rfl (lv_at hl 1 rfl) ?_
          refine lv_iload_n hx hb dX1_passedYear_44 rfl (lv_at hl 3 rfl) ?_
          refine lv_iconst (v := 0) hx hb dX1_passedYear_45 (by decide) ?_
          obtain ⟨z5, ez5, h⟩ := z_bd h
          refine xj_i (xrV (As := [va_rf v1, .int v3, .int (0 : Int32)]) (rest := [.int v3, .ref (q_me_isles_now 0)]) ⟨hx, hb, hml, hown, hts⟩ (m_X1_turnsTo_Q l dC dI _ h_me h_me_isles h_me_machine h_me_isles_now q_me k_me q_me_isles k_me_isles q_me_isles_now k_me_isles_now q_me_machine k_me_machine o_me o_me_isles o_me_isles_now o_me_machine o_pool v1 v3 (0 : Int32) z5 ez5) kw875 kw872 kw873 kw874 kw117 hd_X1_turnsTo ⟨rfl, rfl⟩ rfl rfl ⟨rfl, rfl⟩ hX hK hw [0, 1, 2, 3, 4] (by decide) rfl rfl rfl rfl rfl hl.1 rfl rfl dX1_passedYear_46) hw hA [0, 1, 2, 3, 4] (by decide) rfl rfl (fun H locs hw => ?_)
          have hw : Wd dC dI A s.heap [wX1 h_me h_me_isles h_me_machine q_me k_me o_me, wX2 h_me_isles h_me_isles_now q_me_isles k_me_isles o_me_isles, wX4 h_me_isles_now q_me_isles_now k_me_isles_now o_me_isles_now, wX3 h_me_machine q_me_machine k_me_machine z5.2, wPL o_pool] H locs := hw
          obtain ⟨g6, h⟩ := z_gd h
          refine fbX4_0 hx hb hK hw 2 rfl rfl g6 dX1_passedYear_49 (fun H locs hw => ?_)
          obtain ⟨o7, eo7, h⟩ := z_lt h
          have hw : Wd dC dI A s.heap [wX1 h_me h_me_isles h_me_machine q_me k_me o_me, wX2 h_me_isles h_me_isles_now q_me_isles k_me_isles o_me_isles, wX4 h_me_isles_now q_me_isles_now k_me_isles_now o7, wX3 h_me_machine q_me_machine k_me_machine z5.2, wPL o_pool] H locs := by rw [eo7]; exact hw
          obtain ⟨x8, ex8, h⟩ := z_lt h
          refine lv_iinc (v := x8) (lv' := [(2, .int x8), (0, .ref h_me), (1, va_rf v1), (3, .int v3)]) hx hb dX1_passedYear_50 hl (k := 2) rfl ((congrArg (v2 + ·) (show Int32.ofInt 1 = (1 : Int32) from by decide)).trans ex8.symm) (by decide) (by generalize v1 = r9; cases r9 <;> rfl) (fun ls hl => ?_)
          exact bk_53_1 (lp_X1_passedYear_12 o_me o_me_isles o_pool  N) ih v1 x8 v3 o7 z5.2 _ _ _ h hw (lv_sub hl [1, 2, 0, 3] rfl)
  unfold f_X1_passedYear at h
  refine lv_aload_n hx hb dX1_passedYear_0 rfl (lv_at hl 0 rfl) ?_
  refine fgX1_0 hx hb hts hown hK hw 0 rfl kw363 dX1_passedYear_1 ?_
  obtain ⟨z1, ez1, h⟩ := z_bd h
  refine xj_q (xrV (As := []) (rest := []) ⟨hx, hb, hml, hown, hts⟩ (m_X2_lawInForce l dC dI _ h_me_isles h_me_isles_now q_me_isles k_me_isles o_me_isles z1 ez1) kw531 kw853 kw529 kw530 kw115 hd_X2_lawInForce ⟨rfl, rfl⟩ rfl rfl ⟨rfl, rfl⟩ hX hK hw [1] (by decide) rfl rfl rfl rfl rfl hl.1 rfl rfl dX1_passedYear_4) hw hA [1] (by decide) rfl rfl (fun H locs hw => ?_)
  have hw : Wd dC dI A s.heap [wX1 h_me h_me_isles h_me_machine q_me k_me o_me, wX2 h_me_isles h_me_isles_now q_me_isles k_me_isles o_me_isles, wX4 h_me_isles_now q_me_isles_now k_me_isles_now o_me_isles_now, wX3 h_me_machine q_me_machine k_me_machine o_me_machine, wPL o_pool] H locs := hw
  refine xastore_n (lv' := [(1, va_rf z1), (0, .ref h_me)]) hx hb dX1_passedYear_7 rfl hl (by decide) rfl (fun ls hl => ?_)
  refine lv_iconst (v := 0) hx hb dX1_passedYear_8 (by decide) ?_
  refine lv_istore_n (lv' := [(2, .int (0 : Int32)), (1, va_rf z1), (0, .ref h_me)]) hx hb dX1_passedYear_9 rfl hl (by decide) (by generalize z1 = r9; cases r9 <;> rfl) (fun ls hl => ?_)
  refine lv_iconst (v := 0) hx hb dX1_passedYear_10 (by decide) ?_
  refine lv_istore_n (lv' := [(3, .int (0 : Int32)), (2, .int (0 : Int32)), (1, va_rf z1), (0, .ref h_me)]) hx hb dX1_passedYear_11 rfl hl (by decide) rfl (fun ls hl => ?_)
  exact lp_12_0  zfu z1 (0 : Int32) (0 : Int32) o_me_isles_now o_me_machine _ _ _ h hw (lv_sub hl [3, 2, 1, 0] rfl)

