def bk_X6_readSum_52 (rS : Ob → Ob → Int32 → Option (Int32 × Ob × Ob)) (nc_me_code : Nat) (ns_me_code : Nat) (rec_12_0 : Int32 × Int32 × Ob × Ob → Option (Int32 × Ob × Ob)) (v1 : Int32) (v2 : Int32) (s0 : Int32) (o_me : Ob) (o_me_code : Ob) : Option (Int32 × Ob × Ob) :=
  (f_X6_step o_me).bind fun z4 =>
  (f_X6_readTerm rS nc_me_code ns_me_code z4 o_me_code v1).bind fun z5 =>
  if z5.1 = (0 : Int32) then
  (some ((0 : Int32), z5.2.1, z5.2.2))
  else
  ((f_X0_add nc_me_code ns_me_code z5.2.2 s0 (0 : Int32)).bind fun z6 =>
  zlt (v2 + (1 : Int32)) fun x7 =>
  rec_12_0 (v1, x7, z5.2.1, z6.2))
def bk_X6_readSum_37 (rS : Ob → Ob → Int32 → Option (Int32 × Ob × Ob)) (nc_me_code : Nat) (ns_me_code : Nat) (rec_12_0 : Int32 × Int32 × Ob × Ob → Option (Int32 × Ob × Ob)) (v1 : Int32) (v2 : Int32) (o_me : Ob) (o_me_code : Ob) : Option (Int32 × Ob × Ob) :=
  (f_X6_isSign o_me (43 : Int32)).bind fun z3 =>
  if z3 = (0 : Int32) then
  (bk_X6_readSum_52 rS nc_me_code ns_me_code rec_12_0 v1 v2 (6 : Int32) o_me o_me_code)
  else
  (bk_X6_readSum_52 rS nc_me_code ns_me_code rec_12_0 v1 v2 (5 : Int32) o_me o_me_code)
def lb_X6_readSum_12 (rS : Ob → Ob → Int32 → Option (Int32 × Ob × Ob)) (nc_me_code : Nat) (ns_me_code : Nat)  (rec_12_0 : Int32 × Int32 × Ob × Ob → Option (Int32 × Ob × Ob)) (v1 : Int32) (v2 : Int32) (o_me : Ob) (o_me_code : Ob) : Option (Int32 × Ob × Ob) :=
  if (400 : Int32) ≤ v2 then
  (some ((1 : Int32), o_me, o_me_code))
  else
  ((f_X6_isSign o_me (43 : Int32)).bind fun z2 =>
  if z2 = (0 : Int32) then
  ((f_X6_isSign o_me (45 : Int32)).bind fun z8 =>
  if z8 = (0 : Int32) then
  (some ((1 : Int32), o_me, o_me_code))
  else
  (bk_X6_readSum_37 rS nc_me_code ns_me_code rec_12_0 v1 v2 o_me o_me_code))
  else
  (bk_X6_readSum_37 rS nc_me_code ns_me_code rec_12_0 v1 v2 o_me o_me_code))
def lp_X6_readSum_12 (rS : Ob → Ob → Int32 → Option (Int32 × Ob × Ob)) (nc_me_code : Nat) (ns_me_code : Nat)  : Nat → (Int32 × Int32 × Ob × Ob) → Option (Int32 × Ob × Ob) := zit (fun rec a => lb_X6_readSum_12 rS nc_me_code ns_me_code  rec a.1 a.2.1 a.2.2.1 a.2.2.2)
def f_X6_readSum (rS : Ob → Ob → Int32 → Option (Int32 × Ob × Ob)) (nc_me_code : Nat) (ns_me_code : Nat) (o_me : Ob) (o_me_code : Ob) (p0 : Int32) : Option (Int32 × Ob × Ob) :=
  (f_X6_readTerm rS nc_me_code ns_me_code o_me o_me_code p0).bind fun z1 =>
  if z1.1 = (0 : Int32) then
  (some ((0 : Int32), z1.2.1, z1.2.2))
  else
  (lp_X6_readSum_12 rS nc_me_code ns_me_code  zfu (p0, (0 : Int32), z1.2.1, z1.2.2))
set_option maxHeartbeats 4000000 in
set_option maxRecDepth 100000 in
theorem m_X6_readSum (l : Launch) (dC : Nat → ClassId) (dI : Nat → Nat → Nat) (sz : Nat) (h_me : Nat) (h_me_code : Nat) (q_me : Nat → Nat) (k_me : Nat → ClassId) (q_me_code : Nat → Nat) (k_me_code : Nat → ClassId) (nc_me_code : Nat) (ns_me_code : Nat) (rS : Ob → Ob → Int32 → Option (Int32 × Ob × Ob)) (FR LC : Nat) (hrS : ∀ (sz : Nat) (o_me : Ob) (o_me_code : Ob) (p0 : Int32) (y : Int32 × Ob × Ob), rS o_me o_me_code p0 = some y → CI l yX6_readSum cX6_readSum 4 (some .boolean) ({ frames := FR, cells := 0, slots := 0, locals := LC } : Room) dC dI sz [.ref h_me, .int p0] [wX6 h_me h_me_code q_me k_me o_me, wX0 h_me_code nc_me_code ns_me_code q_me_code k_me_code o_me_code] [tX6 k_me, tX0 k_me_code] y.1 [wX6 h_me h_me_code q_me k_me y.2.1, wX0 h_me_code nc_me_code ns_me_code q_me_code k_me_code y.2.2]) (o_me : Ob) (o_me_code : Ob) (p0 : Int32) (y : Int32 × Ob × Ob) (h : f_X6_readSum rS nc_me_code ns_me_code o_me o_me_code p0 = some y) : CI l yX6_readSum cX6_readSum 4 (some .boolean) ({ frames := FR + 9, cells := 0, slots := 0, locals := LC + 200 } : Room) dC dI sz [.ref h_me, .int p0] [wX6 h_me h_me_code q_me k_me o_me, wX0 h_me_code nc_me_code ns_me_code q_me_code k_me_code o_me_code] [tX6 k_me, tX0 k_me_code] y.1 [wX6 h_me h_me_code q_me k_me y.2.1, wX0 h_me_code nc_me_code ns_me_code q_me_code k_me_code y.2.2] := by
  refine CC_of (by decide) (Nat.le_of_ble_eq_true rfl) ?_
  intro p e s m below meth c A ls hx hb hml hr hlk hnm hown hts hX hK hP hD hA hl
  have hl : lv_has ls 4 [(0, .ref h_me), (1, .int p0)] := hl
  have hown : s.vm.findClass RX6 = some m.cls := hown
  have hw : Wd dC dI A s.heap [wX6 h_me h_me_code q_me k_me o_me, wX0 h_me_code nc_me_code ns_me_code q_me_code k_me_code o_me_code] s.heap [] := ⟨hP, hD, va_S.rf⟩
  generalize hQz : (MQ below (QI dC dI (fun r (_ : Unit) => r = y.1) (fun _ => Jn [wX6 h_me h_me_code q_me k_me y.2.1, wX0 h_me_code nc_me_code ns_me_code q_me_code k_me_code y.2.2]) (fun _ => Jt [tX6 k_me, tX0 k_me_code]) A) ([.ref h_me, .int p0] : List Value).toArray s 0 0 A) = Qz
  clear hP hD hnm
  have bk_52_2 : ∀ (rec_12_0 : Int32 × Int32 × Ob × Ob → Option (Int32 × Ob × Ob)) (hrec_12_0 : ∀ (v1 : Int32) (v2 : Int32) (o_me : Ob) (o_me_code : Ob) (H : Heap) (locs : List Loc) (ls : Array Slot), rec_12_0 (v1, v2, o_me, o_me_code) = some y → Wd dC dI A s.heap [wX6 h_me h_me_code q_me k_me o_me, wX0 h_me_code nc_me_code ns_me_code q_me_code k_me_code o_me_code] H locs → lv_has ls 4 [(0, .ref h_me), (1, .int v1), (2, .int v2)] → W p l e ({ frames := FR + 9, cells := 0, slots := 0, locals := LC + 200 } : Room) s m ([.ref h_me, .int p0] : List Value).toArray below meth c H locs 0 0 Qz (F0 m 12 ls [])), ∀ (v1 : Int32) (v2 : Int32) (s0 : Int32) (o_me : Ob) (o_me_code : Ob) (H : Heap) (locs : List Loc) (ls : Array Slot), bk_X6_readSum_52 rS nc_me_code ns_me_code rec_12_0 v1 v2 s0 o_me o_me_code = some y → Wd dC dI A s.heap [wX6 h_me h_me_code q_me k_me o_me, wX0 h_me_code nc_me_code ns_me_code q_me_code k_me_code o_me_code] H locs → lv_has ls 4 [(0, .ref h_me), (1, .int v1), (2, .int v2)] → W p l e ({ frames := FR + 9, cells := 0, slots := 0, locals := LC + 200 } : Room) s m ([.ref h_me, .int p0] : List Value).toArray below meth c H locs 0 0 Qz (F0 m 52 ls [.int s0]) := by
    intro rec_12_0 hrec_12_0
    intro v1 v2 s0 o_me o_me_code H locs ls h hw hl
    unfold bk_X6_readSum_52 at h
    refine lv_istore_n (lv' := [(3, .int s0), (0, .ref h_me), (1, .int v1), (2, .int v2)]) hx hb dX6_readSum_52 rfl hl (by decide) rfl (fun ls hl => ?_)
    refine lv_aload_n hx hb dX6_readSum_53 rfl (lv_at hl 1 rfl) ?_
    obtain ⟨z4, ez4, h⟩ := z_bd h
    refine xj_v (xrV (As := []) (rest := []) ⟨hx, hb, hml, hown, hts⟩ (m_X6_step l dC dI _ h_me h_me_code q_me k_me o_me z4 ez4) kw675 kw672 kw674 kw5 kw111 hd_X6_step ⟨Nat.ble_eq_true_of_le (by show 1 + 1 ≤ FR + 9; omega), Nat.ble_eq_true_of_le (by show 8 + (2 + 11) + (21) ≤ LC + 200; omega)⟩ rfl rfl ⟨rfl, rfl⟩ hX hK hw [0] (by decide) rfl rfl rfl rfl rfl hl.1 rfl rfl dX6_readSum_54) hw hA [0] (by decide) rfl rfl (fun H locs hw => ?_)
    have hw : Wd dC dI A s.heap [wX6 h_me h_me_code q_me k_me z4, wX0 h_me_code nc_me_code ns_me_code q_me_code k_me_code o_me_code] H locs := hw
    refine lv_aload_n hx hb dX6_readSum_57 rfl (lv_at hl 1 rfl) ?_
    refine lv_iload_n hx hb dX6_readSum_58 rfl (lv_at hl 2 rfl) ?_
    obtain ⟨z5, ez5, h⟩ := z_bd h
    refine xj_i (xrV (As := [.int v1]) (rest := []) ⟨hx, hb, hml, hown, hts⟩ (m_X6_readTerm l dC dI _ h_me h_me_code q_me k_me q_me_code k_me_code nc_me_code ns_me_code rS FR LC hrS z4 o_me_code v1 z5 ez5) kw757 kw754 kw756 kw11 kw111 hd_X6_readTerm ⟨Nat.ble_eq_true_of_le (by show FR + 8 + 1 ≤ FR + 9; omega), Nat.ble_eq_true_of_le (by show 8 + (4 + 11) + (LC + 177) ≤ LC + 200; omega)⟩ rfl rfl ⟨rfl, rfl⟩ hX hK hw [0, 1] (by decide) rfl rfl rfl rfl rfl hl.1 rfl rfl dX6_readSum_59) hw hA [0, 1] (by decide) rfl rfl (fun H locs hw => ?_)
    have hw : Wd dC dI A s.heap [wX6 h_me h_me_code q_me k_me z5.2.1, wX0 h_me_code nc_me_code ns_me_code q_me_code k_me_code z5.2.2] H locs := hw
    refine lv_if_ne (tgt := 67) hx hb dX6_readSum_62 (by decide) (fun c => ?_) (fun c => ?_)
    · have h := z_f h c
      refine lv_aload_n hx hb dX6_readSum_67 rfl (lv_at hl 1 rfl) ?_
      refine fgX6_1 hx hb hts hown hK hw 0 rfl kw202 dX6_readSum_68 ?_
      refine lv_iload_n hx hb dX6_readSum_71 rfl (lv_at hl 0 rfl) ?_
      refine lv_iconst (v := 0) hx hb dX6_readSum_72 (by decide) ?_
      obtain ⟨z6, ez6, h⟩ := z_bd h
      refine xj_i (xrV (As := [.int s0, .int (0 : Int32)]) (rest := []) ⟨hx, hb, hml, hown, hts⟩ (m_X0_add l dC dI _ h_me_code q_me_code k_me_code nc_me_code ns_me_code z5.2.2 s0 (0 : Int32) z6 ez6) kw775 kw772 kw773 kw774 kw112 hd_X0_add ⟨Nat.ble_eq_true_of_le (by show 0 + 1 ≤ FR + 9; omega), Nat.ble_eq_true_of_le (by show 8 + (3 + 11) + (0) ≤ LC + 200; omega)⟩ rfl rfl ⟨rfl, rfl⟩ hX hK hw [1] (by decide) rfl rfl rfl rfl rfl hl.1 rfl rfl dX6_readSum_73) hw hA [1] (by decide) rfl rfl (fun H locs hw => ?_)
      have hw : Wd dC dI A s.heap [wX6 h_me h_me_code q_me k_me z5.2.1, wX0 h_me_code nc_me_code ns_me_code q_me_code k_me_code z6.2] H locs := hw
      refine lv_pop hx hb dX6_readSum_76 rfl ?_
      obtain ⟨x7, ex7, h⟩ := z_lt h
      refine lv_iinc (v := x7) (lv' := [(2, .int x7), (3, .int s0), (0, .ref h_me), (1, .int v1)]) hx hb dX6_readSum_77 hl (k := 3) rfl ((congrArg (v2 + ·) (show Int32.ofInt 1 = (1 : Int32) from by decide)).trans ex7.symm) (by decide) rfl (fun ls hl => ?_)
      refine lv_goto (tgt := 12) hx hb dX6_readSum_80 (by decide) ?_
      exact hrec_12_0 v1 x7 z5.2.1 z6.2 _ _ _ h hw (lv_sub hl [2, 3, 0] rfl)
    · have h := z_t h c
      refine lv_iconst (v := 0) hx hb dX6_readSum_65 (by decide) ?_
      have hy := Option.some.inj h
      rw [← hQz, ← hy]
      exact xr_i (v := (0 : Int32)) hx hb hr rfl hlk hK hw dX6_readSum_66
  have bk_37_1 : ∀ (rec_12_0 : Int32 × Int32 × Ob × Ob → Option (Int32 × Ob × Ob)) (hrec_12_0 : ∀ (v1 : Int32) (v2 : Int32) (o_me : Ob) (o_me_code : Ob) (H : Heap) (locs : List Loc) (ls : Array Slot), rec_12_0 (v1, v2, o_me, o_me_code) = some y → Wd dC dI A s.heap [wX6 h_me h_me_code q_me k_me o_me, wX0 h_me_code nc_me_code ns_me_code q_me_code k_me_code o_me_code] H locs → lv_has ls 4 [(0, .ref h_me), (1, .int v1), (2, .int v2)] → W p l e ({ frames := FR + 9, cells := 0, slots := 0, locals := LC + 200 } : Room) s m ([.ref h_me, .int p0] : List Value).toArray below meth c H locs 0 0 Qz (F0 m 12 ls [])), ∀ (v1 : Int32) (v2 : Int32) (o_me : Ob) (o_me_code : Ob) (H : Heap) (locs : List Loc) (ls : Array Slot), bk_X6_readSum_37 rS nc_me_code ns_me_code rec_12_0 v1 v2 o_me o_me_code = some y → Wd dC dI A s.heap [wX6 h_me h_me_code q_me k_me o_me, wX0 h_me_code nc_me_code ns_me_code q_me_code k_me_code o_me_code] H locs → lv_has ls 4 [(0, .ref h_me), (1, .int v1), (2, .int v2)] → W p l e ({ frames := FR + 9, cells := 0, slots := 0, locals := LC + 200 } : Room) s m ([.ref h_me, .int p0] : List Value).toArray below meth c H locs 0 0 Qz (F0 m 37 ls []) := by
    intro rec_12_0 hrec_12_0
    intro v1 v2 o_me o_me_code H locs ls h hw hl
    unfold bk_X6_readSum_37 at h
    refine lv_aload_n hx hb dX6_readSum_37 rfl (lv_at hl 0 rfl) ?_
    refine lv_bipush (v := 43) hx hb dX6_readSum_38 (by decide) ?_
    obtain ⟨z3, ez3, h⟩ := z_bd h
    refine xj_i (xrV (As := [.int (43 : Int32)]) (rest := []) ⟨hx, hb, hml, hown, hts⟩ (m_X6_isSign l dC dI _ h_me h_me_code q_me k_me o_me (43 : Int32) z3 ez3) kw765 kw762 kw764 kw13 kw111 hd_X6_isSign ⟨Nat.ble_eq_true_of_le (by show 1 + 1 ≤ FR + 9; omega), Nat.ble_eq_true_of_le (by show 8 + (2 + 11) + (21) ≤ LC + 200; omega)⟩ rfl rfl ⟨rfl, rfl⟩ hX hK hw [0] (by decide) rfl rfl rfl rfl rfl hl.1 rfl rfl dX6_readSum_40) hw hA [0] (by decide) rfl rfl (fun H locs hw => ?_)
    have hw : Wd dC dI A s.heap [wX6 h_me h_me_code q_me k_me o_me, wX0 h_me_code nc_me_code ns_me_code q_me_code k_me_code o_me_code] H locs := hw
    refine lv_if_eq (tgt := 50) hx hb dX6_readSum_43 (by decide) (fun c => ?_) (fun c => ?_)
    · have h := z_t h c
      refine lv_bipush (v := 6) hx hb dX6_readSum_50 (by decide) ?_
      exact bk_52_2 rec_12_0 hrec_12_0 v1 v2 (6 : Int32) o_me o_me_code _ _ _ h hw (lv_sub hl [0, 1, 2] rfl)
    · have h := z_f h c
      refine lv_iconst (v := 5) hx hb dX6_readSum_46 (by decide) ?_
      refine lv_goto (tgt := 52) hx hb dX6_readSum_47 (by decide) ?_
      exact bk_52_2 rec_12_0 hrec_12_0 v1 v2 (5 : Int32) o_me o_me_code _ _ _ h hw (lv_sub hl [0, 1, 2] rfl)
  have lp_12_0 : ∀ (N : Nat), ∀ (v1 : Int32) (v2 : Int32) (o_me : Ob) (o_me_code : Ob) (H : Heap) (locs : List Loc) (ls : Array Slot), lp_X6_readSum_12 rS nc_me_code ns_me_code  N (v1, v2, o_me, o_me_code) = some y → Wd dC dI A s.heap [wX6 h_me h_me_code q_me k_me o_me, wX0 h_me_code nc_me_code ns_me_code q_me_code k_me_code o_me_code] H locs → lv_has ls 4 [(0, .ref h_me), (1, .int v1), (2, .int v2)] → W p l e ({ frames := FR + 9, cells := 0, slots := 0, locals := LC + 200 } : Room) s m ([.ref h_me, .int p0] : List Value).toArray below meth c H locs 0 0 Qz (F0 m 12 ls []) := by
    intro N
    induction N with
    | zero =>
      intro v1 v2 o_me o_me_code H locs ls h hw hl
      exact absurd (show (none : Option (Int32 × Ob × Ob)) = some y from h) (by simp)
    | succ N ih =>
      intro v1 v2 o_me o_me_code H locs ls h hw hl
      have h : lb_X6_readSum_12 rS nc_me_code ns_me_code  (lp_X6_readSum_12 rS nc_me_code ns_me_code  N) v1 v2 o_me o_me_code = some y := h
      unfold lb_X6_readSum_12 at h
      refine lv_iload_n hx hb dX6_readSum_12 rfl (lv_at hl 2 rfl) ?_
      refine lv_sipush (v := 400) hx hb dX6_readSum_13 (by decide) ?_
      refine lv_icmp_ge (tgt := 83) hx hb dX6_readSum_16 (by decide) (fun c => ?_) (fun c => ?_)
      · have h := z_t h c
        refine lv_iconst (v := 1) hx hb dX6_readSum_83 (by decide) ?_
        have hy := Option.some.inj h
        rw [← hQz, ← hy]
        exact xr_i (v := (1 : Int32)) hx hb hr rfl hlk hK hw dX6_readSum_84
      · have h := z_f h c
        refine lv_aload_n hx hb dX6_readSum_19 rfl (lv_at hl 0 rfl) ?_
        refine lv_bipush (v := 43) hx hb dX6_readSum_20 (by decide) ?_
        obtain ⟨z2, ez2, h⟩ := z_bd h
        refine xj_i (xrV (As := [.int (43 : Int32)]) (rest := []) ⟨hx, hb, hml, hown, hts⟩ (m_X6_isSign l dC dI _ h_me h_me_code q_me k_me o_me (43 : Int32) z2 ez2) kw765 kw762 kw764 kw13 kw111 hd_X6_isSign ⟨Nat.ble_eq_true_of_le (by show 1 + 1 ≤ FR + 9; omega), Nat.ble_eq_true_of_le (by show 8 + (2 + 11) + (21) ≤ LC + 200; omega)⟩ rfl rfl ⟨rfl, rfl⟩ hX hK hw [0] (by decide) rfl rfl rfl rfl rfl hl.1 rfl rfl dX6_readSum_22) hw hA [0] (by decide) rfl rfl (fun H locs hw => ?_)
        have hw : Wd dC dI A s.heap [wX6 h_me h_me_code q_me k_me o_me, wX0 h_me_code nc_me_code ns_me_code q_me_code k_me_code o_me_code] H locs := hw
        refine lv_if_ne (tgt := 37) hx hb dX6_readSum_25 (by decide) (fun c => ?_) (fun c => ?_)
        · have h := z_f h c
          exact bk_37_1 (lp_X6_readSum_12 rS nc_me_code ns_me_code  N) ih v1 v2 o_me o_me_code _ _ _ h hw (lv_sub hl [0, 1, 2] rfl)
        · have h := z_t h c
          refine lv_aload_n hx hb dX6_readSum_28 rfl (lv_at hl 0 rfl) ?_
          refine lv_bipush (v := 45) hx hb dX6_readSum_29 (by decide) ?_
          obtain ⟨z8, ez8, h⟩ := z_bd h
          refine xj_i (xrV (As := [.int (45 : Int32)]) (rest := []) ⟨hx, hb, hml, hown, hts⟩ (m_X6_isSign l dC dI _ h_me h_me_code q_me k_me o_me (45 : Int32) z8 ez8) kw765 kw762 kw764 kw13 kw111 hd_X6_isSign ⟨Nat.ble_eq_true_of_le (by show 1 + 1 ≤ FR + 9; omega), Nat.ble_eq_true_of_le (by show 8 + (2 + 11) + (21) ≤ LC + 200; omega)⟩ rfl rfl ⟨rfl, rfl⟩ hX hK hw [0] (by decide) rfl rfl rfl rfl rfl hl.1 rfl rfl dX6_readSum_31) hw hA [0] (by decide) rfl rfl (fun H locs hw => ?_)
          have hw : Wd dC dI A s.heap [wX6 h_me h_me_code q_me k_me o_me, wX0 h_me_code nc_me_code ns_me_code q_me_code k_me_code o_me_code] H locs := hw
          refine lv_if_eq (tgt := 83) hx hb dX6_readSum_34 (by decide) (fun c => ?_) (fun c => ?_)
          · have h := z_t h c
            refine lv_iconst (v := 1) hx hb dX6_readSum_83 (by decide) ?_
            have hy := Option.some.inj h
            rw [← hQz, ← hy]
            exact xr_i (v := (1 : Int32)) hx hb hr rfl hlk hK hw dX6_readSum_84
          · have h := z_f h c
            exact bk_37_1 (lp_X6_readSum_12 rS nc_me_code ns_me_code  N) ih v1 v2 o_me o_me_code _ _ _ h hw (lv_sub hl [0, 1, 2] rfl)
  unfold f_X6_readSum at h
  refine lv_aload_n hx hb dX6_readSum_0 rfl (lv_at hl 0 rfl) ?_
  refine lv_iload_n hx hb dX6_readSum_1 rfl (lv_at hl 1 rfl) ?_
  obtain ⟨z1, ez1, h⟩ := z_bd h
  refine xj_i (xrV (As := [.int p0]) (rest := []) ⟨hx, hb, hml, hown, hts⟩ (m_X6_readTerm l dC dI _ h_me h_me_code q_me k_me q_me_code k_me_code nc_me_code ns_me_code rS FR LC hrS o_me o_me_code p0 z1 ez1) kw757 kw754 kw756 kw11 kw111 hd_X6_readTerm ⟨Nat.ble_eq_true_of_le (by show FR + 8 + 1 ≤ FR + 9; omega), Nat.ble_eq_true_of_le (by show 8 + (4 + 11) + (LC + 177) ≤ LC + 200; omega)⟩ rfl rfl ⟨rfl, rfl⟩ hX hK hw [0, 1] (by decide) rfl rfl rfl rfl rfl hl.1 rfl rfl dX6_readSum_2) hw hA [0, 1] (by decide) rfl rfl (fun H locs hw => ?_)
  have hw : Wd dC dI A s.heap [wX6 h_me h_me_code q_me k_me z1.2.1, wX0 h_me_code nc_me_code ns_me_code q_me_code k_me_code z1.2.2] H locs := hw
  refine lv_if_ne (tgt := 10) hx hb dX6_readSum_5 (by decide) (fun c => ?_) (fun c => ?_)
  · have h := z_f h c
    refine lv_iconst (v := 0) hx hb dX6_readSum_10 (by decide) ?_
    refine lv_istore_n (lv' := [(2, .int (0 : Int32)), (0, .ref h_me), (1, .int p0)]) hx hb dX6_readSum_11 rfl hl (by decide) rfl (fun ls hl => ?_)
    exact lp_12_0  zfu p0 (0 : Int32) z1.2.1 z1.2.2 _ _ _ h hw (lv_sub hl [1, 2, 0] rfl)
  · have h := z_t h c
    refine lv_iconst (v := 0) hx hb dX6_readSum_8 (by decide) ?_
    have hy := Option.some.inj h
    rw [← hQz, ← hy]
    exact xr_i (v := (0 : Int32)) hx hb hr rfl hlk hK hw dX6_readSum_9

def fx_X6_readSum (nc_me_code : Nat) (ns_me_code : Nat) : Nat → Ob → Ob → Int32 → Option (Int32 × Ob × Ob)
  | 0 => fun _ _ _ => none
  | d + 1 => fun o1 o2 b => f_X6_readSum (fx_X6_readSum nc_me_code ns_me_code d) nc_me_code ns_me_code o1 o2 b
theorem mx_X6_readSum (l : Launch) (dC : Nat → ClassId) (dI : Nat → Nat → Nat) (h_me : Nat) (h_me_code : Nat) (q_me : Nat → Nat) (k_me : Nat → ClassId) (q_me_code : Nat → Nat) (k_me_code : Nat → ClassId) (nc_me_code : Nat) (ns_me_code : Nat) : ∀ (d : Nat) (sz : Nat) (o_me : Ob) (o_me_code : Ob) (p0 : Int32) (y : Int32 × Ob × Ob), fx_X6_readSum nc_me_code ns_me_code d o_me o_me_code p0 = some y → CI l yX6_readSum cX6_readSum 4 (some .boolean) ({ frames := 9 * d, cells := 0, slots := 0, locals := 200 * d } : Room) dC dI sz [.ref h_me, .int p0] [wX6 h_me h_me_code q_me k_me o_me, wX0 h_me_code nc_me_code ns_me_code q_me_code k_me_code o_me_code] [tX6 k_me, tX0 k_me_code] y.1 [wX6 h_me h_me_code q_me k_me y.2.1, wX0 h_me_code nc_me_code ns_me_code q_me_code k_me_code y.2.2] := by
  intro d
  induction d with
  | zero =>
    intro sz o_me o_me_code p0 y h
    exact absurd (show (none : Option (Int32 × Ob × Ob)) = some y from h) (by simp)
  | succ d ih =>
    intro sz o_me o_me_code p0 y h
    exact m_X6_readSum l dC dI sz h_me h_me_code q_me k_me q_me_code k_me_code nc_me_code ns_me_code (fx_X6_readSum nc_me_code ns_me_code d) _ _ ih o_me o_me_code p0 y h

def bk_X6_readPlain_185 (rT : Ob → Ob → Int32 → Option (Int32 × Ob × Ob)) (nc_me_code : Nat) (ns_me_code : Nat)  (v2 : Int32) (o_me : Ob) (o_me_code : Ob) : Option (Int32 × Ob × Ob) :=
  if v2 = (0 : Int32) then
  (some ((1 : Int32), o_me, o_me_code))
  else
  ((f_X0_add nc_me_code ns_me_code o_me_code (2 : Int32) (0 : Int32)).bind fun z9 =>
  some ((1 : Int32), o_me, z9.2))
def bk_X6_readPlain_150 (rT : Ob → Ob → Int32 → Option (Int32 × Ob × Ob)) (nc_me_code : Nat) (ns_me_code : Nat)  (v1 : Int32) (v2 : Int32) (s0 : Int32) (o_me : Ob) (o_me_code : Ob) : Option (Int32 × Ob × Ob) :=
  if s0 = (-1 : Int32) then
  ((f_X6_stop o_me).bind fun z10 =>
  zgd (zbo z10.1) <|
  some (z10.1, z10.2, o_me_code))
  else
  ((f_X6_step o_me).bind fun z6 =>
  (fx_X6_readSum nc_me_code ns_me_code 10 z6 o_me_code v1).bind fun z7 =>
  if z7.1 = (0 : Int32) then
  (some ((0 : Int32), z7.2.1, z7.2.2))
  else
  ((f_X0_add nc_me_code ns_me_code z7.2.2 s0 (0 : Int32)).bind fun z8 =>
  bk_X6_readPlain_185 rT nc_me_code ns_me_code  v2 z7.2.1 z8.2))
def bk_X6_readPlain_40 (rT : Ob → Ob → Int32 → Option (Int32 × Ob × Ob)) (nc_me_code : Nat) (ns_me_code : Nat)  (v1 : Int32) (v2 : Int32) (o_me : Ob) (o_me_code : Ob) : Option (Int32 × Ob × Ob) :=
  (f_X6_isSign o_me (40 : Int32)).bind fun z1 =>
  if z1 = (0 : Int32) then
  ((fx_X6_readSum nc_me_code ns_me_code 10 o_me o_me_code v1).bind fun z2 =>
  if z2.1 = (0 : Int32) then
  (some ((0 : Int32), z2.2.1, z2.2.2))
  else
  ((f_X6_isSign z2.2.1 (60 : Int32)).bind fun z3 =>
  if z3 = (0 : Int32) then
  ((f_X6_isSign z2.2.1 (62 : Int32)).bind fun z4 =>
  if z4 = (0 : Int32) then
  ((f_X6_isSign z2.2.1 (61 : Int32)).bind fun z5 =>
  if z5 = (0 : Int32) then
  (bk_X6_readPlain_150 rT nc_me_code ns_me_code  v1 v2 (-1 : Int32) z2.2.1 z2.2.2)
  else
  (bk_X6_readPlain_150 rT nc_me_code ns_me_code  v1 v2 (12 : Int32) z2.2.1 z2.2.2))
  else
  (bk_X6_readPlain_150 rT nc_me_code ns_me_code  v1 v2 (11 : Int32) z2.2.1 z2.2.2))
  else
  (bk_X6_readPlain_150 rT nc_me_code ns_me_code  v1 v2 (10 : Int32) z2.2.1 z2.2.2)))
  else
  (if v1 < (8 : Int32) then
  ((f_X6_step o_me).bind fun z12 =>
  (rT z12 o_me_code (v1 + (1 : Int32))).bind fun z13 =>
  if z13.1 = (0 : Int32) then
  (some ((0 : Int32), z13.2.1, z13.2.2))
  else
  ((f_X6_isSign z13.2.1 (41 : Int32)).bind fun z14 =>
  if z14 = (0 : Int32) then
  ((f_X6_stop z13.2.1).bind fun z16 =>
  zgd (zbo z16.1) <|
  some (z16.1, z16.2, z13.2.2))
  else
  ((f_X6_step z13.2.1).bind fun z15 =>
  bk_X6_readPlain_185 rT nc_me_code ns_me_code  v2 z15 z13.2.2)))
  else
  ((f_X6_stop o_me).bind fun z18 =>
  zgd (zbo z18.1) <|
  some (z18.1, z18.2, o_me_code)))
def bk_X6_readPlain_33 (rT : Ob → Ob → Int32 → Option (Int32 × Ob × Ob)) (nc_me_code : Nat) (ns_me_code : Nat) (rec_4_0 : Int32 × Int32 × Int32 × Ob × Ob → Option (Int32 × Ob × Ob)) (v1 : Int32) (v3 : Int32) (s0 : Int32) (o_me : Ob) (o_me_code : Ob) : Option (Int32 × Ob × Ob) :=
  zlt (v3 + (1 : Int32)) fun x22 =>
  rec_4_0 (v1, s0, x22, o_me, o_me_code)
def lb_X6_readPlain_4 (rT : Ob → Ob → Int32 → Option (Int32 × Ob × Ob)) (nc_me_code : Nat) (ns_me_code : Nat)  (rec_4_0 : Int32 × Int32 × Int32 × Ob × Ob → Option (Int32 × Ob × Ob)) (v1 : Int32) (v2 : Int32) (v3 : Int32) (o_me : Ob) (o_me_code : Ob) : Option (Int32 × Ob × Ob) :=
  if (400 : Int32) ≤ v3 then
  (bk_X6_readPlain_40 rT nc_me_code ns_me_code  v1 v2 o_me o_me_code)
  else
  ((f_X6_isWord o_me 6).bind fun z20 =>
  if z20 = (0 : Int32) then
  (bk_X6_readPlain_40 rT nc_me_code ns_me_code  v1 v2 o_me o_me_code)
  else
  ((f_X6_step o_me).bind fun z21 =>
  if v2 = (0 : Int32) then
  (bk_X6_readPlain_33 rT nc_me_code ns_me_code rec_4_0 v1 v3 (1 : Int32) z21 o_me_code)
  else
  (bk_X6_readPlain_33 rT nc_me_code ns_me_code rec_4_0 v1 v3 (0 : Int32) z21 o_me_code)))
def lp_X6_readPlain_4 (rT : Ob → Ob → Int32 → Option (Int32 × Ob × Ob)) (nc_me_code : Nat) (ns_me_code : Nat)  : Nat → (Int32 × Int32 × Int32 × Ob × Ob) → Option (Int32 × Ob × Ob) := zit (fun rec a => lb_X6_readPlain_4 rT nc_me_code ns_me_code  rec a.1 a.2.1 a.2.2.1 a.2.2.2.1 a.2.2.2.2)
def f_X6_readPlain (rT : Ob → Ob → Int32 → Option (Int32 × Ob × Ob)) (nc_me_code : Nat) (ns_me_code : Nat) (o_me : Ob) (o_me_code : Ob) (p0 : Int32) : Option (Int32 × Ob × Ob) :=
  lp_X6_readPlain_4 rT nc_me_code ns_me_code  zfu (p0, (0 : Int32), (0 : Int32), o_me, o_me_code)
set_option maxHeartbeats 4000000 in
set_option maxRecDepth 100000 in
theorem m_X6_readPlain (l : Launch) (dC : Nat → ClassId) (dI : Nat → Nat → Nat) (sz : Nat) (h_me : Nat) (h_me_code : Nat) (q_me : Nat → Nat) (k_me : Nat → ClassId) (q_me_code : Nat → Nat) (k_me_code : Nat → ClassId) (nc_me_code : Nat) (ns_me_code : Nat) (rT : Ob → Ob → Int32 → Option (Int32 × Ob × Ob)) (FR LC : Nat) (hrT : ∀ (sz : Nat) (o_me : Ob) (o_me_code : Ob) (p0 : Int32) (y : Int32 × Ob × Ob), rT o_me o_me_code p0 = some y → CI l yX6_readTest cX6_readTest 4 (some .boolean) ({ frames := FR, cells := 0, slots := 0, locals := LC } : Room) dC dI sz [.ref h_me, .int p0] [wX6 h_me h_me_code q_me k_me o_me, wX0 h_me_code nc_me_code ns_me_code q_me_code k_me_code o_me_code] [tX6 k_me, tX0 k_me_code] y.1 [wX6 h_me h_me_code q_me k_me y.2.1, wX0 h_me_code nc_me_code ns_me_code q_me_code k_me_code y.2.2]) (o_me : Ob) (o_me_code : Ob) (p0 : Int32) (y : Int32 × Ob × Ob) (h : f_X6_readPlain rT nc_me_code ns_me_code o_me o_me_code p0 = some y) : CI l yX6_readPlain cX6_readPlain 4 (some .boolean) ({ frames := FR + 91, cells := 0, slots := 0, locals := LC + 2023 } : Room) dC dI sz [.ref h_me, .int p0] [wX6 h_me h_me_code q_me k_me o_me, wX0 h_me_code nc_me_code ns_me_code q_me_code k_me_code o_me_code] [tX6 k_me, tX0 k_me_code] y.1 [wX6 h_me h_me_code q_me k_me y.2.1, wX0 h_me_code nc_me_code ns_me_code q_me_code k_me_code y.2.2] := by
  refine CC_of (by decide) (Nat.le_of_ble_eq_true rfl) ?_
  intro p e s m below meth c A ls hx hb hml hr hlk hnm hown hts hX hK hP hD hA hl
  have hl : lv_has ls 4 [(0, .ref h_me), (1, .int p0)] := hl
  have hown : s.vm.findClass RX6 = some m.cls := hown
  have hw : Wd dC dI A s.heap [wX6 h_me h_me_code q_me k_me o_me, wX0 h_me_code nc_me_code ns_me_code q_me_code k_me_code o_me_code] s.heap [] := ⟨hP, hD, va_S.rf⟩
  generalize hQz : (MQ below (QI dC dI (fun r (_ : Unit) => r = y.1) (fun _ => Jn [wX6 h_me h_me_code q_me k_me y.2.1, wX0 h_me_code nc_me_code ns_me_code q_me_code k_me_code y.2.2]) (fun _ => Jt [tX6 k_me, tX0 k_me_code]) A) ([.ref h_me, .int p0] : List Value).toArray s 0 0 A) = Qz
  clear hP hD hnm
  have bk_185_3 : ∀ (v2 : Int32) (o_me : Ob) (o_me_code : Ob) (H : Heap) (locs : List Loc) (ls : Array Slot), bk_X6_readPlain_185 rT nc_me_code ns_me_code  v2 o_me o_me_code = some y → Wd dC dI A s.heap [wX6 h_me h_me_code q_me k_me o_me, wX0 h_me_code nc_me_code ns_me_code q_me_code k_me_code o_me_code] H locs → lv_has ls 4 [(0, .ref h_me), (2, .int v2)] → W p l e ({ frames := FR + 91, cells := 0, slots := 0, locals := LC + 2023 } : Room) s m ([.ref h_me, .int p0] : List Value).toArray below meth c H locs 0 0 Qz (F0 m 185 ls []) := by
    intro v2 o_me o_me_code H locs ls h hw hl
    unfold bk_X6_readPlain_185 at h
    refine lv_iload_n hx hb dX6_readPlain_185 rfl (lv_at hl 1 rfl) ?_
    refine lv_if_eq (tgt := 199) hx hb dX6_readPlain_186 (by decide) (fun c => ?_) (fun c => ?_)
    · have h := z_t h c
      refine lv_iconst (v := 1) hx hb dX6_readPlain_199 (by decide) ?_
      have hy := Option.some.inj h
      rw [← hQz, ← hy]
      exact xr_i (v := (1 : Int32)) hx hb hr rfl hlk hK hw dX6_readPlain_200
    · have h := z_f h c
      refine lv_aload_n hx hb dX6_readPlain_189 rfl (lv_at hl 0 rfl) ?_
      refine fgX6_1 hx hb hts hown hK hw 0 rfl kw202 dX6_readPlain_190 ?_
      refine lv_iconst (v := 2) hx hb dX6_readPlain_193 (by decide) ?_
      refine lv_iconst (v := 0) hx hb dX6_readPlain_194 (by decide) ?_
      obtain ⟨z9, ez9, h⟩ := z_bd h
      refine xj_i (xrV (As := [.int (2 : Int32), .int (0 : Int32)]) (rest := []) ⟨hx, hb, hml, hown, hts⟩ (m_X0_add l dC dI _ h_me_code q_me_code k_me_code nc_me_code ns_me_code o_me_code (2 : Int32) (0 : Int32) z9 ez9) kw775 kw772 kw773 kw774 kw112 hd_X0_add ⟨Nat.ble_eq_true_of_le (by show 0 + 1 ≤ FR + 91; omega), Nat.ble_eq_true_of_le (by show 8 + (3 + 11) + (0) ≤ LC + 2023; omega)⟩ rfl rfl ⟨rfl, rfl⟩ hX hK hw [1] (by decide) rfl rfl rfl rfl rfl hl.1 rfl rfl dX6_readPlain_195) hw hA [1] (by decide) rfl rfl (fun H locs hw => ?_)
      have hw : Wd dC dI A s.heap [wX6 h_me h_me_code q_me k_me o_me, wX0 h_me_code nc_me_code ns_me_code q_me_code k_me_code z9.2] H locs := hw
      refine lv_pop hx hb dX6_readPlain_198 rfl ?_
      refine lv_iconst (v := 1) hx hb dX6_readPlain_199 (by decide) ?_
      have hy := Option.some.inj h
      rw [← hQz, ← hy]
      exact xr_i (v := (1 : Int32)) hx hb hr rfl hlk hK hw dX6_readPlain_200
  have bk_150_2 : ∀ (v1 : Int32) (v2 : Int32) (s0 : Int32) (o_me : Ob) (o_me_code : Ob) (H : Heap) (locs : List Loc) (ls : Array Slot), bk_X6_readPlain_150 rT nc_me_code ns_me_code  v1 v2 s0 o_me o_me_code = some y → Wd dC dI A s.heap [wX6 h_me h_me_code q_me k_me o_me, wX0 h_me_code nc_me_code ns_me_code q_me_code k_me_code o_me_code] H locs → lv_has ls 4 [(0, .ref h_me), (1, .int v1), (2, .int v2)] → W p l e ({ frames := FR + 91, cells := 0, slots := 0, locals := LC + 2023 } : Room) s m ([.ref h_me, .int p0] : List Value).toArray below meth c H locs 0 0 Qz (F0 m 150 ls [.int s0]) := by
    intro v1 v2 s0 o_me o_me_code H locs ls h hw hl
    unfold bk_X6_readPlain_150 at h
    refine lv_istore_n (lv' := [(3, .int s0), (0, .ref h_me), (1, .int v1), (2, .int v2)]) hx hb dX6_readPlain_150 rfl hl (by decide) rfl (fun ls hl => ?_)
    refine lv_iload_n hx hb dX6_readPlain_151 rfl (lv_at hl 0 rfl) ?_
    refine lv_iconst (v := (-1)) hx hb dX6_readPlain_152 (by decide) ?_
    refine lv_icmp_ne (tgt := 161) hx hb dX6_readPlain_153 (by decide) (fun c => ?_) (fun c => ?_)
    · have h := z_f h c
      refine lv_aload_n hx hb dX6_readPlain_161 rfl (lv_at hl 1 rfl) ?_
      obtain ⟨z6, ez6, h⟩ := z_bd h
      refine xj_v (xrV (As := []) (rest := []) ⟨hx, hb, hml, hown, hts⟩ (m_X6_step l dC dI _ h_me h_me_code q_me k_me o_me z6 ez6) kw675 kw672 kw674 kw5 kw111 hd_X6_step ⟨Nat.ble_eq_true_of_le (by show 1 + 1 ≤ FR + 91; omega), Nat.ble_eq_true_of_le (by show 8 + (2 + 11) + (21) ≤ LC + 2023; omega)⟩ rfl rfl ⟨rfl, rfl⟩ hX hK hw [0] (by decide) rfl rfl rfl rfl rfl hl.1 rfl rfl dX6_readPlain_162) hw hA [0] (by decide) rfl rfl (fun H locs hw => ?_)
      have hw : Wd dC dI A s.heap [wX6 h_me h_me_code q_me k_me z6, wX0 h_me_code nc_me_code ns_me_code q_me_code k_me_code o_me_code] H locs := hw
      refine lv_aload_n hx hb dX6_readPlain_165 rfl (lv_at hl 1 rfl) ?_
      refine lv_iload_n hx hb dX6_readPlain_166 rfl (lv_at hl 2 rfl) ?_
      obtain ⟨z7, ez7, h⟩ := z_bd h
      refine xj_i (xrV (As := [.int v1]) (rest := []) ⟨hx, hb, hml, hown, hts⟩ (mx_X6_readSum l dC dI h_me h_me_code q_me k_me q_me_code k_me_code nc_me_code ns_me_code 10 _ z6 o_me_code v1 z7 ez7) kw753 kw750 kw752 kw10 kw111 hd_X6_readSum ⟨Nat.ble_eq_true_of_le (by show 90 + 1 ≤ FR + 91; omega), Nat.ble_eq_true_of_le (by show 8 + (4 + 11) + (2000) ≤ LC + 2023; omega)⟩ rfl rfl ⟨rfl, rfl⟩ hX hK hw [0, 1] (by decide) rfl rfl rfl rfl rfl hl.1 rfl rfl dX6_readPlain_167) hw hA [0, 1] (by decide) rfl rfl (fun H locs hw => ?_)
      have hw : Wd dC dI A s.heap [wX6 h_me h_me_code q_me k_me z7.2.1, wX0 h_me_code nc_me_code ns_me_code q_me_code k_me_code z7.2.2] H locs := hw
      refine lv_if_ne (tgt := 175) hx hb dX6_readPlain_170 (by decide) (fun c => ?_) (fun c => ?_)
      · have h := z_f h c
        refine lv_aload_n hx hb dX6_readPlain_175 rfl (lv_at hl 1 rfl) ?_
        refine fgX6_1 hx hb hts hown hK hw 0 rfl kw202 dX6_readPlain_176 ?_
        refine lv_iload_n hx hb dX6_readPlain_179 rfl (lv_at hl 0 rfl) ?_
        refine lv_iconst (v := 0) hx hb dX6_readPlain_180 (by decide) ?_
        obtain ⟨z8, ez8, h⟩ := z_bd h
        refine xj_i (xrV (As := [.int s0, .int (0 : Int32)]) (rest := []) ⟨hx, hb, hml, hown, hts⟩ (m_X0_add l dC dI _ h_me_code q_me_code k_me_code nc_me_code ns_me_code z7.2.2 s0 (0 : Int32) z8 ez8) kw775 kw772 kw773 kw774 kw112 hd_X0_add ⟨Nat.ble_eq_true_of_le (by show 0 + 1 ≤ FR + 91; omega), Nat.ble_eq_true_of_le (by show 8 + (3 + 11) + (0) ≤ LC + 2023; omega)⟩ rfl rfl ⟨rfl, rfl⟩ hX hK hw [1] (by decide) rfl rfl rfl rfl rfl hl.1 rfl rfl dX6_readPlain_181) hw hA [1] (by decide) rfl rfl (fun H locs hw => ?_)
        have hw : Wd dC dI A s.heap [wX6 h_me h_me_code q_me k_me z7.2.1, wX0 h_me_code nc_me_code ns_me_code q_me_code k_me_code z8.2] H locs := hw
        refine lv_pop hx hb dX6_readPlain_184 rfl ?_
        exact bk_185_3  v2 z7.2.1 z8.2 _ _ _ h hw (lv_sub hl [1, 3] rfl)
      · have h := z_t h c
        refine lv_iconst (v := 0) hx hb dX6_readPlain_173 (by decide) ?_
        have hy := Option.some.inj h
        rw [← hQz, ← hy]
        exact xr_i (v := (0 : Int32)) hx hb hr rfl hlk hK hw dX6_readPlain_174
    · have h := z_t h c
      refine lv_aload_n hx hb dX6_readPlain_156 rfl (lv_at hl 1 rfl) ?_
      obtain ⟨z10, ez10, h⟩ := z_bd h
      refine xj_i (xrV (As := []) (rest := []) ⟨hx, hb, hml, hown, hts⟩ (m_X6_stop l dC dI _ h_me h_me_code q_me k_me o_me z10 ez10) kw749 kw746 kw748 kw9 kw111 hd_X6_stop ⟨Nat.ble_eq_true_of_le (by show 0 + 1 ≤ FR + 91; omega), Nat.ble_eq_true_of_le (by show 8 + (1 + 11) + (0) ≤ LC + 2023; omega)⟩ rfl rfl ⟨rfl, rfl⟩ hX hK hw [0] (by decide) rfl rfl rfl rfl rfl hl.1 rfl rfl dX6_readPlain_157) hw hA [0] (by decide) rfl rfl (fun H locs hw => ?_)
      have hw : Wd dC dI A s.heap [wX6 h_me h_me_code q_me k_me z10.2, wX0 h_me_code nc_me_code ns_me_code q_me_code k_me_code o_me_code] H locs := hw
      obtain ⟨g11, h⟩ := z_gd h
      have hy := Option.some.inj h
      rw [← hQz, ← hy]
      exact xr_i (v := z10.1) hx hb hr (z_nar g11) hlk hK hw dX6_readPlain_160
  have bk_40_1 : ∀ (v1 : Int32) (v2 : Int32) (o_me : Ob) (o_me_code : Ob) (H : Heap) (locs : List Loc) (ls : Array Slot), bk_X6_readPlain_40 rT nc_me_code ns_me_code  v1 v2 o_me o_me_code = some y → Wd dC dI A s.heap [wX6 h_me h_me_code q_me k_me o_me, wX0 h_me_code nc_me_code ns_me_code q_me_code k_me_code o_me_code] H locs → lv_has ls 4 [(0, .ref h_me), (1, .int v1), (2, .int v2)] → W p l e ({ frames := FR + 91, cells := 0, slots := 0, locals := LC + 2023 } : Room) s m ([.ref h_me, .int p0] : List Value).toArray below meth c H locs 0 0 Qz (F0 m 40 ls []) := by
    intro v1 v2 o_me o_me_code H locs ls h hw hl
    unfold bk_X6_readPlain_40 at h
    refine lv_aload_n hx hb dX6_readPlain_40 rfl (lv_at hl 0 rfl) ?_
    refine lv_bipush (v := 40) hx hb dX6_readPlain_41 (by decide) ?_
    obtain ⟨z1, ez1, h⟩ := z_bd h
    refine xj_i (xrV (As := [.int (40 : Int32)]) (rest := []) ⟨hx, hb, hml, hown, hts⟩ (m_X6_isSign l dC dI _ h_me h_me_code q_me k_me o_me (40 : Int32) z1 ez1) kw765 kw762 kw764 kw13 kw111 hd_X6_isSign ⟨Nat.ble_eq_true_of_le (by show 1 + 1 ≤ FR + 91; omega), Nat.ble_eq_true_of_le (by show 8 + (2 + 11) + (21) ≤ LC + 2023; omega)⟩ rfl rfl ⟨rfl, rfl⟩ hX hK hw [0] (by decide) rfl rfl rfl rfl rfl hl.1 rfl rfl dX6_readPlain_43) hw hA [0] (by decide) rfl rfl (fun H locs hw => ?_)
    have hw : Wd dC dI A s.heap [wX6 h_me h_me_code q_me k_me o_me, wX0 h_me_code nc_me_code ns_me_code q_me_code k_me_code o_me_code] H locs := hw
    refine lv_if_eq (tgt := 97) hx hb dX6_readPlain_46 (by decide) (fun c => ?_) (fun c => ?_)
    · have h := z_t h c
      refine lv_aload_n hx hb dX6_readPlain_97 rfl (lv_at hl 0 rfl) ?_
      refine lv_iload_n hx hb dX6_readPlain_98 rfl (lv_at hl 1 rfl) ?_
      obtain ⟨z2, ez2, h⟩ := z_bd h
      refine xj_i (xrV (As := [.int v1]) (rest := []) ⟨hx, hb, hml, hown, hts⟩ (mx_X6_readSum l dC dI h_me h_me_code q_me k_me q_me_code k_me_code nc_me_code ns_me_code 10 _ o_me o_me_code v1 z2 ez2) kw753 kw750 kw752 kw10 kw111 hd_X6_readSum ⟨Nat.ble_eq_true_of_le (by show 90 + 1 ≤ FR + 91; omega), Nat.ble_eq_true_of_le (by show 8 + (4 + 11) + (2000) ≤ LC + 2023; omega)⟩ rfl rfl ⟨rfl, rfl⟩ hX hK hw [0, 1] (by decide) rfl rfl rfl rfl rfl hl.1 rfl rfl dX6_readPlain_99) hw hA [0, 1] (by decide) rfl rfl (fun H locs hw => ?_)
      have hw : Wd dC dI A s.heap [wX6 h_me h_me_code q_me k_me z2.2.1, wX0 h_me_code nc_me_code ns_me_code q_me_code k_me_code z2.2.2] H locs := hw
      refine lv_if_ne (tgt := 107) hx hb dX6_readPlain_102 (by decide) (fun c => ?_) (fun c => ?_)
      · have h := z_f h c
        refine lv_aload_n hx hb dX6_readPlain_107 rfl (lv_at hl 0 rfl) ?_
        refine lv_bipush (v := 60) hx hb dX6_readPlain_108 (by decide) ?_
        obtain ⟨z3, ez3, h⟩ := z_bd h
        refine xj_i (xrV (As := [.int (60 : Int32)]) (rest := []) ⟨hx, hb, hml, hown, hts⟩ (m_X6_isSign l dC dI _ h_me h_me_code q_me k_me z2.2.1 (60 : Int32) z3 ez3) kw765 kw762 kw764 kw13 kw111 hd_X6_isSign ⟨Nat.ble_eq_true_of_le (by show 1 + 1 ≤ FR + 91; omega), Nat.ble_eq_true_of_le (by show 8 + (2 + 11) + (21) ≤ LC + 2023; omega)⟩ rfl rfl ⟨rfl, rfl⟩ hX hK hw [0] (by decide) rfl rfl rfl rfl rfl hl.1 rfl rfl dX6_readPlain_110) hw hA [0] (by decide) rfl rfl (fun H locs hw => ?_)
        have hw : Wd dC dI A s.heap [wX6 h_me h_me_code q_me k_me z2.2.1, wX0 h_me_code nc_me_code ns_me_code q_me_code k_me_code z2.2.2] H locs := hw
        refine lv_if_eq (tgt := 121) hx hb dX6_readPlain_113 (by decide) (fun c => ?_) (fun c => ?_)
        · have h := z_t h c
          refine lv_aload_n hx hb dX6_readPlain_121 rfl (lv_at hl 0 rfl) ?_
          refine lv_bipush (v := 62) hx hb dX6_readPlain_122 (by decide) ?_
          obtain ⟨z4, ez4, h⟩ := z_bd h
          refine xj_i (xrV (As := [.int (62 : Int32)]) (rest := []) ⟨hx, hb, hml, hown, hts⟩ (m_X6_isSign l dC dI _ h_me h_me_code q_me k_me z2.2.1 (62 : Int32) z4 ez4) kw765 kw762 kw764 kw13 kw111 hd_X6_isSign ⟨Nat.ble_eq_true_of_le (by show 1 + 1 ≤ FR + 91; omega), Nat.ble_eq_true_of_le (by show 8 + (2 + 11) + (21) ≤ LC + 2023; omega)⟩ rfl rfl ⟨rfl, rfl⟩ hX hK hw [0] (by decide) rfl rfl rfl rfl rfl hl.1 rfl rfl dX6_readPlain_124) hw hA [0] (by decide) rfl rfl (fun H locs hw => ?_)
          have hw : Wd dC dI A s.heap [wX6 h_me h_me_code q_me k_me z2.2.1, wX0 h_me_code nc_me_code ns_me_code q_me_code k_me_code z2.2.2] H locs := hw
          refine lv_if_eq (tgt := 135) hx hb dX6_readPlain_127 (by decide) (fun c => ?_) (fun c => ?_)
          · have h := z_t h c
            refine lv_aload_n hx hb dX6_readPlain_135 rfl (lv_at hl 0 rfl) ?_
            refine lv_bipush (v := 61) hx hb dX6_readPlain_136 (by decide) ?_
            obtain ⟨z5, ez5, h⟩ := z_bd h
            refine xj_i (xrV (As := [.int (61 : Int32)]) (rest := []) ⟨hx, hb, hml, hown, hts⟩ (m_X6_isSign l dC dI _ h_me h_me_code q_me k_me z2.2.1 (61 : Int32) z5 ez5) kw765 kw762 kw764 kw13 kw111 hd_X6_isSign ⟨Nat.ble_eq_true_of_le (by show 1 + 1 ≤ FR + 91; omega), Nat.ble_eq_true_of_le (by show 8 + (2 + 11) + (21) ≤ LC + 2023; omega)⟩ rfl rfl ⟨rfl, rfl⟩ hX hK hw [0] (by decide) rfl rfl rfl rfl rfl hl.1 rfl rfl dX6_readPlain_138) hw hA [0] (by decide) rfl rfl (fun H locs hw => ?_)
            have hw : Wd dC dI A s.heap [wX6 h_me h_me_code q_me k_me z2.2.1, wX0 h_me_code nc_me_code ns_me_code q_me_code k_me_code z2.2.2] H locs := hw
            refine lv_if_eq (tgt := 149) hx hb dX6_readPlain_141 (by decide) (fun c => ?_) (fun c => ?_)
            · have h := z_t h c
              refine lv_iconst (v := (-1)) hx hb dX6_readPlain_149 (by decide) ?_
              exact bk_150_2  v1 v2 (-1 : Int32) z2.2.1 z2.2.2 _ _ _ h hw (lv_sub hl [0, 1, 2] rfl)
            · have h := z_f h c
              refine lv_bipush (v := 12) hx hb dX6_readPlain_144 (by decide) ?_
              refine lv_goto (tgt := 150) hx hb dX6_readPlain_146 (by decide) ?_
              exact bk_150_2  v1 v2 (12 : Int32) z2.2.1 z2.2.2 _ _ _ h hw (lv_sub hl [0, 1, 2] rfl)
          · have h := z_f h c
            refine lv_bipush (v := 11) hx hb dX6_readPlain_130 (by decide) ?_
            refine lv_goto (tgt := 150) hx hb dX6_readPlain_132 (by decide) ?_
            exact bk_150_2  v1 v2 (11 : Int32) z2.2.1 z2.2.2 _ _ _ h hw (lv_sub hl [0, 1, 2] rfl)
        · have h := z_f h c
          refine lv_bipush (v := 10) hx hb dX6_readPlain_116 (by decide) ?_
          refine lv_goto (tgt := 150) hx hb dX6_readPlain_118 (by decide) ?_
          exact bk_150_2  v1 v2 (10 : Int32) z2.2.1 z2.2.2 _ _ _ h hw (lv_sub hl [0, 1, 2] rfl)
      · have h := z_t h c
        refine lv_iconst (v := 0) hx hb dX6_readPlain_105 (by decide) ?_
        have hy := Option.some.inj h
        rw [← hQz, ← hy]
        exact xr_i (v := (0 : Int32)) hx hb hr rfl hlk hK hw dX6_readPlain_106
    · have h := z_f h c
      refine lv_iload_n hx hb dX6_readPlain_49 rfl (lv_at hl 1 rfl) ?_
      refine lv_bipush (v := 8) hx hb dX6_readPlain_50 (by decide) ?_
      refine lv_icmp_lt (tgt := 60) hx hb dX6_readPlain_52 (by decide) (fun c => ?_) (fun c => ?_)
      · have h := z_t h c
        refine lv_aload_n hx hb dX6_readPlain_60 rfl (lv_at hl 0 rfl) ?_
        obtain ⟨z12, ez12, h⟩ := z_bd h
        refine xj_v (xrV (As := []) (rest := []) ⟨hx, hb, hml, hown, hts⟩ (m_X6_step l dC dI _ h_me h_me_code q_me k_me o_me z12 ez12) kw675 kw672 kw674 kw5 kw111 hd_X6_step ⟨Nat.ble_eq_true_of_le (by show 1 + 1 ≤ FR + 91; omega), Nat.ble_eq_true_of_le (by show 8 + (2 + 11) + (21) ≤ LC + 2023; omega)⟩ rfl rfl ⟨rfl, rfl⟩ hX hK hw [0] (by decide) rfl rfl rfl rfl rfl hl.1 rfl rfl dX6_readPlain_61) hw hA [0] (by decide) rfl rfl (fun H locs hw => ?_)
        have hw : Wd dC dI A s.heap [wX6 h_me h_me_code q_me k_me z12, wX0 h_me_code nc_me_code ns_me_code q_me_code k_me_code o_me_code] H locs := hw
        refine lv_aload_n hx hb dX6_readPlain_64 rfl (lv_at hl 0 rfl) ?_
        refine lv_iload_n hx hb dX6_readPlain_65 rfl (lv_at hl 1 rfl) ?_
        refine lv_iconst (v := 1) hx hb dX6_readPlain_66 (by decide) ?_
        refine lv_iadd hx hb dX6_readPlain_67 ?_
        obtain ⟨z13, ez13, h⟩ := z_bd h
        refine xj_i (xrV (As := [.int (v1 + (1 : Int32))]) (rest := []) ⟨hx, hb, hml, hown, hts⟩ (hrT _ z12 o_me_code (v1 + (1 : Int32)) z13 ez13) kw788 kw785 kw787 kw16 kw111 hd_X6_readTest ⟨Nat.ble_eq_true_of_le (by show FR + 1 ≤ FR + 91; omega), Nat.ble_eq_true_of_le (by show 8 + (4 + 11) + (LC) ≤ LC + 2023; omega)⟩ rfl rfl ⟨rfl, rfl⟩ hX hK hw [0, 1] (by decide) rfl rfl rfl rfl rfl hl.1 rfl rfl dX6_readPlain_68) hw hA [0, 1] (by decide) rfl rfl (fun H locs hw => ?_)
        have hw : Wd dC dI A s.heap [wX6 h_me h_me_code q_me k_me z13.2.1, wX0 h_me_code nc_me_code ns_me_code q_me_code k_me_code z13.2.2] H locs := hw
        refine lv_if_ne (tgt := 76) hx hb dX6_readPlain_71 (by decide) (fun c => ?_) (fun c => ?_)
        · have h := z_f h c
          refine lv_aload_n hx hb dX6_readPlain_76 rfl (lv_at hl 0 rfl) ?_
          refine lv_bipush (v := 41) hx hb dX6_readPlain_77 (by decide) ?_
          obtain ⟨z14, ez14, h⟩ := z_bd h
          refine xj_i (xrV (As := [.int (41 : Int32)]) (rest := []) ⟨hx, hb, hml, hown, hts⟩ (m_X6_isSign l dC dI _ h_me h_me_code q_me k_me z13.2.1 (41 : Int32) z14 ez14) kw765 kw762 kw764 kw13 kw111 hd_X6_isSign ⟨Nat.ble_eq_true_of_le (by show 1 + 1 ≤ FR + 91; omega), Nat.ble_eq_true_of_le (by show 8 + (2 + 11) + (21) ≤ LC + 2023; omega)⟩ rfl rfl ⟨rfl, rfl⟩ hX hK hw [0] (by decide) rfl rfl rfl rfl rfl hl.1 rfl rfl dX6_readPlain_79) hw hA [0] (by decide) rfl rfl (fun H locs hw => ?_)
          have hw : Wd dC dI A s.heap [wX6 h_me h_me_code q_me k_me z13.2.1, wX0 h_me_code nc_me_code ns_me_code q_me_code k_me_code z13.2.2] H locs := hw
          refine lv_if_ne (tgt := 90) hx hb dX6_readPlain_82 (by decide) (fun c => ?_) (fun c => ?_)
          · have h := z_f h c
            refine lv_aload_n hx hb dX6_readPlain_90 rfl (lv_at hl 0 rfl) ?_
            obtain ⟨z15, ez15, h⟩ := z_bd h
            refine xj_v (xrV (As := []) (rest := []) ⟨hx, hb, hml, hown, hts⟩ (m_X6_step l dC dI _ h_me h_me_code q_me k_me z13.2.1 z15 ez15) kw675 kw672 kw674 kw5 kw111 hd_X6_step ⟨Nat.ble_eq_true_of_le (by show 1 + 1 ≤ FR + 91; omega), Nat.ble_eq_true_of_le (by show 8 + (2 + 11) + (21) ≤ LC + 2023; omega)⟩ rfl rfl ⟨rfl, rfl⟩ hX hK hw [0] (by decide) rfl rfl rfl rfl rfl hl.1 rfl rfl dX6_readPlain_91) hw hA [0] (by decide) rfl rfl (fun H locs hw => ?_)
            have hw : Wd dC dI A s.heap [wX6 h_me h_me_code q_me k_me z15, wX0 h_me_code nc_me_code ns_me_code q_me_code k_me_code z13.2.2] H locs := hw
            refine lv_goto (tgt := 185) hx hb dX6_readPlain_94 (by decide) ?_
            exact bk_185_3  v2 z15 z13.2.2 _ _ _ h hw (lv_sub hl [0, 2] rfl)
          · have h := z_t h c
            refine lv_aload_n hx hb dX6_readPlain_85 rfl (lv_at hl 0 rfl) ?_
            obtain ⟨z16, ez16, h⟩ := z_bd h
            refine xj_i (xrV (As := []) (rest := []) ⟨hx, hb, hml, hown, hts⟩ (m_X6_stop l dC dI _ h_me h_me_code q_me k_me z13.2.1 z16 ez16) kw749 kw746 kw748 kw9 kw111 hd_X6_stop ⟨Nat.ble_eq_true_of_le (by show 0 + 1 ≤ FR + 91; omega), Nat.ble_eq_true_of_le (by show 8 + (1 + 11) + (0) ≤ LC + 2023; omega)⟩ rfl rfl ⟨rfl, rfl⟩ hX hK hw [0] (by decide) rfl rfl rfl rfl rfl hl.1 rfl rfl dX6_readPlain_86) hw hA [0] (by decide) rfl rfl (fun H locs hw => ?_)
            have hw : Wd dC dI A s.heap [wX6 h_me h_me_code q_me k_me z16.2, wX0 h_me_code nc_me_code ns_me_code q_me_code k_me_code z13.2.2] H locs := hw
            obtain ⟨g17, h⟩ := z_gd h
            have hy := Option.some.inj h
            rw [← hQz, ← hy]
            exact xr_i (v := z16.1) hx hb hr (z_nar g17) hlk hK hw dX6_readPlain_89
        · have h := z_t h c
          refine lv_iconst (v := 0) hx hb dX6_readPlain_74 (by decide) ?_
          have hy := Option.some.inj h
          rw [← hQz, ← hy]
          exact xr_i (v := (0 : Int32)) hx hb hr rfl hlk hK hw dX6_readPlain_75
      · have h := z_f h c
        refine lv_aload_n hx hb dX6_readPlain_55 rfl (lv_at hl 0 rfl) ?_
        obtain ⟨z18, ez18, h⟩ := z_bd h
        refine xj_i (xrV (As := []) (rest := []) ⟨hx, hb, hml, hown, hts⟩ (m_X6_stop l dC dI _ h_me h_me_code q_me k_me o_me z18 ez18) kw749 kw746 kw748 kw9 kw111 hd_X6_stop ⟨Nat.ble_eq_true_of_le (by show 0 + 1 ≤ FR + 91; omega), Nat.ble_eq_true_of_le (by show 8 + (1 + 11) + (0) ≤ LC + 2023; omega)⟩ rfl rfl ⟨rfl, rfl⟩ hX hK hw [0] (by decide) rfl rfl rfl rfl rfl hl.1 rfl rfl dX6_readPlain_56) hw hA [0] (by decide) rfl rfl (fun H locs hw => ?_)
        have hw : Wd dC dI A s.heap [wX6 h_me h_me_code q_me k_me z18.2, wX0 h_me_code nc_me_code ns_me_code q_me_code k_me_code o_me_code] H locs := hw
        obtain ⟨g19, h⟩ := z_gd h
        have hy := Option.some.inj h
        rw [← hQz, ← hy]
        exact xr_i (v := z18.1) hx hb hr (z_nar g19) hlk hK hw dX6_readPlain_59
  have bk_33_4 : ∀ (rec_4_0 : Int32 × Int32 × Int32 × Ob × Ob → Option (Int32 × Ob × Ob)) (hrec_4_0 : ∀ (v1 : Int32) (v2 : Int32) (v3 : Int32) (o_me : Ob) (o_me_code : Ob) (H : Heap) (locs : List Loc) (ls : Array Slot), rec_4_0 (v1, v2, v3, o_me, o_me_code) = some y → Wd dC dI A s.heap [wX6 h_me h_me_code q_me k_me o_me, wX0 h_me_code nc_me_code ns_me_code q_me_code k_me_code o_me_code] H locs → lv_has ls 4 [(0, .ref h_me), (1, .int v1), (2, .int v2), (3, .int v3)] → W p l e ({ frames := FR + 91, cells := 0, slots := 0, locals := LC + 2023 } : Room) s m ([.ref h_me, .int p0] : List Value).toArray below meth c H locs 0 0 Qz (F0 m 4 ls [])), ∀ (v1 : Int32) (v3 : Int32) (s0 : Int32) (o_me : Ob) (o_me_code : Ob) (H : Heap) (locs : List Loc) (ls : Array Slot), bk_X6_readPlain_33 rT nc_me_code ns_me_code rec_4_0 v1 v3 s0 o_me o_me_code = some y → Wd dC dI A s.heap [wX6 h_me h_me_code q_me k_me o_me, wX0 h_me_code nc_me_code ns_me_code q_me_code k_me_code o_me_code] H locs → lv_has ls 4 [(0, .ref h_me), (1, .int v1), (3, .int v3)] → W p l e ({ frames := FR + 91, cells := 0, slots := 0, locals := LC + 2023 } : Room) s m ([.ref h_me, .int p0] : List Value).toArray below meth c H locs 0 0 Qz (F0 m 33 ls [.int s0]) := by
    intro rec_4_0 hrec_4_0
    intro v1 v3 s0 o_me o_me_code H locs ls h hw hl
    unfold bk_X6_readPlain_33 at h
    refine lv_istore_n (lv' := [(2, .int s0), (0, .ref h_me), (1, .int v1), (3, .int v3)]) hx hb dX6_readPlain_33 rfl hl (by decide) rfl (fun ls hl => ?_)
    obtain ⟨x22, ex22, h⟩ := z_lt h
    refine lv_iinc (v := x22) (lv' := [(3, .int x22), (2, .int s0), (0, .ref h_me), (1, .int v1)]) hx hb dX6_readPlain_34 hl (k := 3) rfl ((congrArg (v3 + ·) (show Int32.ofInt 1 = (1 : Int32) from by decide)).trans ex22.symm) (by decide) rfl (fun ls hl => ?_)
    refine lv_goto (tgt := 4) hx hb dX6_readPlain_37 (by decide) ?_
    exact hrec_4_0 v1 s0 x22 o_me o_me_code _ _ _ h hw (lv_sub hl [2, 3, 1, 0] rfl)
  have lp_4_0 : ∀ (N : Nat), ∀ (v1 : Int32) (v2 : Int32) (v3 : Int32) (o_me : Ob) (o_me_code : Ob) (H : Heap) (locs : List Loc) (ls : Array Slot), lp_X6_readPlain_4 rT nc_me_code ns_me_code  N (v1, v2, v3, o_me, o_me_code) = some y → Wd dC dI A s.heap [wX6 h_me h_me_code q_me k_me o_me, wX0 h_me_code nc_me_code ns_me_code q_me_code k_me_code o_me_code] H locs → lv_has ls 4 [(0, .ref h_me), (1, .int v1), (2, .int v2), (3, .int v3)] → W p l e ({ frames := FR + 91, cells := 0, slots := 0, locals := LC + 2023 } : Room) s m ([.ref h_me, .int p0] : List Value).toArray below meth c H locs 0 0 Qz (F0 m 4 ls []) := by
    intro N
    induction N with
    | zero =>
      intro v1 v2 v3 o_me o_me_code H locs ls h hw hl
      exact absurd (show (none : Option (Int32 × Ob × Ob)) = some y from h) (by simp)
    | succ N ih =>
      intro v1 v2 v3 o_me o_me_code H locs ls h hw hl
      have h : lb_X6_readPlain_4 rT nc_me_code ns_me_code  (lp_X6_readPlain_4 rT nc_me_code ns_me_code  N) v1 v2 v3 o_me o_me_code = some y := h
      unfold lb_X6_readPlain_4 at h
      refine lv_iload_n hx hb dX6_readPlain_4 rfl (lv_at hl 3 rfl) ?_
      refine lv_sipush (v := 400) hx hb dX6_readPlain_5 (by decide) ?_
      refine lv_icmp_ge (tgt := 40) hx hb dX6_readPlain_8 (by decide) (fun c => ?_) (fun c => ?_)
      · have h := z_t h c
        exact bk_40_1  v1 v2 o_me o_me_code _ _ _ h hw (lv_sub hl [0, 1, 2] rfl)
      · have h := z_f h c
        refine lv_aload_n hx hb dX6_readPlain_11 rfl (lv_at hl 0 rfl) ?_
        refine va_ldcS hx hb hown hX.2.2.2.2.2.2.2.2.2.2.2.2.1 dX6_readPlain_12 ?_
        obtain ⟨z20, ez20, h⟩ := z_bd h
        refine xj_i (xrV (As := [.ref (dI 101 6)]) (rest := []) ⟨hx, hb, hml, hown, hts⟩ (m_X6_isWord l dC dI _ h_me h_me_code q_me k_me o_me 6 z20 ez20) kw783 kw780 kw782 kw15 kw111 hd_X6_isWord ⟨Nat.ble_eq_true_of_le (by show 6 + 1 ≤ FR + 91; omega), Nat.ble_eq_true_of_le (by show 8 + (2 + 11) + (134) ≤ LC + 2023; omega)⟩ rfl rfl ⟨rfl, rfl⟩ hX hK hw [0] (by decide) rfl rfl rfl rfl rfl hl.1 rfl rfl dX6_readPlain_14) hw hA [0] (by decide) rfl rfl (fun H locs hw => ?_)
        have hw : Wd dC dI A s.heap [wX6 h_me h_me_code q_me k_me o_me, wX0 h_me_code nc_me_code ns_me_code q_me_code k_me_code o_me_code] H locs := hw
        refine lv_if_eq (tgt := 40) hx hb dX6_readPlain_17 (by decide) (fun c => ?_) (fun c => ?_)
        · have h := z_t h c
          exact bk_40_1  v1 v2 o_me o_me_code _ _ _ h hw (lv_sub hl [0, 1, 2] rfl)
        · have h := z_f h c
          refine lv_aload_n hx hb dX6_readPlain_20 rfl (lv_at hl 0 rfl) ?_
          obtain ⟨z21, ez21, h⟩ := z_bd h
          refine xj_v (xrV (As := []) (rest := []) ⟨hx, hb, hml, hown, hts⟩ (m_X6_step l dC dI _ h_me h_me_code q_me k_me o_me z21 ez21) kw675 kw672 kw674 kw5 kw111 hd_X6_step ⟨Nat.ble_eq_true_of_le (by show 1 + 1 ≤ FR + 91; omega), Nat.ble_eq_true_of_le (by show 8 + (2 + 11) + (21) ≤ LC + 2023; omega)⟩ rfl rfl ⟨rfl, rfl⟩ hX hK hw [0] (by decide) rfl rfl rfl rfl rfl hl.1 rfl rfl dX6_readPlain_21) hw hA [0] (by decide) rfl rfl (fun H locs hw => ?_)
          have hw : Wd dC dI A s.heap [wX6 h_me h_me_code q_me k_me z21, wX0 h_me_code nc_me_code ns_me_code q_me_code k_me_code o_me_code] H locs := hw
          refine lv_iload_n hx hb dX6_readPlain_24 rfl (lv_at hl 2 rfl) ?_
          refine lv_if_ne (tgt := 32) hx hb dX6_readPlain_25 (by decide) (fun c => ?_) (fun c => ?_)
          · have h := z_f h c
            refine lv_iconst (v := 0) hx hb dX6_readPlain_32 (by decide) ?_
            exact bk_33_4 (lp_X6_readPlain_4 rT nc_me_code ns_me_code  N) ih v1 v3 (0 : Int32) z21 o_me_code _ _ _ h hw (lv_sub hl [0, 1, 3] rfl)
          · have h := z_t h c
            refine lv_iconst (v := 1) hx hb dX6_readPlain_28 (by decide) ?_
            refine lv_goto (tgt := 33) hx hb dX6_readPlain_29 (by decide) ?_
            exact bk_33_4 (lp_X6_readPlain_4 rT nc_me_code ns_me_code  N) ih v1 v3 (1 : Int32) z21 o_me_code _ _ _ h hw (lv_sub hl [0, 1, 3] rfl)
  unfold f_X6_readPlain at h
  refine lv_iconst (v := 0) hx hb dX6_readPlain_0 (by decide) ?_
  refine lv_istore_n (lv' := [(2, .int (0 : Int32)), (0, .ref h_me), (1, .int p0)]) hx hb dX6_readPlain_1 rfl hl (by decide) rfl (fun ls hl => ?_)
  refine lv_iconst (v := 0) hx hb dX6_readPlain_2 (by decide) ?_
  refine lv_istore_n (lv' := [(3, .int (0 : Int32)), (2, .int (0 : Int32)), (0, .ref h_me), (1, .int p0)]) hx hb dX6_readPlain_3 rfl hl (by decide) rfl (fun ls hl => ?_)
  exact lp_4_0  zfu p0 (0 : Int32) (0 : Int32) o_me o_me_code _ _ _ h hw (lv_sub hl [2, 3, 1, 0] rfl)

def f_X0_land (nc_me : Nat) (ns_me : Nat) (o_me : Ob) (p0 : Int32) : Option (Ob) :=
  if p0 < (0 : Int32) then
  (some o_me)
  else
  (if (gI o_me 8) ≤ p0 then
  (some o_me)
  else
  (zgd (zin p0 ns_me) <|
  zlt (tA o_me 6 p0.toNatClampNeg (gI o_me 8)) fun o2 =>
  some o2))
set_option maxHeartbeats 4000000 in
set_option maxRecDepth 100000 in
theorem m_X0_land (l : Launch) (dC : Nat → ClassId) (dI : Nat → Nat → Nat) (sz : Nat) (h_me : Nat) (q_me : Nat → Nat) (k_me : Nat → ClassId) (nc_me : Nat) (ns_me : Nat) (o_me : Ob) (p0 : Int32) (y : Ob) (h : f_X0_land nc_me ns_me o_me p0 = some y) : CV l yX0_land cX0_land 2 none ({ frames := 0, cells := 0, slots := 0, locals := 0 } : Room) dC dI sz [.ref h_me, .int p0] [wX0 h_me nc_me ns_me q_me k_me o_me] [tX0 k_me] [wX0 h_me nc_me ns_me q_me k_me y] := by
  refine CC_of (by decide) (Nat.le_of_ble_eq_true rfl) ?_
  intro p e s m below meth c A ls hx hb hml hr hlk hnm hown hts hX hK hP hD hA hl
  have hl : lv_has ls 2 [(0, .ref h_me), (1, .int p0)] := hl
  have hown : s.vm.findClass RX0 = some m.cls := hown
  have hw : Wd dC dI A s.heap [wX0 h_me nc_me ns_me q_me k_me o_me] s.heap [] := ⟨hP, hD, va_S.rf⟩
  generalize hQz : (MQ below (QV dC dI (fun (_ : Unit) => True) (fun _ => Jn [wX0 h_me nc_me ns_me q_me k_me y]) (fun _ => Jt [tX0 k_me]) A) ([.ref h_me, .int p0] : List Value).toArray s 0 0 A) = Qz
  clear hP hD hnm
  unfold f_X0_land at h
  refine lv_iload_n hx hb dX0_land_0 rfl (lv_at hl 1 rfl) ?_
  refine lv_if_lt (tgt := 22) hx hb dX0_land_1 (by decide) (fun c => ?_) (fun c => ?_)
  · have h := z_t h c
    have hy := Option.some.inj h
    rw [← hQz, ← hy]
    exact xr_v hx hb hr hlk hK hw dX0_land_22
  · have h := z_f h c
    refine lv_iload_n hx hb dX0_land_4 rfl (lv_at hl 1 rfl) ?_
    refine lv_aload_n hx hb dX0_land_5 rfl (lv_at hl 0 rfl) ?_
    refine fgX0_8 hx hb hts hown hK hw 0 rfl kw178 dX0_land_6 ?_
    refine lv_icmp_ge (tgt := 22) hx hb dX0_land_9 (by decide) (fun c => ?_) (fun c => ?_)
    · have h := z_t h c
      have hy := Option.some.inj h
      rw [← hQz, ← hy]
      exact xr_v hx hb hr hlk hK hw dX0_land_22
    · have h := z_f h c
      refine lv_aload_n hx hb dX0_land_12 rfl (lv_at hl 0 rfl) ?_
      refine fgX0_6 hx hb hts hown hK hw 0 rfl kw172 dX0_land_13 ?_
      refine lv_iload_n hx hb dX0_land_16 rfl (lv_at hl 1 rfl) ?_
      refine lv_aload_n hx hb dX0_land_17 rfl (lv_at hl 0 rfl) ?_
      refine fgX0_8 hx hb hts hown hK hw 0 rfl kw178 dX0_land_18 ?_
      obtain ⟨g1, h⟩ := z_gd h
      refine fbX0_6 hx hb hK hw 0 rfl rfl g1 dX0_land_21 (fun H locs hw => ?_)
      obtain ⟨o2, eo2, h⟩ := z_lt h
      have hw : Wd dC dI A s.heap [wX0 h_me nc_me ns_me q_me k_me o2] H locs := by rw [eo2]; exact hw
      have hy := Option.some.inj h
      rw [← hQz, ← hy]
      exact xr_v hx hb hr hlk hK hw dX0_land_22

def lb_X6_readBoth_12 (rT : Ob → Ob → Int32 → Option (Int32 × Ob × Ob)) (nc_me_code : Nat) (ns_me_code : Nat)  (rec_12_0 : Int32 × Int32 × Ob × Ob → Option (Int32 × Ob × Ob)) (v1 : Int32) (v2 : Int32) (o_me : Ob) (o_me_code : Ob) : Option (Int32 × Ob × Ob) :=
  if (400 : Int32) ≤ v2 then
  (some ((1 : Int32), o_me, o_me_code))
  else
  ((f_X6_isWord o_me 5).bind fun z2 =>
  if z2 = (0 : Int32) then
  (some ((1 : Int32), o_me, o_me_code))
  else
  ((f_X6_step o_me).bind fun z3 =>
  (f_X0_add nc_me_code ns_me_code o_me_code (3 : Int32) (0 : Int32)).bind fun z4 =>
  (f_X6_readPlain rT nc_me_code ns_me_code z3 z4.2 v1).bind fun z5 =>
  if z5.1 = (0 : Int32) then
  (some ((0 : Int32), z5.2.1, z5.2.2))
  else
  ((f_X0_land nc_me_code ns_me_code z5.2.2 z4.1).bind fun z6 =>
  zlt (v2 + (1 : Int32)) fun x7 =>
  rec_12_0 (v1, x7, z5.2.1, z6))))
def lp_X6_readBoth_12 (rT : Ob → Ob → Int32 → Option (Int32 × Ob × Ob)) (nc_me_code : Nat) (ns_me_code : Nat)  : Nat → (Int32 × Int32 × Ob × Ob) → Option (Int32 × Ob × Ob) := zit (fun rec a => lb_X6_readBoth_12 rT nc_me_code ns_me_code  rec a.1 a.2.1 a.2.2.1 a.2.2.2)
def f_X6_readBoth (rT : Ob → Ob → Int32 → Option (Int32 × Ob × Ob)) (nc_me_code : Nat) (ns_me_code : Nat) (o_me : Ob) (o_me_code : Ob) (p0 : Int32) : Option (Int32 × Ob × Ob) :=
  (f_X6_readPlain rT nc_me_code ns_me_code o_me o_me_code p0).bind fun z1 =>
  if z1.1 = (0 : Int32) then
  (some ((0 : Int32), z1.2.1, z1.2.2))
  else
  (lp_X6_readBoth_12 rT nc_me_code ns_me_code  zfu (p0, (0 : Int32), z1.2.1, z1.2.2))
set_option maxHeartbeats 4000000 in
set_option maxRecDepth 100000 in
theorem m_X6_readBoth (l : Launch) (dC : Nat → ClassId) (dI : Nat → Nat → Nat) (sz : Nat) (h_me : Nat) (h_me_code : Nat) (q_me : Nat → Nat) (k_me : Nat → ClassId) (q_me_code : Nat → Nat) (k_me_code : Nat → ClassId) (nc_me_code : Nat) (ns_me_code : Nat) (rT : Ob → Ob → Int32 → Option (Int32 × Ob × Ob)) (FR LC : Nat) (hrT : ∀ (sz : Nat) (o_me : Ob) (o_me_code : Ob) (p0 : Int32) (y : Int32 × Ob × Ob), rT o_me o_me_code p0 = some y → CI l yX6_readTest cX6_readTest 4 (some .boolean) ({ frames := FR, cells := 0, slots := 0, locals := LC } : Room) dC dI sz [.ref h_me, .int p0] [wX6 h_me h_me_code q_me k_me o_me, wX0 h_me_code nc_me_code ns_me_code q_me_code k_me_code o_me_code] [tX6 k_me, tX0 k_me_code] y.1 [wX6 h_me h_me_code q_me k_me y.2.1, wX0 h_me_code nc_me_code ns_me_code q_me_code k_me_code y.2.2]) (o_me : Ob) (o_me_code : Ob) (p0 : Int32) (y : Int32 × Ob × Ob) (h : f_X6_readBoth rT nc_me_code ns_me_code o_me o_me_code p0 = some y) : CI l yX6_readBoth cX6_readBoth 4 (some .boolean) ({ frames := FR + 92, cells := 0, slots := 0, locals := LC + 2046 } : Room) dC dI sz [.ref h_me, .int p0] [wX6 h_me h_me_code q_me k_me o_me, wX0 h_me_code nc_me_code ns_me_code q_me_code k_me_code o_me_code] [tX6 k_me, tX0 k_me_code] y.1 [wX6 h_me h_me_code q_me k_me y.2.1, wX0 h_me_code nc_me_code ns_me_code q_me_code k_me_code y.2.2] := by
  refine CC_of (by decide) (Nat.le_of_ble_eq_true rfl) ?_
  intro p e s m below meth c A ls hx hb hml hr hlk hnm hown hts hX hK hP hD hA hl
  have hl : lv_has ls 4 [(0, .ref h_me), (1, .int p0)] := hl
  have hown : s.vm.findClass RX6 = some m.cls := hown
  have hw : Wd dC dI A s.heap [wX6 h_me h_me_code q_me k_me o_me, wX0 h_me_code nc_me_code ns_me_code q_me_code k_me_code o_me_code] s.heap [] := ⟨hP, hD, va_S.rf⟩
  generalize hQz : (MQ below (QI dC dI (fun r (_ : Unit) => r = y.1) (fun _ => Jn [wX6 h_me h_me_code q_me k_me y.2.1, wX0 h_me_code nc_me_code ns_me_code q_me_code k_me_code y.2.2]) (fun _ => Jt [tX6 k_me, tX0 k_me_code]) A) ([.ref h_me, .int p0] : List Value).toArray s 0 0 A) = Qz
  clear hP hD hnm
  have lp_12_0 : ∀ (N : Nat), ∀ (v1 : Int32) (v2 : Int32) (o_me : Ob) (o_me_code : Ob) (H : Heap) (locs : List Loc) (ls : Array Slot), lp_X6_readBoth_12 rT nc_me_code ns_me_code  N (v1, v2, o_me, o_me_code) = some y → Wd dC dI A s.heap [wX6 h_me h_me_code q_me k_me o_me, wX0 h_me_code nc_me_code ns_me_code q_me_code k_me_code o_me_code] H locs → lv_has ls 4 [(0, .ref h_me), (1, .int v1), (2, .int v2)] → W p l e ({ frames := FR + 92, cells := 0, slots := 0, locals := LC + 2046 } : Room) s m ([.ref h_me, .int p0] : List Value).toArray below meth c H locs 0 0 Qz (F0 m 12 ls []) := by
    intro N
    induction N with
    | zero =>
      intro v1 v2 o_me o_me_code H locs ls h hw hl
      exact absurd (show (none : Option (Int32 × Ob × Ob)) = some y from h) (by simp)
    | succ N ih =>
      intro v1 v2 o_me o_me_code H locs ls h hw hl
      have h : lb_X6_readBoth_12 rT nc_me_code ns_me_code  (lp_X6_readBoth_12 rT nc_me_code ns_me_code  N) v1 v2 o_me o_me_code = some y := h
      unfold lb_X6_readBoth_12 at h
      refine lv_iload_n hx hb dX6_readBoth_12 rfl (lv_at hl 2 rfl) ?_
      refine lv_sipush (v := 400) hx hb dX6_readBoth_13 (by decide) ?_
      refine lv_icmp_ge (tgt := 66) hx hb dX6_readBoth_16 (by decide) (fun c => ?_) (fun c => ?_)
      · have h := z_t h c
        refine lv_iconst (v := 1) hx hb dX6_readBoth_66 (by decide) ?_
        have hy := Option.some.inj h
        rw [← hQz, ← hy]
        exact xr_i (v := (1 : Int32)) hx hb hr rfl hlk hK hw dX6_readBoth_67
      · have h := z_f h c
        refine lv_aload_n hx hb dX6_readBoth_19 rfl (lv_at hl 0 rfl) ?_
        refine va_ldcS hx hb hown hX.2.2.2.2.2.2.2.2.2.2.2.1 dX6_readBoth_20 ?_
        obtain ⟨z2, ez2, h⟩ := z_bd h
        refine xj_i (xrV (As := [.ref (dI 101 5)]) (rest := []) ⟨hx, hb, hml, hown, hts⟩ (m_X6_isWord l dC dI _ h_me h_me_code q_me k_me o_me 5 z2 ez2) kw783 kw780 kw782 kw15 kw111 hd_X6_isWord ⟨Nat.ble_eq_true_of_le (by show 6 + 1 ≤ FR + 92; omega), Nat.ble_eq_true_of_le (by show 8 + (2 + 11) + (134) ≤ LC + 2046; omega)⟩ rfl rfl ⟨rfl, rfl⟩ hX hK hw [0] (by decide) rfl rfl rfl rfl rfl hl.1 rfl rfl dX6_readBoth_22) hw hA [0] (by decide) rfl rfl (fun H locs hw => ?_)
        have hw : Wd dC dI A s.heap [wX6 h_me h_me_code q_me k_me o_me, wX0 h_me_code nc_me_code ns_me_code q_me_code k_me_code o_me_code] H locs := hw
        refine lv_if_eq (tgt := 66) hx hb dX6_readBoth_25 (by decide) (fun c => ?_) (fun c => ?_)
        · have h := z_t h c
          refine lv_iconst (v := 1) hx hb dX6_readBoth_66 (by decide) ?_
          have hy := Option.some.inj h
          rw [← hQz, ← hy]
          exact xr_i (v := (1 : Int32)) hx hb hr rfl hlk hK hw dX6_readBoth_67
        · have h := z_f h c
          refine lv_aload_n hx hb dX6_readBoth_28 rfl (lv_at hl 0 rfl) ?_
          obtain ⟨z3, ez3, h⟩ := z_bd h
          refine xj_v (xrV (As := []) (rest := []) ⟨hx, hb, hml, hown, hts⟩ (m_X6_step l dC dI _ h_me h_me_code q_me k_me o_me z3 ez3) kw675 kw672 kw674 kw5 kw111 hd_X6_step ⟨Nat.ble_eq_true_of_le (by show 1 + 1 ≤ FR + 92; omega), Nat.ble_eq_true_of_le (by show 8 + (2 + 11) + (21) ≤ LC + 2046; omega)⟩ rfl rfl ⟨rfl, rfl⟩ hX hK hw [0] (by decide) rfl rfl rfl rfl rfl hl.1 rfl rfl dX6_readBoth_29) hw hA [0] (by decide) rfl rfl (fun H locs hw => ?_)
          have hw : Wd dC dI A s.heap [wX6 h_me h_me_code q_me k_me z3, wX0 h_me_code nc_me_code ns_me_code q_me_code k_me_code o_me_code] H locs := hw
          refine lv_aload_n hx hb dX6_readBoth_32 rfl (lv_at hl 0 rfl) ?_
          refine fgX6_1 hx hb hts hown hK hw 0 rfl kw202 dX6_readBoth_33 ?_
          refine lv_iconst (v := 3) hx hb dX6_readBoth_36 (by decide) ?_
          refine lv_iconst (v := 0) hx hb dX6_readBoth_37 (by decide) ?_
          obtain ⟨z4, ez4, h⟩ := z_bd h
          refine xj_i (xrV (As := [.int (3 : Int32), .int (0 : Int32)]) (rest := []) ⟨hx, hb, hml, hown, hts⟩ (m_X0_add l dC dI _ h_me_code q_me_code k_me_code nc_me_code ns_me_code o_me_code (3 : Int32) (0 : Int32) z4 ez4) kw775 kw772 kw773 kw774 kw112 hd_X0_add ⟨Nat.ble_eq_true_of_le (by show 0 + 1 ≤ FR + 92; omega), Nat.ble_eq_true_of_le (by show 8 + (3 + 11) + (0) ≤ LC + 2046; omega)⟩ rfl rfl ⟨rfl, rfl⟩ hX hK hw [1] (by decide) rfl rfl rfl rfl rfl hl.1 rfl rfl dX6_readBoth_38) hw hA [1] (by decide) rfl rfl (fun H locs hw => ?_)
          have hw : Wd dC dI A s.heap [wX6 h_me h_me_code q_me k_me z3, wX0 h_me_code nc_me_code ns_me_code q_me_code k_me_code z4.2] H locs := hw
          refine lv_istore_n (lv' := [(3, .int z4.1), (0, .ref h_me), (1, .int v1), (2, .int v2)]) hx hb dX6_readBoth_41 rfl hl (by decide) rfl (fun ls hl => ?_)
          refine lv_aload_n hx hb dX6_readBoth_42 rfl (lv_at hl 1 rfl) ?_
          refine lv_iload_n hx hb dX6_readBoth_43 rfl (lv_at hl 2 rfl) ?_
          obtain ⟨z5, ez5, h⟩ := z_bd h
          refine xj_i (xrV (As := [.int v1]) (rest := []) ⟨hx, hb, hml, hown, hts⟩ (m_X6_readPlain l dC dI _ h_me h_me_code q_me k_me q_me_code k_me_code nc_me_code ns_me_code rT FR LC hrT z3 z4.2 v1 z5 ez5) kw796 kw793 kw795 kw18 kw111 hd_X6_readPlain ⟨Nat.ble_eq_true_of_le (by show FR + 91 + 1 ≤ FR + 92; omega), Nat.ble_eq_true_of_le (by show 8 + (4 + 11) + (LC + 2023) ≤ LC + 2046; omega)⟩ rfl rfl ⟨rfl, rfl⟩ hX hK hw [0, 1] (by decide) rfl rfl rfl rfl rfl hl.1 rfl rfl dX6_readBoth_44) hw hA [0, 1] (by decide) rfl rfl (fun H locs hw => ?_)
          have hw : Wd dC dI A s.heap [wX6 h_me h_me_code q_me k_me z5.2.1, wX0 h_me_code nc_me_code ns_me_code q_me_code k_me_code z5.2.2] H locs := hw
          refine lv_if_ne (tgt := 52) hx hb dX6_readBoth_47 (by decide) (fun c => ?_) (fun c => ?_)
          · have h := z_f h c
            refine lv_aload_n hx hb dX6_readBoth_52 rfl (lv_at hl 1 rfl) ?_
            refine fgX6_1 hx hb hts hown hK hw 0 rfl kw202 dX6_readBoth_53 ?_
            refine lv_iload_n hx hb dX6_readBoth_56 rfl (lv_at hl 0 rfl) ?_
            obtain ⟨z6, ez6, h⟩ := z_bd h
            refine xj_v (xrV (As := [.int z4.1]) (rest := []) ⟨hx, hb, hml, hown, hts⟩ (m_X0_land l dC dI _ h_me_code q_me_code k_me_code nc_me_code ns_me_code z5.2.2 z4.1 z6 ez6) kw802 kw799 kw800 kw801 kw112 hd_X0_land ⟨Nat.ble_eq_true_of_le (by show 0 + 1 ≤ FR + 92; omega), Nat.ble_eq_true_of_le (by show 8 + (2 + 11) + (0) ≤ LC + 2046; omega)⟩ rfl rfl ⟨rfl, rfl⟩ hX hK hw [1] (by decide) rfl rfl rfl rfl rfl hl.1 rfl rfl dX6_readBoth_57) hw hA [1] (by decide) rfl rfl (fun H locs hw => ?_)
            have hw : Wd dC dI A s.heap [wX6 h_me h_me_code q_me k_me z5.2.1, wX0 h_me_code nc_me_code ns_me_code q_me_code k_me_code z6] H locs := hw
            obtain ⟨x7, ex7, h⟩ := z_lt h
            refine lv_iinc (v := x7) (lv' := [(2, .int x7), (3, .int z4.1), (0, .ref h_me), (1, .int v1)]) hx hb dX6_readBoth_60 hl (k := 3) rfl ((congrArg (v2 + ·) (show Int32.ofInt 1 = (1 : Int32) from by decide)).trans ex7.symm) (by decide) rfl (fun ls hl => ?_)
            refine lv_goto (tgt := 12) hx hb dX6_readBoth_63 (by decide) ?_
            exact ih v1 x7 z5.2.1 z6 _ _ _ h hw (lv_sub hl [2, 3, 0] rfl)
          · have h := z_t h c
            refine lv_iconst (v := 0) hx hb dX6_readBoth_50 (by decide) ?_
            have hy := Option.some.inj h
            rw [← hQz, ← hy]
            exact xr_i (v := (0 : Int32)) hx hb hr rfl hlk hK hw dX6_readBoth_51
  unfold f_X6_readBoth at h
  refine lv_aload_n hx hb dX6_readBoth_0 rfl (lv_at hl 0 rfl) ?_
  refine lv_iload_n hx hb dX6_readBoth_1 rfl (lv_at hl 1 rfl) ?_
  obtain ⟨z1, ez1, h⟩ := z_bd h
  refine xj_i (xrV (As := [.int p0]) (rest := []) ⟨hx, hb, hml, hown, hts⟩ (m_X6_readPlain l dC dI _ h_me h_me_code q_me k_me q_me_code k_me_code nc_me_code ns_me_code rT FR LC hrT o_me o_me_code p0 z1 ez1) kw796 kw793 kw795 kw18 kw111 hd_X6_readPlain ⟨Nat.ble_eq_true_of_le (by show FR + 91 + 1 ≤ FR + 92; omega), Nat.ble_eq_true_of_le (by show 8 + (4 + 11) + (LC + 2023) ≤ LC + 2046; omega)⟩ rfl rfl ⟨rfl, rfl⟩ hX hK hw [0, 1] (by decide) rfl rfl rfl rfl rfl hl.1 rfl rfl dX6_readBoth_2) hw hA [0, 1] (by decide) rfl rfl (fun H locs hw => ?_)
  have hw : Wd dC dI A s.heap [wX6 h_me h_me_code q_me k_me z1.2.1, wX0 h_me_code nc_me_code ns_me_code q_me_code k_me_code z1.2.2] H locs := hw
  refine lv_if_ne (tgt := 10) hx hb dX6_readBoth_5 (by decide) (fun c => ?_) (fun c => ?_)
  · have h := z_f h c
    refine lv_iconst (v := 0) hx hb dX6_readBoth_10 (by decide) ?_
    refine lv_istore_n (lv' := [(2, .int (0 : Int32)), (0, .ref h_me), (1, .int p0)]) hx hb dX6_readBoth_11 rfl hl (by decide) rfl (fun ls hl => ?_)
    exact lp_12_0  zfu p0 (0 : Int32) z1.2.1 z1.2.2 _ _ _ h hw (lv_sub hl [1, 2, 0] rfl)
  · have h := z_t h c
    refine lv_iconst (v := 0) hx hb dX6_readBoth_8 (by decide) ?_
    have hy := Option.some.inj h
    rw [← hQz, ← hy]
    exact xr_i (v := (0 : Int32)) hx hb hr rfl hlk hK hw dX6_readBoth_9

def lb_X6_readTest_12 (rT : Ob → Ob → Int32 → Option (Int32 × Ob × Ob)) (nc_me_code : Nat) (ns_me_code : Nat)  (rec_12_0 : Int32 × Int32 × Ob × Ob → Option (Int32 × Ob × Ob)) (v1 : Int32) (v2 : Int32) (o_me : Ob) (o_me_code : Ob) : Option (Int32 × Ob × Ob) :=
  if (400 : Int32) ≤ v2 then
  (some ((1 : Int32), o_me, o_me_code))
  else
  ((f_X6_isWord o_me 4).bind fun z2 =>
  if z2 = (0 : Int32) then
  (some ((1 : Int32), o_me, o_me_code))
  else
  ((f_X6_step o_me).bind fun z3 =>
  (f_X0_add nc_me_code ns_me_code o_me_code (4 : Int32) (0 : Int32)).bind fun z4 =>
  (f_X6_readBoth rT nc_me_code ns_me_code z3 z4.2 v1).bind fun z5 =>
  if z5.1 = (0 : Int32) then
  (some ((0 : Int32), z5.2.1, z5.2.2))
  else
  ((f_X0_land nc_me_code ns_me_code z5.2.2 z4.1).bind fun z6 =>
  zlt (v2 + (1 : Int32)) fun x7 =>
  rec_12_0 (v1, x7, z5.2.1, z6))))
def lp_X6_readTest_12 (rT : Ob → Ob → Int32 → Option (Int32 × Ob × Ob)) (nc_me_code : Nat) (ns_me_code : Nat)  : Nat → (Int32 × Int32 × Ob × Ob) → Option (Int32 × Ob × Ob) := zit (fun rec a => lb_X6_readTest_12 rT nc_me_code ns_me_code  rec a.1 a.2.1 a.2.2.1 a.2.2.2)
def f_X6_readTest (rT : Ob → Ob → Int32 → Option (Int32 × Ob × Ob)) (nc_me_code : Nat) (ns_me_code : Nat) (o_me : Ob) (o_me_code : Ob) (p0 : Int32) : Option (Int32 × Ob × Ob) :=
  (f_X6_readBoth rT nc_me_code ns_me_code o_me o_me_code p0).bind fun z1 =>
  if z1.1 = (0 : Int32) then
  (some ((0 : Int32), z1.2.1, z1.2.2))
  else
  (lp_X6_readTest_12 rT nc_me_code ns_me_code  zfu (p0, (0 : Int32), z1.2.1, z1.2.2))
set_option maxHeartbeats 4000000 in
set_option maxRecDepth 100000 in
theorem m_X6_readTest (l : Launch) (dC : Nat → ClassId) (dI : Nat → Nat → Nat) (sz : Nat) (h_me : Nat) (h_me_code : Nat) (q_me : Nat → Nat) (k_me : Nat → ClassId) (q_me_code : Nat → Nat) (k_me_code : Nat → ClassId) (nc_me_code : Nat) (ns_me_code : Nat) (rT : Ob → Ob → Int32 → Option (Int32 × Ob × Ob)) (FR LC : Nat) (hrT : ∀ (sz : Nat) (o_me : Ob) (o_me_code : Ob) (p0 : Int32) (y : Int32 × Ob × Ob), rT o_me o_me_code p0 = some y → CI l yX6_readTest cX6_readTest 4 (some .boolean) ({ frames := FR, cells := 0, slots := 0, locals := LC } : Room) dC dI sz [.ref h_me, .int p0] [wX6 h_me h_me_code q_me k_me o_me, wX0 h_me_code nc_me_code ns_me_code q_me_code k_me_code o_me_code] [tX6 k_me, tX0 k_me_code] y.1 [wX6 h_me h_me_code q_me k_me y.2.1, wX0 h_me_code nc_me_code ns_me_code q_me_code k_me_code y.2.2]) (o_me : Ob) (o_me_code : Ob) (p0 : Int32) (y : Int32 × Ob × Ob) (h : f_X6_readTest rT nc_me_code ns_me_code o_me o_me_code p0 = some y) : CI l yX6_readTest cX6_readTest 4 (some .boolean) ({ frames := FR + 93, cells := 0, slots := 0, locals := LC + 2069 } : Room) dC dI sz [.ref h_me, .int p0] [wX6 h_me h_me_code q_me k_me o_me, wX0 h_me_code nc_me_code ns_me_code q_me_code k_me_code o_me_code] [tX6 k_me, tX0 k_me_code] y.1 [wX6 h_me h_me_code q_me k_me y.2.1, wX0 h_me_code nc_me_code ns_me_code q_me_code k_me_code y.2.2] := by
  refine CC_of (by decide) (Nat.le_of_ble_eq_true rfl) ?_
  intro p e s m below meth c A ls hx hb hml hr hlk hnm hown hts hX hK hP hD hA hl
  have hl : lv_has ls 4 [(0, .ref h_me), (1, .int p0)] := hl
  have hown : s.vm.findClass RX6 = some m.cls := hown
  have hw : Wd dC dI A s.heap [wX6 h_me h_me_code q_me k_me o_me, wX0 h_me_code nc_me_code ns_me_code q_me_code k_me_code o_me_code] s.heap [] := ⟨hP, hD, va_S.rf⟩
  generalize hQz : (MQ below (QI dC dI (fun r (_ : Unit) => r = y.1) (fun _ => Jn [wX6 h_me h_me_code q_me k_me y.2.1, wX0 h_me_code nc_me_code ns_me_code q_me_code k_me_code y.2.2]) (fun _ => Jt [tX6 k_me, tX0 k_me_code]) A) ([.ref h_me, .int p0] : List Value).toArray s 0 0 A) = Qz
  clear hP hD hnm
  have lp_12_0 : ∀ (N : Nat), ∀ (v1 : Int32) (v2 : Int32) (o_me : Ob) (o_me_code : Ob) (H : Heap) (locs : List Loc) (ls : Array Slot), lp_X6_readTest_12 rT nc_me_code ns_me_code  N (v1, v2, o_me, o_me_code) = some y → Wd dC dI A s.heap [wX6 h_me h_me_code q_me k_me o_me, wX0 h_me_code nc_me_code ns_me_code q_me_code k_me_code o_me_code] H locs → lv_has ls 4 [(0, .ref h_me), (1, .int v1), (2, .int v2)] → W p l e ({ frames := FR + 93, cells := 0, slots := 0, locals := LC + 2069 } : Room) s m ([.ref h_me, .int p0] : List Value).toArray below meth c H locs 0 0 Qz (F0 m 12 ls []) := by
    intro N
    induction N with
    | zero =>
      intro v1 v2 o_me o_me_code H locs ls h hw hl
      exact absurd (show (none : Option (Int32 × Ob × Ob)) = some y from h) (by simp)
    | succ N ih =>
      intro v1 v2 o_me o_me_code H locs ls h hw hl
      have h : lb_X6_readTest_12 rT nc_me_code ns_me_code  (lp_X6_readTest_12 rT nc_me_code ns_me_code  N) v1 v2 o_me o_me_code = some y := h
      unfold lb_X6_readTest_12 at h
      refine lv_iload_n hx hb dX6_readTest_12 rfl (lv_at hl 2 rfl) ?_
      refine lv_sipush (v := 400) hx hb dX6_readTest_13 (by decide) ?_
      refine lv_icmp_ge (tgt := 66) hx hb dX6_readTest_16 (by decide) (fun c => ?_) (fun c => ?_)
      · have h := z_t h c
        refine lv_iconst (v := 1) hx hb dX6_readTest_66 (by decide) ?_
        have hy := Option.some.inj h
        rw [← hQz, ← hy]
        exact xr_i (v := (1 : Int32)) hx hb hr rfl hlk hK hw dX6_readTest_67
      · have h := z_f h c
        refine lv_aload_n hx hb dX6_readTest_19 rfl (lv_at hl 0 rfl) ?_
        refine va_ldcS hx hb hown hX.2.2.2.2.2.2.2.2.2.2.1 dX6_readTest_20 ?_
        obtain ⟨z2, ez2, h⟩ := z_bd h
        refine xj_i (xrV (As := [.ref (dI 101 4)]) (rest := []) ⟨hx, hb, hml, hown, hts⟩ (m_X6_isWord l dC dI _ h_me h_me_code q_me k_me o_me 4 z2 ez2) kw783 kw780 kw782 kw15 kw111 hd_X6_isWord ⟨Nat.ble_eq_true_of_le (by show 6 + 1 ≤ FR + 93; omega), Nat.ble_eq_true_of_le (by show 8 + (2 + 11) + (134) ≤ LC + 2069; omega)⟩ rfl rfl ⟨rfl, rfl⟩ hX hK hw [0] (by decide) rfl rfl rfl rfl rfl hl.1 rfl rfl dX6_readTest_22) hw hA [0] (by decide) rfl rfl (fun H locs hw => ?_)
        have hw : Wd dC dI A s.heap [wX6 h_me h_me_code q_me k_me o_me, wX0 h_me_code nc_me_code ns_me_code q_me_code k_me_code o_me_code] H locs := hw
        refine lv_if_eq (tgt := 66) hx hb dX6_readTest_25 (by decide) (fun c => ?_) (fun c => ?_)
        · have h := z_t h c
          refine lv_iconst (v := 1) hx hb dX6_readTest_66 (by decide) ?_
          have hy := Option.some.inj h
          rw [← hQz, ← hy]
          exact xr_i (v := (1 : Int32)) hx hb hr rfl hlk hK hw dX6_readTest_67
        · have h := z_f h c
          refine lv_aload_n hx hb dX6_readTest_28 rfl (lv_at hl 0 rfl) ?_
          obtain ⟨z3, ez3, h⟩ := z_bd h
          refine xj_v (xrV (As := []) (rest := []) ⟨hx, hb, hml, hown, hts⟩ (m_X6_step l dC dI _ h_me h_me_code q_me k_me o_me z3 ez3) kw675 kw672 kw674 kw5 kw111 hd_X6_step ⟨Nat.ble_eq_true_of_le (by show 1 + 1 ≤ FR + 93; omega), Nat.ble_eq_true_of_le (by show 8 + (2 + 11) + (21) ≤ LC + 2069; omega)⟩ rfl rfl ⟨rfl, rfl⟩ hX hK hw [0] (by decide) rfl rfl rfl rfl rfl hl.1 rfl rfl dX6_readTest_29) hw hA [0] (by decide) rfl rfl (fun H locs hw => ?_)
          have hw : Wd dC dI A s.heap [wX6 h_me h_me_code q_me k_me z3, wX0 h_me_code nc_me_code ns_me_code q_me_code k_me_code o_me_code] H locs := hw
          refine lv_aload_n hx hb dX6_readTest_32 rfl (lv_at hl 0 rfl) ?_
          refine fgX6_1 hx hb hts hown hK hw 0 rfl kw202 dX6_readTest_33 ?_
          refine lv_iconst (v := 4) hx hb dX6_readTest_36 (by decide) ?_
          refine lv_iconst (v := 0) hx hb dX6_readTest_37 (by decide) ?_
          obtain ⟨z4, ez4, h⟩ := z_bd h
          refine xj_i (xrV (As := [.int (4 : Int32), .int (0 : Int32)]) (rest := []) ⟨hx, hb, hml, hown, hts⟩ (m_X0_add l dC dI _ h_me_code q_me_code k_me_code nc_me_code ns_me_code o_me_code (4 : Int32) (0 : Int32) z4 ez4) kw775 kw772 kw773 kw774 kw112 hd_X0_add ⟨Nat.ble_eq_true_of_le (by show 0 + 1 ≤ FR + 93; omega), Nat.ble_eq_true_of_le (by show 8 + (3 + 11) + (0) ≤ LC + 2069; omega)⟩ rfl rfl ⟨rfl, rfl⟩ hX hK hw [1] (by decide) rfl rfl rfl rfl rfl hl.1 rfl rfl dX6_readTest_38) hw hA [1] (by decide) rfl rfl (fun H locs hw => ?_)
          have hw : Wd dC dI A s.heap [wX6 h_me h_me_code q_me k_me z3, wX0 h_me_code nc_me_code ns_me_code q_me_code k_me_code z4.2] H locs := hw
          refine lv_istore_n (lv' := [(3, .int z4.1), (0, .ref h_me), (1, .int v1), (2, .int v2)]) hx hb dX6_readTest_41 rfl hl (by decide) rfl (fun ls hl => ?_)
          refine lv_aload_n hx hb dX6_readTest_42 rfl (lv_at hl 1 rfl) ?_
          refine lv_iload_n hx hb dX6_readTest_43 rfl (lv_at hl 2 rfl) ?_
          obtain ⟨z5, ez5, h⟩ := z_bd h
          refine xj_i (xrV (As := [.int v1]) (rest := []) ⟨hx, hb, hml, hown, hts⟩ (m_X6_readBoth l dC dI _ h_me h_me_code q_me k_me q_me_code k_me_code nc_me_code ns_me_code rT FR LC hrT z3 z4.2 v1 z5 ez5) kw792 kw789 kw791 kw17 kw111 hd_X6_readBoth ⟨Nat.ble_eq_true_of_le (by show FR + 92 + 1 ≤ FR + 93; omega), Nat.ble_eq_true_of_le (by show 8 + (4 + 11) + (LC + 2046) ≤ LC + 2069; omega)⟩ rfl rfl ⟨rfl, rfl⟩ hX hK hw [0, 1] (by decide) rfl rfl rfl rfl rfl hl.1 rfl rfl dX6_readTest_44) hw hA [0, 1] (by decide) rfl rfl (fun H locs hw => ?_)
          have hw : Wd dC dI A s.heap [wX6 h_me h_me_code q_me k_me z5.2.1, wX0 h_me_code nc_me_code ns_me_code q_me_code k_me_code z5.2.2] H locs := hw
          refine lv_if_ne (tgt := 52) hx hb dX6_readTest_47 (by decide) (fun c => ?_) (fun c => ?_)
          · have h := z_f h c
            refine lv_aload_n hx hb dX6_readTest_52 rfl (lv_at hl 1 rfl) ?_
            refine fgX6_1 hx hb hts hown hK hw 0 rfl kw202 dX6_readTest_53 ?_
            refine lv_iload_n hx hb dX6_readTest_56 rfl (lv_at hl 0 rfl) ?_
            obtain ⟨z6, ez6, h⟩ := z_bd h
            refine xj_v (xrV (As := [.int z4.1]) (rest := []) ⟨hx, hb, hml, hown, hts⟩ (m_X0_land l dC dI _ h_me_code q_me_code k_me_code nc_me_code ns_me_code z5.2.2 z4.1 z6 ez6) kw802 kw799 kw800 kw801 kw112 hd_X0_land ⟨Nat.ble_eq_true_of_le (by show 0 + 1 ≤ FR + 93; omega), Nat.ble_eq_true_of_le (by show 8 + (2 + 11) + (0) ≤ LC + 2069; omega)⟩ rfl rfl ⟨rfl, rfl⟩ hX hK hw [1] (by decide) rfl rfl rfl rfl rfl hl.1 rfl rfl dX6_readTest_57) hw hA [1] (by decide) rfl rfl (fun H locs hw => ?_)
            have hw : Wd dC dI A s.heap [wX6 h_me h_me_code q_me k_me z5.2.1, wX0 h_me_code nc_me_code ns_me_code q_me_code k_me_code z6] H locs := hw
            obtain ⟨x7, ex7, h⟩ := z_lt h
            refine lv_iinc (v := x7) (lv' := [(2, .int x7), (3, .int z4.1), (0, .ref h_me), (1, .int v1)]) hx hb dX6_readTest_60 hl (k := 3) rfl ((congrArg (v2 + ·) (show Int32.ofInt 1 = (1 : Int32) from by decide)).trans ex7.symm) (by decide) rfl (fun ls hl => ?_)
            refine lv_goto (tgt := 12) hx hb dX6_readTest_63 (by decide) ?_
            exact ih v1 x7 z5.2.1 z6 _ _ _ h hw (lv_sub hl [2, 3, 0] rfl)
          · have h := z_t h c
            refine lv_iconst (v := 0) hx hb dX6_readTest_50 (by decide) ?_
            have hy := Option.some.inj h
            rw [← hQz, ← hy]
            exact xr_i (v := (0 : Int32)) hx hb hr rfl hlk hK hw dX6_readTest_51
  unfold f_X6_readTest at h
  refine lv_aload_n hx hb dX6_readTest_0 rfl (lv_at hl 0 rfl) ?_
  refine lv_iload_n hx hb dX6_readTest_1 rfl (lv_at hl 1 rfl) ?_
  obtain ⟨z1, ez1, h⟩ := z_bd h
  refine xj_i (xrV (As := [.int p0]) (rest := []) ⟨hx, hb, hml, hown, hts⟩ (m_X6_readBoth l dC dI _ h_me h_me_code q_me k_me q_me_code k_me_code nc_me_code ns_me_code rT FR LC hrT o_me o_me_code p0 z1 ez1) kw792 kw789 kw791 kw17 kw111 hd_X6_readBoth ⟨Nat.ble_eq_true_of_le (by show FR + 92 + 1 ≤ FR + 93; omega), Nat.ble_eq_true_of_le (by show 8 + (4 + 11) + (LC + 2046) ≤ LC + 2069; omega)⟩ rfl rfl ⟨rfl, rfl⟩ hX hK hw [0, 1] (by decide) rfl rfl rfl rfl rfl hl.1 rfl rfl dX6_readTest_2) hw hA [0, 1] (by decide) rfl rfl (fun H locs hw => ?_)
  have hw : Wd dC dI A s.heap [wX6 h_me h_me_code q_me k_me z1.2.1, wX0 h_me_code nc_me_code ns_me_code q_me_code k_me_code z1.2.2] H locs := hw
  refine lv_if_ne (tgt := 10) hx hb dX6_readTest_5 (by decide) (fun c => ?_) (fun c => ?_)
  · have h := z_f h c
    refine lv_iconst (v := 0) hx hb dX6_readTest_10 (by decide) ?_
    refine lv_istore_n (lv' := [(2, .int (0 : Int32)), (0, .ref h_me), (1, .int p0)]) hx hb dX6_readTest_11 rfl hl (by decide) rfl (fun ls hl => ?_)
    exact lp_12_0  zfu p0 (0 : Int32) z1.2.1 z1.2.2 _ _ _ h hw (lv_sub hl [1, 2, 0] rfl)
  · have h := z_t h c
    refine lv_iconst (v := 0) hx hb dX6_readTest_8 (by decide) ?_
    have hy := Option.some.inj h
    rw [← hQz, ← hy]
    exact xr_i (v := (0 : Int32)) hx hb hr rfl hlk hK hw dX6_readTest_9

def fx_X6_readTest (nc_me_code : Nat) (ns_me_code : Nat) : Nat → Ob → Ob → Int32 → Option (Int32 × Ob × Ob)
  | 0 => fun _ _ _ => none
  | d + 1 => fun o1 o2 b => f_X6_readTest (fx_X6_readTest nc_me_code ns_me_code d) nc_me_code ns_me_code o1 o2 b
theorem mx_X6_readTest (l : Launch) (dC : Nat → ClassId) (dI : Nat → Nat → Nat) (h_me : Nat) (h_me_code : Nat) (q_me : Nat → Nat) (k_me : Nat → ClassId) (q_me_code : Nat → Nat) (k_me_code : Nat → ClassId) (nc_me_code : Nat) (ns_me_code : Nat) : ∀ (d : Nat) (sz : Nat) (o_me : Ob) (o_me_code : Ob) (p0 : Int32) (y : Int32 × Ob × Ob), fx_X6_readTest nc_me_code ns_me_code d o_me o_me_code p0 = some y → CI l yX6_readTest cX6_readTest 4 (some .boolean) ({ frames := 93 * d, cells := 0, slots := 0, locals := 2069 * d } : Room) dC dI sz [.ref h_me, .int p0] [wX6 h_me h_me_code q_me k_me o_me, wX0 h_me_code nc_me_code ns_me_code q_me_code k_me_code o_me_code] [tX6 k_me, tX0 k_me_code] y.1 [wX6 h_me h_me_code q_me k_me y.2.1, wX0 h_me_code nc_me_code ns_me_code q_me_code k_me_code y.2.2] := by
  intro d
  induction d with
  | zero =>
    intro sz o_me o_me_code p0 y h
    exact absurd (show (none : Option (Int32 × Ob × Ob)) = some y from h) (by simp)
  | succ d ih =>
    intro sz o_me o_me_code p0 y h
    exact m_X6_readTest l dC dI sz h_me h_me_code q_me k_me q_me_code k_me_code nc_me_code ns_me_code (fx_X6_readTest nc_me_code ns_me_code d) _ _ ih o_me o_me_code p0 y h

def bk_X6_readClause_34 (nc_me_code : Nat) (ns_me_code : Nat)  (o_me : Ob) (o_me_code : Ob) : Option (Int32 × Ob × Ob) :=
  (f_X6_stop o_me).bind fun z2 =>
  zgd (zbo z2.1) <|
  some (z2.1, z2.2, o_me_code)
def bk_X6_readClause_200 (nc_me_code : Nat) (ns_me_code : Nat)  (v1 : Int32) (o_me : Ob) (o_me_code : Ob) : Option (Int32 × Ob × Ob) :=
  zgd (zin v1 nc_me_code) <|
  zlt (tA o_me_code 4 v1.toNatClampNeg (gI o_me_code 8)) fun o15 =>
  zlt (sI o15 7 (v1 + (1 : Int32))) fun o16 =>
  some ((1 : Int32), o_me, o16)
def bk_X6_readClause_177 (nc_me_code : Nat) (ns_me_code : Nat)  (v1 : Int32) (o_me : Ob) (o_me_code : Ob) : Option (Int32 × Ob × Ob) :=
  (f_X6_isWord o_me 3).bind fun z13 =>
  if z13 = (0 : Int32) then
  (bk_X6_readClause_200 nc_me_code ns_me_code  v1 o_me o_me_code)
  else
  ((f_X6_step o_me).bind fun z17 =>
  (fx_X6_readTest nc_me_code ns_me_code 10 z17 o_me_code (0 : Int32)).bind fun z18 =>
  if z18.1 = (0 : Int32) then
  (some ((0 : Int32), z18.2.1, z18.2.2))
  else
  (bk_X6_readClause_200 nc_me_code ns_me_code  v1 z18.2.1 z18.2.2))
def bk_X6_readClause_155 (nc_me_code : Nat) (ns_me_code : Nat)  (o_me : Ob) (o_me_code : Ob) : Option (Int32 × Ob × Ob) :=
  (f_X6_stop o_me).bind fun z21 =>
  zgd (zbo z21.1) <|
  some (z21.1, z21.2, o_me_code)
def bk_X6_readClause_94 (nc_me_code : Nat) (ns_me_code : Nat)  (v1 : Int32) (o_me : Ob) (o_me_code : Ob) : Option (Int32 × Ob × Ob) :=
  zgd (zin v1 nc_me_code) <|
  zlt (tA o_me_code 3 v1.toNatClampNeg (gI o_me_code 8)) fun o12 =>
  if (gI o_me 4) = (0 : Int32) then
  ((f_X6_isWord o_me 2).bind fun z19 =>
  if z19 = (0 : Int32) then
  (bk_X6_readClause_177 nc_me_code ns_me_code  v1 o_me o12)
  else
  ((f_X6_step o_me).bind fun z20 =>
  if (gI z20 6) = (2 : Int32) then
  (if (gI z20 9) < (1 : Int32) then
  (bk_X6_readClause_155 nc_me_code ns_me_code  z20 o12)
  else
  (if (gI z20 9) ≤ (20 : Int32) then
  (zgd (zin v1 nc_me_code) <|
  zlt (tA o12 1 v1.toNatClampNeg (gI z20 9)) fun o24 =>
  (f_X6_step z20).bind fun z25 =>
  bk_X6_readClause_177 nc_me_code ns_me_code  v1 z25 o24)
  else
  (bk_X6_readClause_155 nc_me_code ns_me_code  z20 o12)))
  else
  (bk_X6_readClause_155 nc_me_code ns_me_code  z20 o12)))
  else
  (bk_X6_readClause_177 nc_me_code ns_me_code  v1 o_me o12)
def bk_X6_readClause_15 (nc_me_code : Nat) (ns_me_code : Nat)  (v1 : Int32) (s0 : Nat) (o_me : Ob) (o_me_code : Ob) : Option (Int32 × Ob × Ob) :=
  (f_X6_wordOf o_me s0).bind fun z1 =>
  if z1 = (-1 : Int32) then
  (bk_X6_readClause_34 nc_me_code ns_me_code  o_me o_me_code)
  else
  (if v1 < (0 : Int32) then
  (bk_X6_readClause_34 nc_me_code ns_me_code  o_me o_me_code)
  else
  (if v1 < (12 : Int32) then
  ((f_X6_step o_me).bind fun z4 =>
  zgd (zin v1 nc_me_code) <|
  zlt (tA o_me_code 0 v1.toNatClampNeg z1) fun o6 =>
  zgd (zin v1 nc_me_code) <|
  zlt (tA o6 1 v1.toNatClampNeg (1 : Int32)) fun o8 =>
  zgd (zin v1 nc_me_code) <|
  zlt (tA o8 2 v1.toNatClampNeg (gI o8 8)) fun o10 =>
  if z1 = (3 : Int32) then
  (bk_X6_readClause_94 nc_me_code ns_me_code  v1 z4 o10)
  else
  ((fx_X6_readSum nc_me_code ns_me_code 10 z4 o10 (0 : Int32)).bind fun z26 =>
  if z26.1 = (0 : Int32) then
  (some ((0 : Int32), z26.2.1, z26.2.2))
  else
  (bk_X6_readClause_94 nc_me_code ns_me_code  v1 z26.2.1 z26.2.2)))
  else
  (bk_X6_readClause_34 nc_me_code ns_me_code  o_me o_me_code)))
def f_X6_readClause (nc_me_code : Nat) (ns_me_code : Nat) (o_me : Ob) (o_me_code : Ob) (p0 : Int32) : Option (Int32 × Ob × Ob) :=
  if (gI o_me 4) = (0 : Int32) then
  (bk_X6_readClause_15 nc_me_code ns_me_code  p0 1 o_me o_me_code)
  else
  (bk_X6_readClause_15 nc_me_code ns_me_code  p0 0 o_me o_me_code)
set_option maxHeartbeats 4000000 in
set_option maxRecDepth 100000 in
theorem m_X6_readClause (l : Launch) (dC : Nat → ClassId) (dI : Nat → Nat → Nat) (sz : Nat) (h_me : Nat) (h_me_code : Nat) (q_me : Nat → Nat) (k_me : Nat → ClassId) (q_me_code : Nat → Nat) (k_me_code : Nat → ClassId) (nc_me_code : Nat) (ns_me_code : Nat) (o_me : Ob) (o_me_code : Ob) (p0 : Int32) (y : Int32 × Ob × Ob) (h : f_X6_readClause nc_me_code ns_me_code o_me o_me_code p0 = some y) : CI l yX6_readClause cX6_readClause 3 (some .boolean) ({ frames := 931, cells := 0, slots := 0, locals := 20713 } : Room) dC dI sz [.ref h_me, .int p0] [wX6 h_me h_me_code q_me k_me o_me, wX0 h_me_code nc_me_code ns_me_code q_me_code k_me_code o_me_code] [tX6 k_me, tX0 k_me_code] y.1 [wX6 h_me h_me_code q_me k_me y.2.1, wX0 h_me_code nc_me_code ns_me_code q_me_code k_me_code y.2.2] := by
  refine CC_of (by decide) (Nat.le_of_ble_eq_true rfl) ?_
  intro p e s m below meth c A ls hx hb hml hr hlk hnm hown hts hX hK hP hD hA hl
  have hl : lv_has ls 3 [(0, .ref h_me), (1, .int p0)] := hl
  have hown : s.vm.findClass RX6 = some m.cls := hown
  have hw : Wd dC dI A s.heap [wX6 h_me h_me_code q_me k_me o_me, wX0 h_me_code nc_me_code ns_me_code q_me_code k_me_code o_me_code] s.heap [] := ⟨hP, hD, va_S.rf⟩
  generalize hQz : (MQ below (QI dC dI (fun r (_ : Unit) => r = y.1) (fun _ => Jn [wX6 h_me h_me_code q_me k_me y.2.1, wX0 h_me_code nc_me_code ns_me_code q_me_code k_me_code y.2.2]) (fun _ => Jt [tX6 k_me, tX0 k_me_code]) A) ([.ref h_me, .int p0] : List Value).toArray s 0 0 A) = Qz
  clear hP hD hnm
  have bk_34_1 : ∀ (o_me : Ob) (o_me_code : Ob) (H : Heap) (locs : List Loc) (ls : Array Slot), bk_X6_readClause_34 nc_me_code ns_me_code  o_me o_me_code = some y → Wd dC dI A s.heap [wX6 h_me h_me_code q_me k_me o_me, wX0 h_me_code nc_me_code ns_me_code q_me_code k_me_code o_me_code] H locs → lv_has ls 3 [(0, .ref h_me)] → W p l e ({ frames := 931, cells := 0, slots := 0, locals := 20713 } : Room) s m ([.ref h_me, .int p0] : List Value).toArray below meth c H locs 0 0 Qz (F0 m 34 ls []) := by
    intro o_me o_me_code H locs ls h hw hl
    unfold bk_X6_readClause_34 at h
    refine lv_aload_n hx hb dX6_readClause_34 rfl (lv_at hl 0 rfl) ?_
    obtain ⟨z2, ez2, h⟩ := z_bd h
    refine xj_i (xrV (As := []) (rest := []) ⟨hx, hb, hml, hown, hts⟩ (m_X6_stop l dC dI _ h_me h_me_code q_me k_me o_me z2 ez2) kw749 kw746 kw748 kw9 kw111 hd_X6_stop ⟨rfl, rfl⟩ rfl rfl ⟨rfl, rfl⟩ hX hK hw [0] (by decide) rfl rfl rfl rfl rfl hl.1 rfl rfl dX6_readClause_35) hw hA [0] (by decide) rfl rfl (fun H locs hw => ?_)
    have hw : Wd dC dI A s.heap [wX6 h_me h_me_code q_me k_me z2.2, wX0 h_me_code nc_me_code ns_me_code q_me_code k_me_code o_me_code] H locs := hw
    obtain ⟨g3, h⟩ := z_gd h
    have hy := Option.some.inj h
    rw [← hQz, ← hy]
    exact xr_i (v := z2.1) hx hb hr (z_nar g3) hlk hK hw dX6_readClause_38
  have bk_200_4 : ∀ (v1 : Int32) (o_me : Ob) (o_me_code : Ob) (H : Heap) (locs : List Loc) (ls : Array Slot), bk_X6_readClause_200 nc_me_code ns_me_code  v1 o_me o_me_code = some y → Wd dC dI A s.heap [wX6 h_me h_me_code q_me k_me o_me, wX0 h_me_code nc_me_code ns_me_code q_me_code k_me_code o_me_code] H locs → lv_has ls 3 [(0, .ref h_me), (1, .int v1)] → W p l e ({ frames := 931, cells := 0, slots := 0, locals := 20713 } : Room) s m ([.ref h_me, .int p0] : List Value).toArray below meth c H locs 0 0 Qz (F0 m 200 ls []) := by
    intro v1 o_me o_me_code H locs ls h hw hl
    unfold bk_X6_readClause_200 at h
    refine lv_aload_n hx hb dX6_readClause_200 rfl (lv_at hl 0 rfl) ?_
    refine fgX6_1 hx hb hts hown hK hw 0 rfl kw202 dX6_readClause_201 ?_
    refine fgX0_4 hx hb hts hown hK hw 1 rfl kw168 dX6_readClause_204 ?_
    refine lv_iload_n hx hb dX6_readClause_207 rfl (lv_at hl 1 rfl) ?_
    refine lv_aload_n hx hb dX6_readClause_208 rfl (lv_at hl 0 rfl) ?_
    refine fgX6_1 hx hb hts hown hK hw 0 rfl kw202 dX6_readClause_209 ?_
    refine fgX0_8 hx hb hts hown hK hw 1 rfl kw180 dX6_readClause_212 ?_
    obtain ⟨g14, h⟩ := z_gd h
    refine fbX0_4 hx hb hK hw 1 rfl rfl g14 dX6_readClause_215 (fun H locs hw => ?_)
    obtain ⟨o15, eo15, h⟩ := z_lt h
    have hw : Wd dC dI A s.heap [wX6 h_me h_me_code q_me k_me o_me, wX0 h_me_code nc_me_code ns_me_code q_me_code k_me_code o15] H locs := by rw [eo15]; exact hw
    refine lv_aload_n hx hb dX6_readClause_216 rfl (lv_at hl 0 rfl) ?_
    refine fgX6_1 hx hb hts hown hK hw 0 rfl kw202 dX6_readClause_217 ?_
    refine lv_iload_n hx hb dX6_readClause_220 rfl (lv_at hl 1 rfl) ?_
    refine lv_iconst (v := 1) hx hb dX6_readClause_221 (by decide) ?_
    refine lv_iadd hx hb dX6_readClause_222 ?_
    refine fpX0_7 hx hb hts hown hK hw 1 rfl kw176 dX6_readClause_223 (fun H locs hw => ?_)
    obtain ⟨o16, eo16, h⟩ := z_lt h
    have hw : Wd dC dI A s.heap [wX6 h_me h_me_code q_me k_me o_me, wX0 h_me_code nc_me_code ns_me_code q_me_code k_me_code o16] H locs := by rw [eo16]; exact hw
    refine lv_iconst (v := 1) hx hb dX6_readClause_226 (by decide) ?_
    have hy := Option.some.inj h
    rw [← hQz, ← hy]
    exact xr_i (v := (1 : Int32)) hx hb hr rfl hlk hK hw dX6_readClause_227
  have bk_177_3 : ∀ (v1 : Int32) (o_me : Ob) (o_me_code : Ob) (H : Heap) (locs : List Loc) (ls : Array Slot), bk_X6_readClause_177 nc_me_code ns_me_code  v1 o_me o_me_code = some y → Wd dC dI A s.heap [wX6 h_me h_me_code q_me k_me o_me, wX0 h_me_code nc_me_code ns_me_code q_me_code k_me_code o_me_code] H locs → lv_has ls 3 [(0, .ref h_me), (1, .int v1)] → W p l e ({ frames := 931, cells := 0, slots := 0, locals := 20713 } : Room) s m ([.ref h_me, .int p0] : List Value).toArray below meth c H locs 0 0 Qz (F0 m 177 ls []) := by
    intro v1 o_me o_me_code H locs ls h hw hl
    unfold bk_X6_readClause_177 at h
    refine lv_aload_n hx hb dX6_readClause_177 rfl (lv_at hl 0 rfl) ?_
    refine va_ldcS hx hb hown hX.2.2.2.2.2.2.2.2.2.1 dX6_readClause_178 ?_
    obtain ⟨z13, ez13, h⟩ := z_bd h
    refine xj_i (xrV (As := [.ref (dI 101 3)]) (rest := []) ⟨hx, hb, hml, hown, hts⟩ (m_X6_isWord l dC dI _ h_me h_me_code q_me k_me o_me 3 z13 ez13) kw783 kw780 kw782 kw15 kw111 hd_X6_isWord ⟨rfl, rfl⟩ rfl rfl ⟨rfl, rfl⟩ hX hK hw [0] (by decide) rfl rfl rfl rfl rfl hl.1 rfl rfl dX6_readClause_180) hw hA [0] (by decide) rfl rfl (fun H locs hw => ?_)
    have hw : Wd dC dI A s.heap [wX6 h_me h_me_code q_me k_me o_me, wX0 h_me_code nc_me_code ns_me_code q_me_code k_me_code o_me_code] H locs := hw
    refine lv_if_eq (tgt := 200) hx hb dX6_readClause_183 (by decide) (fun c => ?_) (fun c => ?_)
    · have h := z_t h c
      exact bk_200_4  v1 o_me o_me_code _ _ _ h hw (lv_sub hl [0, 1] rfl)
    · have h := z_f h c
      refine lv_aload_n hx hb dX6_readClause_186 rfl (lv_at hl 0 rfl) ?_
      obtain ⟨z17, ez17, h⟩ := z_bd h
      refine xj_v (xrV (As := []) (rest := []) ⟨hx, hb, hml, hown, hts⟩ (m_X6_step l dC dI _ h_me h_me_code q_me k_me o_me z17 ez17) kw675 kw672 kw674 kw5 kw111 hd_X6_step ⟨rfl, rfl⟩ rfl rfl ⟨rfl, rfl⟩ hX hK hw [0] (by decide) rfl rfl rfl rfl rfl hl.1 rfl rfl dX6_readClause_187) hw hA [0] (by decide) rfl rfl (fun H locs hw => ?_)
      have hw : Wd dC dI A s.heap [wX6 h_me h_me_code q_me k_me z17, wX0 h_me_code nc_me_code ns_me_code q_me_code k_me_code o_me_code] H locs := hw
      refine lv_aload_n hx hb dX6_readClause_190 rfl (lv_at hl 0 rfl) ?_
      refine lv_iconst (v := 0) hx hb dX6_readClause_191 (by decide) ?_
      obtain ⟨z18, ez18, h⟩ := z_bd h
      refine xj_i (xrV (As := [.int (0 : Int32)]) (rest := []) ⟨hx, hb, hml, hown, hts⟩ (mx_X6_readTest l dC dI h_me h_me_code q_me k_me q_me_code k_me_code nc_me_code ns_me_code 10 _ z17 o_me_code (0 : Int32) z18 ez18) kw788 kw785 kw787 kw16 kw111 hd_X6_readTest ⟨rfl, rfl⟩ rfl rfl ⟨rfl, rfl⟩ hX hK hw [0, 1] (by decide) rfl rfl rfl rfl rfl hl.1 rfl rfl dX6_readClause_192) hw hA [0, 1] (by decide) rfl rfl (fun H locs hw => ?_)
      have hw : Wd dC dI A s.heap [wX6 h_me h_me_code q_me k_me z18.2.1, wX0 h_me_code nc_me_code ns_me_code q_me_code k_me_code z18.2.2] H locs := hw
      refine lv_if_ne (tgt := 200) hx hb dX6_readClause_195 (by decide) (fun c => ?_) (fun c => ?_)
      · have h := z_f h c
        exact bk_200_4  v1 z18.2.1 z18.2.2 _ _ _ h hw (lv_sub hl [0, 1] rfl)
      · have h := z_t h c
        refine lv_iconst (v := 0) hx hb dX6_readClause_198 (by decide) ?_
        have hy := Option.some.inj h
        rw [← hQz, ← hy]
        exact xr_i (v := (0 : Int32)) hx hb hr rfl hlk hK hw dX6_readClause_199
  have bk_155_5 : ∀ (o_me : Ob) (o_me_code : Ob) (H : Heap) (locs : List Loc) (ls : Array Slot), bk_X6_readClause_155 nc_me_code ns_me_code  o_me o_me_code = some y → Wd dC dI A s.heap [wX6 h_me h_me_code q_me k_me o_me, wX0 h_me_code nc_me_code ns_me_code q_me_code k_me_code o_me_code] H locs → lv_has ls 3 [(0, .ref h_me)] → W p l e ({ frames := 931, cells := 0, slots := 0, locals := 20713 } : Room) s m ([.ref h_me, .int p0] : List Value).toArray below meth c H locs 0 0 Qz (F0 m 155 ls []) := by
    intro o_me o_me_code H locs ls h hw hl
    unfold bk_X6_readClause_155 at h
    refine lv_aload_n hx hb dX6_readClause_155 rfl (lv_at hl 0 rfl) ?_
    obtain ⟨z21, ez21, h⟩ := z_bd h
    refine xj_i (xrV (As := []) (rest := []) ⟨hx, hb, hml, hown, hts⟩ (m_X6_stop l dC dI _ h_me h_me_code q_me k_me o_me z21 ez21) kw749 kw746 kw748 kw9 kw111 hd_X6_stop ⟨rfl, rfl⟩ rfl rfl ⟨rfl, rfl⟩ hX hK hw [0] (by decide) rfl rfl rfl rfl rfl hl.1 rfl rfl dX6_readClause_156) hw hA [0] (by decide) rfl rfl (fun H locs hw => ?_)
    have hw : Wd dC dI A s.heap [wX6 h_me h_me_code q_me k_me z21.2, wX0 h_me_code nc_me_code ns_me_code q_me_code k_me_code o_me_code] H locs := hw
    obtain ⟨g22, h⟩ := z_gd h
    have hy := Option.some.inj h
    rw [← hQz, ← hy]
    exact xr_i (v := z21.1) hx hb hr (z_nar g22) hlk hK hw dX6_readClause_159
  have bk_94_2 : ∀ (v1 : Int32) (o_me : Ob) (o_me_code : Ob) (H : Heap) (locs : List Loc) (ls : Array Slot), bk_X6_readClause_94 nc_me_code ns_me_code  v1 o_me o_me_code = some y → Wd dC dI A s.heap [wX6 h_me h_me_code q_me k_me o_me, wX0 h_me_code nc_me_code ns_me_code q_me_code k_me_code o_me_code] H locs → lv_has ls 3 [(0, .ref h_me), (1, .int v1)] → W p l e ({ frames := 931, cells := 0, slots := 0, locals := 20713 } : Room) s m ([.ref h_me, .int p0] : List Value).toArray below meth c H locs 0 0 Qz (F0 m 94 ls []) := by
    intro v1 o_me o_me_code H locs ls h hw hl
    unfold bk_X6_readClause_94 at h
    refine lv_aload_n hx hb dX6_readClause_94 rfl (lv_at hl 0 rfl) ?_
    refine fgX6_1 hx hb hts hown hK hw 0 rfl kw202 dX6_readClause_95 ?_
    refine fgX0_3 hx hb hts hown hK hw 1 rfl kw164 dX6_readClause_98 ?_
    refine lv_iload_n hx hb dX6_readClause_101 rfl (lv_at hl 1 rfl) ?_
    refine lv_aload_n hx hb dX6_readClause_102 rfl (lv_at hl 0 rfl) ?_
    refine fgX6_1 hx hb hts hown hK hw 0 rfl kw202 dX6_readClause_103 ?_
    refine fgX0_8 hx hb hts hown hK hw 1 rfl kw180 dX6_readClause_106 ?_
    obtain ⟨g11, h⟩ := z_gd h
    refine fbX0_3 hx hb hK hw 1 rfl rfl g11 dX6_readClause_109 (fun H locs hw => ?_)
    obtain ⟨o12, eo12, h⟩ := z_lt h
    have hw : Wd dC dI A s.heap [wX6 h_me h_me_code q_me k_me o_me, wX0 h_me_code nc_me_code ns_me_code q_me_code k_me_code o12] H locs := by rw [eo12]; exact hw
    refine lv_aload_n hx hb dX6_readClause_110 rfl (lv_at hl 0 rfl) ?_
    refine fgX6_4 hx hb hts hown hK hw 0 rfl kw208 dX6_readClause_111 ?_
    refine lv_if_ne (tgt := 177) hx hb dX6_readClause_114 (by decide) (fun c => ?_) (fun c => ?_)
    · have h := z_f h c
      exact bk_177_3  v1 o_me o12 _ _ _ h hw (lv_sub hl [0, 1] rfl)
    · have h := z_t h c
      refine lv_aload_n hx hb dX6_readClause_117 rfl (lv_at hl 0 rfl) ?_
      refine va_ldcS hx hb hown hX.2.2.2.2.2.2.2.2.1 dX6_readClause_118 ?_
      obtain ⟨z19, ez19, h⟩ := z_bd h
      refine xj_i (xrV (As := [.ref (dI 101 2)]) (rest := []) ⟨hx, hb, hml, hown, hts⟩ (m_X6_isWord l dC dI _ h_me h_me_code q_me k_me o_me 2 z19 ez19) kw783 kw780 kw782 kw15 kw111 hd_X6_isWord ⟨rfl, rfl⟩ rfl rfl ⟨rfl, rfl⟩ hX hK hw [0] (by decide) rfl rfl rfl rfl rfl hl.1 rfl rfl dX6_readClause_120) hw hA [0] (by decide) rfl rfl (fun H locs hw => ?_)
      have hw : Wd dC dI A s.heap [wX6 h_me h_me_code q_me k_me o_me, wX0 h_me_code nc_me_code ns_me_code q_me_code k_me_code o12] H locs := hw
      refine lv_if_eq (tgt := 177) hx hb dX6_readClause_123 (by decide) (fun c => ?_) (fun c => ?_)
      · have h := z_t h c
        exact bk_177_3  v1 o_me o12 _ _ _ h hw (lv_sub hl [0, 1] rfl)
      · have h := z_f h c
        refine lv_aload_n hx hb dX6_readClause_126 rfl (lv_at hl 0 rfl) ?_
        obtain ⟨z20, ez20, h⟩ := z_bd h
        refine xj_v (xrV (As := []) (rest := []) ⟨hx, hb, hml, hown, hts⟩ (m_X6_step l dC dI _ h_me h_me_code q_me k_me o_me z20 ez20) kw675 kw672 kw674 kw5 kw111 hd_X6_step ⟨rfl, rfl⟩ rfl rfl ⟨rfl, rfl⟩ hX hK hw [0] (by decide) rfl rfl rfl rfl rfl hl.1 rfl rfl dX6_readClause_127) hw hA [0] (by decide) rfl rfl (fun H locs hw => ?_)
        have hw : Wd dC dI A s.heap [wX6 h_me h_me_code q_me k_me z20, wX0 h_me_code nc_me_code ns_me_code q_me_code k_me_code o12] H locs := hw
        refine lv_aload_n hx hb dX6_readClause_130 rfl (lv_at hl 0 rfl) ?_
        refine fgX6_6 hx hb hts hown hK hw 0 rfl kw210 dX6_readClause_131 ?_
        refine lv_iconst (v := 2) hx hb dX6_readClause_134 (by decide) ?_
        refine lv_icmp_ne (tgt := 155) hx hb dX6_readClause_135 (by decide) (fun c => ?_) (fun c => ?_)
        · have h := z_f h c
          exact bk_155_5  z20 o12 _ _ _ h hw (lv_sub hl [0] rfl)
        · have h := z_t h c
          refine lv_aload_n hx hb dX6_readClause_138 rfl (lv_at hl 0 rfl) ?_
          refine fgX6_9 hx hb hts hown hK hw 0 rfl kw213 dX6_readClause_139 ?_
          refine lv_iconst (v := 1) hx hb dX6_readClause_142 (by decide) ?_
          refine lv_icmp_lt (tgt := 155) hx hb dX6_readClause_143 (by decide) (fun c => ?_) (fun c => ?_)
          · have h := z_t h c
            exact bk_155_5  z20 o12 _ _ _ h hw (lv_sub hl [0] rfl)
          · have h := z_f h c
            refine lv_aload_n hx hb dX6_readClause_146 rfl (lv_at hl 0 rfl) ?_
            refine fgX6_9 hx hb hts hown hK hw 0 rfl kw213 dX6_readClause_147 ?_
            refine lv_bipush (v := 20) hx hb dX6_readClause_150 (by decide) ?_
            refine lv_icmp_le (tgt := 160) hx hb dX6_readClause_152 (by decide) (fun c => ?_) (fun c => ?_)
            · have h := z_t h c
              refine lv_aload_n hx hb dX6_readClause_160 rfl (lv_at hl 0 rfl) ?_
              refine fgX6_1 hx hb hts hown hK hw 0 rfl kw202 dX6_readClause_161 ?_
              refine fgX0_1 hx hb hts hown hK hw 1 rfl kw156 dX6_readClause_164 ?_
              refine lv_iload_n hx hb dX6_readClause_167 rfl (lv_at hl 1 rfl) ?_
              refine lv_aload_n hx hb dX6_readClause_168 rfl (lv_at hl 0 rfl) ?_
              refine fgX6_9 hx hb hts hown hK hw 0 rfl kw213 dX6_readClause_169 ?_
              obtain ⟨g23, h⟩ := z_gd h
              refine fbX0_1 hx hb hK hw 1 rfl rfl g23 dX6_readClause_172 (fun H locs hw => ?_)
              obtain ⟨o24, eo24, h⟩ := z_lt h
              have hw : Wd dC dI A s.heap [wX6 h_me h_me_code q_me k_me z20, wX0 h_me_code nc_me_code ns_me_code q_me_code k_me_code o24] H locs := by rw [eo24]; exact hw
              refine lv_aload_n hx hb dX6_readClause_173 rfl (lv_at hl 0 rfl) ?_
              obtain ⟨z25, ez25, h⟩ := z_bd h
              refine xj_v (xrV (As := []) (rest := []) ⟨hx, hb, hml, hown, hts⟩ (m_X6_step l dC dI _ h_me h_me_code q_me k_me z20 z25 ez25) kw675 kw672 kw674 kw5 kw111 hd_X6_step ⟨rfl, rfl⟩ rfl rfl ⟨rfl, rfl⟩ hX hK hw [0] (by decide) rfl rfl rfl rfl rfl hl.1 rfl rfl dX6_readClause_174) hw hA [0] (by decide) rfl rfl (fun H locs hw => ?_)
              have hw : Wd dC dI A s.heap [wX6 h_me h_me_code q_me k_me z25, wX0 h_me_code nc_me_code ns_me_code q_me_code k_me_code o24] H locs := hw
              exact bk_177_3  v1 z25 o24 _ _ _ h hw (lv_sub hl [0, 1] rfl)
            · have h := z_f h c
              exact bk_155_5  z20 o12 _ _ _ h hw (lv_sub hl [0] rfl)
  have bk_15_0 : ∀ (v1 : Int32) (s0 : Nat) (o_me : Ob) (o_me_code : Ob) (H : Heap) (locs : List Loc) (ls : Array Slot), bk_X6_readClause_15 nc_me_code ns_me_code  v1 s0 o_me o_me_code = some y → Wd dC dI A s.heap [wX6 h_me h_me_code q_me k_me o_me, wX0 h_me_code nc_me_code ns_me_code q_me_code k_me_code o_me_code] H locs → lv_has ls 3 [(0, .ref h_me), (1, .int v1)] → W p l e ({ frames := 931, cells := 0, slots := 0, locals := 20713 } : Room) s m ([.ref h_me, .int p0] : List Value).toArray below meth c H locs 0 0 Qz (F0 m 15 ls [.ref (dI 101 s0), .ref h_me]) := by
    intro v1 s0 o_me o_me_code H locs ls h hw hl
    unfold bk_X6_readClause_15 at h
    obtain ⟨z1, ez1, h⟩ := z_bd h
    refine xj_i (xrV (As := [.ref (dI 101 s0)]) (rest := []) ⟨hx, hb, hml, hown, hts⟩ (m_X6_wordOf l dC dI _ h_me h_me_code q_me k_me o_me s0 z1 ez1) kw693 kw690 kw692 kw7 kw111 hd_X6_wordOf ⟨rfl, rfl⟩ rfl rfl ⟨rfl, rfl⟩ hX hK hw [0] (by decide) rfl rfl rfl rfl rfl hl.1 rfl rfl dX6_readClause_15) hw hA [0] (by decide) rfl rfl (fun H locs hw => ?_)
    have hw : Wd dC dI A s.heap [wX6 h_me h_me_code q_me k_me o_me, wX0 h_me_code nc_me_code ns_me_code q_me_code k_me_code o_me_code] H locs := hw
    refine lv_istore_n (lv' := [(2, .int z1), (0, .ref h_me), (1, .int v1)]) hx hb dX6_readClause_18 rfl hl (by decide) rfl (fun ls hl => ?_)
    refine lv_iload_n hx hb dX6_readClause_19 rfl (lv_at hl 0 rfl) ?_
    refine lv_iconst (v := (-1)) hx hb dX6_readClause_20 (by decide) ?_
    refine lv_icmp_eq (tgt := 34) hx hb dX6_readClause_21 (by decide) (fun c => ?_) (fun c => ?_)
    · have h := z_t h c
      exact bk_34_1  o_me o_me_code _ _ _ h hw (lv_sub hl [1] rfl)
    · have h := z_f h c
      refine lv_iload_n hx hb dX6_readClause_24 rfl (lv_at hl 2 rfl) ?_
      refine lv_if_lt (tgt := 34) hx hb dX6_readClause_25 (by decide) (fun c => ?_) (fun c => ?_)
      · have h := z_t h c
        exact bk_34_1  o_me o_me_code _ _ _ h hw (lv_sub hl [1] rfl)
      · have h := z_f h c
        refine lv_iload_n hx hb dX6_readClause_28 rfl (lv_at hl 2 rfl) ?_
        refine lv_bipush (v := 12) hx hb dX6_readClause_29 (by decide) ?_
        refine lv_icmp_lt (tgt := 39) hx hb dX6_readClause_31 (by decide) (fun c => ?_) (fun c => ?_)
        · have h := z_t h c
          refine lv_aload_n hx hb dX6_readClause_39 rfl (lv_at hl 1 rfl) ?_
          obtain ⟨z4, ez4, h⟩ := z_bd h
          refine xj_v (xrV (As := []) (rest := []) ⟨hx, hb, hml, hown, hts⟩ (m_X6_step l dC dI _ h_me h_me_code q_me k_me o_me z4 ez4) kw675 kw672 kw674 kw5 kw111 hd_X6_step ⟨rfl, rfl⟩ rfl rfl ⟨rfl, rfl⟩ hX hK hw [0] (by decide) rfl rfl rfl rfl rfl hl.1 rfl rfl dX6_readClause_40) hw hA [0] (by decide) rfl rfl (fun H locs hw => ?_)
          have hw : Wd dC dI A s.heap [wX6 h_me h_me_code q_me k_me z4, wX0 h_me_code nc_me_code ns_me_code q_me_code k_me_code o_me_code] H locs := hw
          refine lv_aload_n hx hb dX6_readClause_43 rfl (lv_at hl 1 rfl) ?_
          refine fgX6_1 hx hb hts hown hK hw 0 rfl kw202 dX6_readClause_44 ?_
          refine fgX0_0 hx hb hts hown hK hw 1 rfl kw153 dX6_readClause_47 ?_
          refine lv_iload_n hx hb dX6_readClause_50 rfl (lv_at hl 2 rfl) ?_
          refine lv_iload_n hx hb dX6_readClause_51 rfl (lv_at hl 0 rfl) ?_
          obtain ⟨g5, h⟩ := z_gd h
          refine fbX0_0 hx hb hK hw 1 rfl rfl g5 dX6_readClause_52 (fun H locs hw => ?_)
          obtain ⟨o6, eo6, h⟩ := z_lt h
          have hw : Wd dC dI A s.heap [wX6 h_me h_me_code q_me k_me z4, wX0 h_me_code nc_me_code ns_me_code q_me_code k_me_code o6] H locs := by rw [eo6]; exact hw
          refine lv_aload_n hx hb dX6_readClause_53 rfl (lv_at hl 1 rfl) ?_
          refine fgX6_1 hx hb hts hown hK hw 0 rfl kw202 dX6_readClause_54 ?_
          refine fgX0_1 hx hb hts hown hK hw 1 rfl kw156 dX6_readClause_57 ?_
          refine lv_iload_n hx hb dX6_readClause_60 rfl (lv_at hl 2 rfl) ?_
          refine lv_iconst (v := 1) hx hb dX6_readClause_61 (by decide) ?_
          obtain ⟨g7, h⟩ := z_gd h
          refine fbX0_1 hx hb hK hw 1 rfl rfl g7 dX6_readClause_62 (fun H locs hw => ?_)
          obtain ⟨o8, eo8, h⟩ := z_lt h
          have hw : Wd dC dI A s.heap [wX6 h_me h_me_code q_me k_me z4, wX0 h_me_code nc_me_code ns_me_code q_me_code k_me_code o8] H locs := by rw [eo8]; exact hw
          refine lv_aload_n hx hb dX6_readClause_63 rfl (lv_at hl 1 rfl) ?_
          refine fgX6_1 hx hb hts hown hK hw 0 rfl kw202 dX6_readClause_64 ?_
          refine fgX0_2 hx hb hts hown hK hw 1 rfl kw160 dX6_readClause_67 ?_
          refine lv_iload_n hx hb dX6_readClause_70 rfl (lv_at hl 2 rfl) ?_
          refine lv_aload_n hx hb dX6_readClause_71 rfl (lv_at hl 1 rfl) ?_
          refine fgX6_1 hx hb hts hown hK hw 0 rfl kw202 dX6_readClause_72 ?_
          refine fgX0_8 hx hb hts hown hK hw 1 rfl kw180 dX6_readClause_75 ?_
          obtain ⟨g9, h⟩ := z_gd h
          refine fbX0_2 hx hb hK hw 1 rfl rfl g9 dX6_readClause_78 (fun H locs hw => ?_)
          obtain ⟨o10, eo10, h⟩ := z_lt h
          have hw : Wd dC dI A s.heap [wX6 h_me h_me_code q_me k_me z4, wX0 h_me_code nc_me_code ns_me_code q_me_code k_me_code o10] H locs := by rw [eo10]; exact hw
          refine lv_iload_n hx hb dX6_readClause_79 rfl (lv_at hl 0 rfl) ?_
          refine lv_iconst (v := 3) hx hb dX6_readClause_80 (by decide) ?_
          refine lv_icmp_eq (tgt := 94) hx hb dX6_readClause_81 (by decide) (fun c => ?_) (fun c => ?_)
          · have h := z_t h c
            exact bk_94_2  v1 z4 o10 _ _ _ h hw (lv_sub hl [1, 2] rfl)
          · have h := z_f h c
            refine lv_aload_n hx hb dX6_readClause_84 rfl (lv_at hl 1 rfl) ?_
            refine lv_iconst (v := 0) hx hb dX6_readClause_85 (by decide) ?_
            obtain ⟨z26, ez26, h⟩ := z_bd h
            refine xj_i (xrV (As := [.int (0 : Int32)]) (rest := []) ⟨hx, hb, hml, hown, hts⟩ (mx_X6_readSum l dC dI h_me h_me_code q_me k_me q_me_code k_me_code nc_me_code ns_me_code 10 _ z4 o10 (0 : Int32) z26 ez26) kw753 kw750 kw752 kw10 kw111 hd_X6_readSum ⟨rfl, rfl⟩ rfl rfl ⟨rfl, rfl⟩ hX hK hw [0, 1] (by decide) rfl rfl rfl rfl rfl hl.1 rfl rfl dX6_readClause_86) hw hA [0, 1] (by decide) rfl rfl (fun H locs hw => ?_)
            have hw : Wd dC dI A s.heap [wX6 h_me h_me_code q_me k_me z26.2.1, wX0 h_me_code nc_me_code ns_me_code q_me_code k_me_code z26.2.2] H locs := hw
            refine lv_if_ne (tgt := 94) hx hb dX6_readClause_89 (by decide) (fun c => ?_) (fun c => ?_)
            · have h := z_f h c
              exact bk_94_2  v1 z26.2.1 z26.2.2 _ _ _ h hw (lv_sub hl [1, 2] rfl)
            · have h := z_t h c
              refine lv_iconst (v := 0) hx hb dX6_readClause_92 (by decide) ?_
              have hy := Option.some.inj h
              rw [← hQz, ← hy]
              exact xr_i (v := (0 : Int32)) hx hb hr rfl hlk hK hw dX6_readClause_93
        · have h := z_f h c
          exact bk_34_1  o_me o_me_code _ _ _ h hw (lv_sub hl [1] rfl)
  unfold f_X6_readClause at h
  refine lv_aload_n hx hb dX6_readClause_0 rfl (lv_at hl 0 rfl) ?_
  refine lv_aload_n hx hb dX6_readClause_1 rfl (lv_at hl 0 rfl) ?_
  refine fgX6_4 hx hb hts hown hK hw 0 rfl kw208 dX6_readClause_2 ?_
  refine lv_if_eq (tgt := 13) hx hb dX6_readClause_5 (by decide) (fun c => ?_) (fun c => ?_)
  · have h := z_t h c
    refine va_ldcS hx hb hown hX.2.2.2.2.2.2.2.1 dX6_readClause_13 ?_
    exact bk_15_0  p0 1 o_me o_me_code _ _ _ h hw (lv_sub hl [0, 1] rfl)
  · have h := z_f h c
    refine va_ldcS hx hb hown hX.2.2.2.2.2.2.1 dX6_readClause_8 ?_
    refine lv_goto (tgt := 15) hx hb dX6_readClause_10 (by decide) ?_
    exact bk_15_0  p0 0 o_me o_me_code _ _ _ h hw (lv_sub hl [0, 1] rfl)

def lb_X6_readText_33 (nc_me_code : Nat) (ns_me_code : Nat)  (rec_33_0 : Int32 × Ob × Ob → Option (Int32 × Ob × Ob)) (v2 : Int32) (o_me : Ob) (o_me_code : Ob) : Option (Int32 × Ob × Ob) :=
  if (12 : Int32) ≤ v2 then
  ((f_X6_stop o_me).bind fun z8 =>
  zgd (zbo z8.1) <|
  some (z8.1, z8.2, o_me_code))
  else
  ((f_X6_readClause nc_me_code ns_me_code o_me o_me_code v2).bind fun z10 =>
  if z10.1 = (0 : Int32) then
  (some ((0 : Int32), z10.2.1, z10.2.2))
  else
  (if (gI z10.2.1 6) = (0 : Int32) then
  (some ((1 : Int32), z10.2.1, z10.2.2))
  else
  ((f_X6_isSign z10.2.1 (59 : Int32)).bind fun z11 =>
  if z11 = (0 : Int32) then
  ((f_X6_stop z10.2.1).bind fun z14 =>
  zgd (zbo z14.1) <|
  some (z14.1, z14.2, z10.2.2))
  else
  ((f_X6_step z10.2.1).bind fun z12 =>
  zlt (v2 + (1 : Int32)) fun x13 =>
  rec_33_0 (x13, z12, z10.2.2)))))
def lp_X6_readText_33 (nc_me_code : Nat) (ns_me_code : Nat)  : Nat → (Int32 × Ob × Ob) → Option (Int32 × Ob × Ob) := zit (fun rec a => lb_X6_readText_33 nc_me_code ns_me_code  rec a.1 a.2.1 a.2.2)
def f_X6_readText (nc_me_code : Nat) (ns_me_code : Nat) (o_me : Ob) (o_me_code : Ob) (p0 : Int32) : Option (Int32 × Ob × Ob) :=
  zgd (zbo p0) <|
  zlt (sI o_me 4 p0) fun o2 =>
  (f_X0_clear nc_me_code ns_me_code o_me_code).bind fun z3 =>
  zlt (sI o2 5 (0 : Int32)) fun o4 =>
  zlt (sI o4 3 (-1 : Int32)) fun o5 =>
  zlt (sI o5 8 (0 : Int32)) fun o6 =>
  (f_X6_step o6).bind fun z7 =>
  lp_X6_readText_33 nc_me_code ns_me_code  zfu ((0 : Int32), z7, z3)
set_option maxHeartbeats 4000000 in
set_option maxRecDepth 100000 in
theorem m_X6_readText (l : Launch) (dC : Nat → ClassId) (dI : Nat → Nat → Nat) (sz : Nat) (h_me : Nat) (h_me_code : Nat) (q_me : Nat → Nat) (k_me : Nat → ClassId) (q_me_code : Nat → Nat) (k_me_code : Nat → ClassId) (nc_me_code : Nat) (ns_me_code : Nat) (o_me : Ob) (o_me_code : Ob) (p0 : Int32) (y : Int32 × Ob × Ob) (h : f_X6_readText nc_me_code ns_me_code o_me o_me_code p0 = some y) : CI l yX6_readText cX6_readText 3 (some .boolean) ({ frames := 932, cells := 0, slots := 0, locals := 20735 } : Room) dC dI sz [.ref h_me, .int p0] [wX6 h_me h_me_code q_me k_me o_me, wX0 h_me_code nc_me_code ns_me_code q_me_code k_me_code o_me_code] [tX6 k_me, tX0 k_me_code] y.1 [wX6 h_me h_me_code q_me k_me y.2.1, wX0 h_me_code nc_me_code ns_me_code q_me_code k_me_code y.2.2] := by
  refine CC_of (by decide) (Nat.le_of_ble_eq_true rfl) ?_
  intro p e s m below meth c A ls hx hb hml hr hlk hnm hown hts hX hK hP hD hA hl
  have hl : lv_has ls 3 [(0, .ref h_me), (1, .int p0)] := hl
  have hown : s.vm.findClass RX6 = some m.cls := hown
  have hw : Wd dC dI A s.heap [wX6 h_me h_me_code q_me k_me o_me, wX0 h_me_code nc_me_code ns_me_code q_me_code k_me_code o_me_code] s.heap [] := ⟨hP, hD, va_S.rf⟩
  generalize hQz : (MQ below (QI dC dI (fun r (_ : Unit) => r = y.1) (fun _ => Jn [wX6 h_me h_me_code q_me k_me y.2.1, wX0 h_me_code nc_me_code ns_me_code q_me_code k_me_code y.2.2]) (fun _ => Jt [tX6 k_me, tX0 k_me_code]) A) ([.ref h_me, .int p0] : List Value).toArray s 0 0 A) = Qz
  clear hP hD hnm
  have lp_33_0 : ∀ (N : Nat), ∀ (v2 : Int32) (o_me : Ob) (o_me_code : Ob) (H : Heap) (locs : List Loc) (ls : Array Slot), lp_X6_readText_33 nc_me_code ns_me_code  N (v2, o_me, o_me_code) = some y → Wd dC dI A s.heap [wX6 h_me h_me_code q_me k_me o_me, wX0 h_me_code nc_me_code ns_me_code q_me_code k_me_code o_me_code] H locs → lv_has ls 3 [(0, .ref h_me), (2, .int v2)] → W p l e ({ frames := 932, cells := 0, slots := 0, locals := 20735 } : Room) s m ([.ref h_me, .int p0] : List Value).toArray below meth c H locs 0 0 Qz (F0 m 33 ls []) := by
    intro N
    induction N with
    | zero =>
      intro v2 o_me o_me_code H locs ls h hw hl
      exact absurd (show (none : Option (Int32 × Ob × Ob)) = some y from h) (by simp)
    | succ N ih =>
      intro v2 o_me o_me_code H locs ls h hw hl
      have h : lb_X6_readText_33 nc_me_code ns_me_code  (lp_X6_readText_33 nc_me_code ns_me_code  N) v2 o_me o_me_code = some y := h
      unfold lb_X6_readText_33 at h
      refine lv_iload_n hx hb dX6_readText_33 rfl (lv_at hl 1 rfl) ?_
      refine lv_bipush (v := 12) hx hb dX6_readText_34 (by decide) ?_
      refine lv_icmp_ge (tgt := 82) hx hb dX6_readText_36 (by decide) (fun c => ?_) (fun c => ?_)
      · have h := z_t h c
        refine lv_aload_n hx hb dX6_readText_82 rfl (lv_at hl 0 rfl) ?_
        obtain ⟨z8, ez8, h⟩ := z_bd h
        refine xj_i (xrV (As := []) (rest := []) ⟨hx, hb, hml, hown, hts⟩ (m_X6_stop l dC dI _ h_me h_me_code q_me k_me o_me z8 ez8) kw749 kw746 kw748 kw9 kw111 hd_X6_stop ⟨rfl, rfl⟩ rfl rfl ⟨rfl, rfl⟩ hX hK hw [0] (by decide) rfl rfl rfl rfl rfl hl.1 rfl rfl dX6_readText_83) hw hA [0] (by decide) rfl rfl (fun H locs hw => ?_)
        have hw : Wd dC dI A s.heap [wX6 h_me h_me_code q_me k_me z8.2, wX0 h_me_code nc_me_code ns_me_code q_me_code k_me_code o_me_code] H locs := hw
        obtain ⟨g9, h⟩ := z_gd h
        have hy := Option.some.inj h
        rw [← hQz, ← hy]
        exact xr_i (v := z8.1) hx hb hr (z_nar g9) hlk hK hw dX6_readText_86
      · have h := z_f h c
        refine lv_aload_n hx hb dX6_readText_39 rfl (lv_at hl 0 rfl) ?_
        refine lv_iload_n hx hb dX6_readText_40 rfl (lv_at hl 1 rfl) ?_
        obtain ⟨z10, ez10, h⟩ := z_bd h
        refine xj_i (xrV (As := [.int v2]) (rest := []) ⟨hx, hb, hml, hown, hts⟩ (m_X6_readClause l dC dI _ h_me h_me_code q_me k_me q_me_code k_me_code nc_me_code ns_me_code o_me o_me_code v2 z10 ez10) kw687 kw684 kw686 kw6 kw111 hd_X6_readClause ⟨rfl, rfl⟩ rfl rfl ⟨rfl, rfl⟩ hX hK hw [0, 1] (by decide) rfl rfl rfl rfl rfl hl.1 rfl rfl dX6_readText_41) hw hA [0, 1] (by decide) rfl rfl (fun H locs hw => ?_)
        have hw : Wd dC dI A s.heap [wX6 h_me h_me_code q_me k_me z10.2.1, wX0 h_me_code nc_me_code ns_me_code q_me_code k_me_code z10.2.2] H locs := hw
        refine lv_if_ne (tgt := 49) hx hb dX6_readText_44 (by decide) (fun c => ?_) (fun c => ?_)
        · have h := z_f h c
          refine lv_aload_n hx hb dX6_readText_49 rfl (lv_at hl 0 rfl) ?_
          refine fgX6_6 hx hb hts hown hK hw 0 rfl kw210 dX6_readText_50 ?_
          refine lv_if_ne (tgt := 58) hx hb dX6_readText_53 (by decide) (fun c => ?_) (fun c => ?_)
          · have h := z_f h c
            refine lv_aload_n hx hb dX6_readText_58 rfl (lv_at hl 0 rfl) ?_
            refine lv_bipush (v := 59) hx hb dX6_readText_59 (by decide) ?_
            obtain ⟨z11, ez11, h⟩ := z_bd h
            refine xj_i (xrV (As := [.int (59 : Int32)]) (rest := []) ⟨hx, hb, hml, hown, hts⟩ (m_X6_isSign l dC dI _ h_me h_me_code q_me k_me z10.2.1 (59 : Int32) z11 ez11) kw765 kw762 kw764 kw13 kw111 hd_X6_isSign ⟨rfl, rfl⟩ rfl rfl ⟨rfl, rfl⟩ hX hK hw [0] (by decide) rfl rfl rfl rfl rfl hl.1 rfl rfl dX6_readText_61) hw hA [0] (by decide) rfl rfl (fun H locs hw => ?_)
            have hw : Wd dC dI A s.heap [wX6 h_me h_me_code q_me k_me z10.2.1, wX0 h_me_code nc_me_code ns_me_code q_me_code k_me_code z10.2.2] H locs := hw
            refine lv_if_ne (tgt := 72) hx hb dX6_readText_64 (by decide) (fun c => ?_) (fun c => ?_)
            · have h := z_f h c
              refine lv_aload_n hx hb dX6_readText_72 rfl (lv_at hl 0 rfl) ?_
              obtain ⟨z12, ez12, h⟩ := z_bd h
              refine xj_v (xrV (As := []) (rest := []) ⟨hx, hb, hml, hown, hts⟩ (m_X6_step l dC dI _ h_me h_me_code q_me k_me z10.2.1 z12 ez12) kw675 kw672 kw674 kw5 kw111 hd_X6_step ⟨rfl, rfl⟩ rfl rfl ⟨rfl, rfl⟩ hX hK hw [0] (by decide) rfl rfl rfl rfl rfl hl.1 rfl rfl dX6_readText_73) hw hA [0] (by decide) rfl rfl (fun H locs hw => ?_)
              have hw : Wd dC dI A s.heap [wX6 h_me h_me_code q_me k_me z12, wX0 h_me_code nc_me_code ns_me_code q_me_code k_me_code z10.2.2] H locs := hw
              obtain ⟨x13, ex13, h⟩ := z_lt h
              refine lv_iinc (v := x13) (lv' := [(2, .int x13), (0, .ref h_me)]) hx hb dX6_readText_76 hl (k := 1) rfl ((congrArg (v2 + ·) (show Int32.ofInt 1 = (1 : Int32) from by decide)).trans ex13.symm) (by decide) rfl (fun ls hl => ?_)
              refine lv_goto (tgt := 33) hx hb dX6_readText_79 (by decide) ?_
              exact ih x13 z12 z10.2.2 _ _ _ h hw (lv_sub hl [1, 0] rfl)
            · have h := z_t h c
              refine lv_aload_n hx hb dX6_readText_67 rfl (lv_at hl 0 rfl) ?_
              obtain ⟨z14, ez14, h⟩ := z_bd h
              refine xj_i (xrV (As := []) (rest := []) ⟨hx, hb, hml, hown, hts⟩ (m_X6_stop l dC dI _ h_me h_me_code q_me k_me z10.2.1 z14 ez14) kw749 kw746 kw748 kw9 kw111 hd_X6_stop ⟨rfl, rfl⟩ rfl rfl ⟨rfl, rfl⟩ hX hK hw [0] (by decide) rfl rfl rfl rfl rfl hl.1 rfl rfl dX6_readText_68) hw hA [0] (by decide) rfl rfl (fun H locs hw => ?_)
              have hw : Wd dC dI A s.heap [wX6 h_me h_me_code q_me k_me z14.2, wX0 h_me_code nc_me_code ns_me_code q_me_code k_me_code z10.2.2] H locs := hw
              obtain ⟨g15, h⟩ := z_gd h
              have hy := Option.some.inj h
              rw [← hQz, ← hy]
              exact xr_i (v := z14.1) hx hb hr (z_nar g15) hlk hK hw dX6_readText_71
          · have h := z_t h c
            refine lv_iconst (v := 1) hx hb dX6_readText_56 (by decide) ?_
            have hy := Option.some.inj h
            rw [← hQz, ← hy]
            exact xr_i (v := (1 : Int32)) hx hb hr rfl hlk hK hw dX6_readText_57
        · have h := z_t h c
          refine lv_iconst (v := 0) hx hb dX6_readText_47 (by decide) ?_
          have hy := Option.some.inj h
          rw [← hQz, ← hy]
          exact xr_i (v := (0 : Int32)) hx hb hr rfl hlk hK hw dX6_readText_48
  unfold f_X6_readText at h
  refine lv_aload_n hx hb dX6_readText_0 rfl (lv_at hl 0 rfl) ?_
  refine lv_iload_n hx hb dX6_readText_1 rfl (lv_at hl 1 rfl) ?_
  obtain ⟨g1, h⟩ := z_gd h
  refine fpX6_4 hx hb hts hown hK hw 0 rfl kw208 g1 dX6_readText_2 (fun H locs hw => ?_)
  obtain ⟨o2, eo2, h⟩ := z_lt h
  have hw : Wd dC dI A s.heap [wX6 h_me h_me_code q_me k_me o2, wX0 h_me_code nc_me_code ns_me_code q_me_code k_me_code o_me_code] H locs := by rw [eo2]; exact hw
  refine lv_aload_n hx hb dX6_readText_5 rfl (lv_at hl 0 rfl) ?_
  refine fgX6_1 hx hb hts hown hK hw 0 rfl kw202 dX6_readText_6 ?_
  obtain ⟨z3, ez3, h⟩ := z_bd h
  refine xj_v (xrV (As := []) (rest := []) ⟨hx, hb, hml, hown, hts⟩ (m_X0_clear l dC dI _ h_me_code q_me_code k_me_code nc_me_code ns_me_code o_me_code z3 ez3) kw671 kw668 kw669 kw670 kw112 hd_X0_clear ⟨rfl, rfl⟩ rfl rfl ⟨rfl, rfl⟩ hX hK hw [1] (by decide) rfl rfl rfl rfl rfl hl.1 rfl rfl dX6_readText_9) hw hA [1] (by decide) rfl rfl (fun H locs hw => ?_)
  have hw : Wd dC dI A s.heap [wX6 h_me h_me_code q_me k_me o2, wX0 h_me_code nc_me_code ns_me_code q_me_code k_me_code z3] H locs := hw
  refine lv_aload_n hx hb dX6_readText_12 rfl (lv_at hl 0 rfl) ?_
  refine lv_iconst (v := 0) hx hb dX6_readText_13 (by decide) ?_
  refine fpX6_5 hx hb hts hown hK hw 0 rfl kw209 dX6_readText_14 (fun H locs hw => ?_)
  obtain ⟨o4, eo4, h⟩ := z_lt h
  have hw : Wd dC dI A s.heap [wX6 h_me h_me_code q_me k_me o4, wX0 h_me_code nc_me_code ns_me_code q_me_code k_me_code z3] H locs := by rw [eo4]; exact hw
  refine lv_aload_n hx hb dX6_readText_17 rfl (lv_at hl 0 rfl) ?_
  refine lv_iconst (v := (-1)) hx hb dX6_readText_18 (by decide) ?_
  refine fpX6_3 hx hb hts hown hK hw 0 rfl kw206 dX6_readText_19 (fun H locs hw => ?_)
  obtain ⟨o5, eo5, h⟩ := z_lt h
  have hw : Wd dC dI A s.heap [wX6 h_me h_me_code q_me k_me o5, wX0 h_me_code nc_me_code ns_me_code q_me_code k_me_code z3] H locs := by rw [eo5]; exact hw
  refine lv_aload_n hx hb dX6_readText_22 rfl (lv_at hl 0 rfl) ?_
  refine lv_iconst (v := 0) hx hb dX6_readText_23 (by decide) ?_
  refine fpX6_8 hx hb hts hown hK hw 0 rfl kw212 dX6_readText_24 (fun H locs hw => ?_)
  obtain ⟨o6, eo6, h⟩ := z_lt h
  have hw : Wd dC dI A s.heap [wX6 h_me h_me_code q_me k_me o6, wX0 h_me_code nc_me_code ns_me_code q_me_code k_me_code z3] H locs := by rw [eo6]; exact hw
  refine lv_aload_n hx hb dX6_readText_27 rfl (lv_at hl 0 rfl) ?_
  obtain ⟨z7, ez7, h⟩ := z_bd h
  refine xj_v (xrV (As := []) (rest := []) ⟨hx, hb, hml, hown, hts⟩ (m_X6_step l dC dI _ h_me h_me_code q_me k_me o6 z7 ez7) kw675 kw672 kw674 kw5 kw111 hd_X6_step ⟨rfl, rfl⟩ rfl rfl ⟨rfl, rfl⟩ hX hK hw [0] (by decide) rfl rfl rfl rfl rfl hl.1 rfl rfl dX6_readText_28) hw hA [0] (by decide) rfl rfl (fun H locs hw => ?_)
  have hw : Wd dC dI A s.heap [wX6 h_me h_me_code q_me k_me z7, wX0 h_me_code nc_me_code ns_me_code q_me_code k_me_code z3] H locs := hw
  refine lv_iconst (v := 0) hx hb dX6_readText_31 (by decide) ?_
  refine lv_istore_n (lv' := [(2, .int (0 : Int32)), (0, .ref h_me), (1, .int p0)]) hx hb dX6_readText_32 rfl hl (by decide) rfl (fun ls hl => ?_)
  exact lp_33_0  zfu (0 : Int32) z7 z3 _ _ _ h hw (lv_sub hl [1, 0] rfl)

def f_X5_set_O (o_me : Ob) (o_a0 : Ob) : Option (Ob) :=
  zlt (sI o_me 2 (gI o_a0 2)) fun o1 =>
  zlt (sI o1 3 (gI o_a0 3)) fun o2 =>
  zgd (zcp (0 : Int32) (0 : Int32) (16 : Int32) 16 16) <|
  zlt (cA o2 0 (gA o_a0 0) (0 : Int32) (0 : Int32) (16 : Int32)) fun o4 =>
  zgd (zcp (0 : Int32) (0 : Int32) (272 : Int32) 272 272) <|
  zlt (cA o4 1 (gA o_a0 1) (0 : Int32) (0 : Int32) (272 : Int32)) fun o6 =>
  some o6
set_option maxHeartbeats 4000000 in
set_option maxRecDepth 100000 in
theorem m_X5_set_O (l : Launch) (dC : Nat → ClassId) (dI : Nat → Nat → Nat) (sz : Nat) (h_me : Nat) (h_a0 : Nat) (q_me : Nat → Nat) (k_me : Nat → ClassId) (q_a0 : Nat → Nat) (k_a0 : Nat → ClassId) (o_me : Ob) (o_a0 : Ob) (y : Ob) (h : f_X5_set_O o_me o_a0 = some y) : CV l yX5_set cX5_set 2 none ({ frames := 1, cells := 0, slots := 0, locals := 60 } : Room) dC dI sz [.ref h_me, .ref h_a0] [wX5 h_me q_me k_me o_me, wX5 h_a0 q_a0 k_a0 o_a0] [tX5 k_me, tX5 k_a0] [wX5 h_me q_me k_me y, wX5 h_a0 q_a0 k_a0 o_a0] := by
  refine CC_of (by decide) (Nat.le_of_ble_eq_true rfl) ?_
  intro p e s m below meth c A ls hx hb hml hr hlk hnm hown hts hX hK hP hD hA hl
  have hl : lv_has ls 2 [(0, .ref h_me), (1, .ref h_a0)] := hl
  have hown : s.vm.findClass RX5 = some m.cls := hown
  have hw : Wd dC dI A s.heap [wX5 h_me q_me k_me o_me, wX5 h_a0 q_a0 k_a0 o_a0] s.heap [] := ⟨hP, hD, va_S.rf⟩
  generalize hQz : (MQ below (QV dC dI (fun (_ : Unit) => True) (fun _ => Jn [wX5 h_me q_me k_me y, wX5 h_a0 q_a0 k_a0 o_a0]) (fun _ => Jt [tX5 k_me, tX5 k_a0]) A) ([.ref h_me, .ref h_a0] : List Value).toArray s 0 0 A) = Qz
  clear hP hD hnm
  unfold f_X5_set_O at h
  refine lv_aload_n hx hb dX5_set_0 rfl (lv_at hl 0 rfl) ?_
  refine lv_aload_n hx hb dX5_set_1 rfl (lv_at hl 1 rfl) ?_
  refine fgX5_2 hx hb hts hown hK hw 1 rfl kw428 dX5_set_2 ?_
  refine fpX5_2 hx hb hts hown hK hw 0 rfl kw428 dX5_set_5 (fun H locs hw => ?_)
  obtain ⟨o1, eo1, h⟩ := z_lt h
  have hw : Wd dC dI A s.heap [wX5 h_me q_me k_me o1, wX5 h_a0 q_a0 k_a0 o_a0] H locs := by rw [eo1]; exact hw
  refine lv_aload_n hx hb dX5_set_8 rfl (lv_at hl 0 rfl) ?_
  refine lv_aload_n hx hb dX5_set_9 rfl (lv_at hl 1 rfl) ?_
  refine fgX5_3 hx hb hts hown hK hw 1 rfl kw429 dX5_set_10 ?_
  refine fpX5_3 hx hb hts hown hK hw 0 rfl kw429 dX5_set_13 (fun H locs hw => ?_)
  obtain ⟨o2, eo2, h⟩ := z_lt h
  have hw : Wd dC dI A s.heap [wX5 h_me q_me k_me o2, wX5 h_a0 q_a0 k_a0 o_a0] H locs := by rw [eo2]; exact hw
  refine lv_aload_n hx hb dX5_set_16 rfl (lv_at hl 1 rfl) ?_
  refine fgX5_0 hx hb hts hown hK hw 1 rfl kw426 dX5_set_17 ?_
  refine lv_iconst (v := 0) hx hb dX5_set_20 (by decide) ?_
  refine lv_aload_n hx hb dX5_set_21 rfl (lv_at hl 0 rfl) ?_
  refine fgX5_0 hx hb hts hown hK hw 0 rfl kw426 dX5_set_22 ?_
  refine lv_iconst (v := 0) hx hb dX5_set_25 (by decide) ?_
  refine lv_bipush (v := 16) hx hb dX5_set_26 (by decide) ?_
  obtain ⟨g3, h⟩ := z_gd h
  refine xcopy (n0 := 1) (j0 := 1) (u0 := 0) (n1 := 0) (j1 := 1) (u1 := 0) hx hb (hml.trans hl.1.symm) hown hts kw831 kw812 kw811 kw125 hK hw rfl rfl rfl rfl rfl rfl rfl rfl g3 (Nat.le_of_ble_eq_true rfl) (Nat.le_of_ble_eq_true rfl) dX5_set_28 (fun H locs hw => ?_)
  obtain ⟨o4, eo4, h⟩ := z_lt h
  have hw : Wd dC dI A s.heap [wX5 h_me q_me k_me o4, wX5 h_a0 q_a0 k_a0 o_a0] H locs := by rw [eo4]; exact hw
  refine lv_aload_n hx hb dX5_set_31 rfl (lv_at hl 1 rfl) ?_
  refine fgX5_1 hx hb hts hown hK hw 1 rfl kw427 dX5_set_32 ?_
  refine lv_iconst (v := 0) hx hb dX5_set_35 (by decide) ?_
  refine lv_aload_n hx hb dX5_set_36 rfl (lv_at hl 0 rfl) ?_
  refine fgX5_1 hx hb hts hown hK hw 0 rfl kw427 dX5_set_37 ?_
  refine lv_iconst (v := 0) hx hb dX5_set_40 (by decide) ?_
  refine lv_sipush (v := 272) hx hb dX5_set_41 (by decide) ?_
  obtain ⟨g5, h⟩ := z_gd h
  refine xcopy (n0 := 1) (j0 := 2) (u0 := 1) (n1 := 0) (j1 := 2) (u1 := 1) hx hb (hml.trans hl.1.symm) hown hts kw831 kw812 kw811 kw125 hK hw rfl rfl rfl rfl rfl rfl rfl rfl g5 (Nat.le_of_ble_eq_true rfl) (Nat.le_of_ble_eq_true rfl) dX5_set_44 (fun H locs hw => ?_)
  obtain ⟨o6, eo6, h⟩ := z_lt h
  have hw : Wd dC dI A s.heap [wX5 h_me q_me k_me o6, wX5 h_a0 q_a0 k_a0 o_a0] H locs := by rw [eo6]; exact hw
  have hy := Option.some.inj h
  rw [← hQz, ← hy]
  exact xr_v hx hb hr hlk hK hw dX5_set_47

def bk_X3_setOrderWords_O_130 (o_a0 : Ob) (o_a0_now : Ob) (rec_59_0 : Int32 × Ob → Option (Ob)) (v4 : Int32) (s0 : Int32) (s1 : Int32) (o_me : Ob) : Option (Ob) :=
  zgd (zin s1 19) <|
  zlt (tA o_me 0 s1.toNatClampNeg s0) fun o12 =>
  zlt (v4 + (1 : Int32)) fun x13 =>
  rec_59_0 (x13, o12)
def bk_X3_setOrderWords_O_97 (o_a0 : Ob) (o_a0_now : Ob) (rec_59_0 : Int32 × Ob → Option (Ob)) (v4 : Int32) (s0 : Int32) (s1 : Int32) (o_me : Ob) : Option (Ob) :=
  zgd (zin s1 19) <|
  zlt (tA o_me 0 s1.toNatClampNeg s0) fun o9 =>
  (f_X2_isPerson o_a0 v4).bind fun z10 =>
  if z10 = (0 : Int32) then
  (bk_X3_setOrderWords_O_130 o_a0 o_a0_now rec_59_0 v4 (-1 : Int32) ((12 : Int32) + v4) o9)
  else
  (zgd (zin v4 7) <|
  bk_X3_setOrderWords_O_130 o_a0 o_a0_now rec_59_0 v4 (gA o_a0_now 0 v4.toNatClampNeg) ((12 : Int32) + v4) o9)
def lb_X3_setOrderWords_O_59 (o_a0 : Ob) (o_a0_now : Ob)  (rec_59_0 : Int32 × Ob → Option (Ob)) (v4 : Int32) (o_me : Ob) : Option (Ob) :=
  if (7 : Int32) ≤ v4 then
  (some o_me)
  else
  ((f_X2_isPerson o_a0 v4).bind fun z7 =>
  if z7 = (0 : Int32) then
  (bk_X3_setOrderWords_O_97 o_a0 o_a0_now rec_59_0 v4 (-1 : Int32) ((5 : Int32) + v4) o_me)
  else
  (zgd (zin v4 7) <|
  bk_X3_setOrderWords_O_97 o_a0 o_a0_now rec_59_0 v4 (gA o_a0_now 1 v4.toNatClampNeg) ((5 : Int32) + v4) o_me))
def lp_X3_setOrderWords_O_59 (o_a0 : Ob) (o_a0_now : Ob)  : Nat → (Int32 × Ob) → Option (Ob) := zit (fun rec a => lb_X3_setOrderWords_O_59 o_a0 o_a0_now  rec a.1 a.2)
def f_X3_setOrderWords_O (o_me : Ob) (o_a0 : Ob) (o_a0_now : Ob) (p1 : Int32) (p2 : Int32) : Option (Ob) :=
  zlt (tA o_me 0 (0 : Int32).toNatClampNeg (gI o_a0_now 4)) fun o1 =>
  zlt (tA o1 0 (1 : Int32).toNatClampNeg p1) fun o2 =>
  zlt (tA o2 0 (2 : Int32).toNatClampNeg p2) fun o3 =>
  zlt (tA o3 0 (3 : Int32).toNatClampNeg (gI o_a0_now 3)) fun o4 =>
  (f_J6_bitCount_0f7a4 (gI o_a0_now 2)).bind fun z5 =>
  zlt (tA o4 0 (4 : Int32).toNatClampNeg z5) fun o6 =>
  lp_X3_setOrderWords_O_59 o_a0 o_a0_now  zfu ((0 : Int32), o6)
set_option maxHeartbeats 4000000 in
set_option maxRecDepth 100000 in
theorem m_X3_setOrderWords_O (l : Launch) (dC : Nat → ClassId) (dI : Nat → Nat → Nat) (sz : Nat) (h_me : Nat) (h_a0 : Nat) (h_a0_now : Nat) (q_me : Nat → Nat) (k_me : Nat → ClassId) (q_a0 : Nat → Nat) (k_a0 : Nat → ClassId) (q_a0_now : Nat → Nat) (k_a0_now : Nat → ClassId) (o_me : Ob) (o_a0 : Ob) (o_a0_now : Ob) (p1 : Int32) (p2 : Int32) (y : Ob) (h : f_X3_setOrderWords_O o_me o_a0 o_a0_now p1 p2 = some y) : CV l yX3_setOrderWords cX3_setOrderWords 5 none ({ frames := 1, cells := 0, slots := 0, locals := 21 } : Room) dC dI sz [.ref h_me, .ref h_a0, .int p1, .int p2] [wX3 h_me q_me k_me o_me, wX2 h_a0 h_a0_now q_a0 k_a0 o_a0, wX4 h_a0_now q_a0_now k_a0_now o_a0_now] [tX3 k_me, tX2 k_a0, tX4 k_a0_now] [wX3 h_me q_me k_me y, wX2 h_a0 h_a0_now q_a0 k_a0 o_a0, wX4 h_a0_now q_a0_now k_a0_now o_a0_now] := by
  refine CC_of (by decide) (Nat.le_of_ble_eq_true rfl) ?_
  intro p e s m below meth c A ls hx hb hml hr hlk hnm hown hts hX hK hP hD hA hl
  have hl : lv_has ls 5 [(0, .ref h_me), (1, .ref h_a0), (2, .int p1), (3, .int p2)] := hl
  have hown : s.vm.findClass RX3 = some m.cls := hown
  have hw : Wd dC dI A s.heap [wX3 h_me q_me k_me o_me, wX2 h_a0 h_a0_now q_a0 k_a0 o_a0, wX4 h_a0_now q_a0_now k_a0_now o_a0_now] s.heap [] := ⟨hP, hD, va_S.rf⟩
  generalize hQz : (MQ below (QV dC dI (fun (_ : Unit) => True) (fun _ => Jn [wX3 h_me q_me k_me y, wX2 h_a0 h_a0_now q_a0 k_a0 o_a0, wX4 h_a0_now q_a0_now k_a0_now o_a0_now]) (fun _ => Jt [tX3 k_me, tX2 k_a0, tX4 k_a0_now]) A) ([.ref h_me, .ref h_a0, .int p1, .int p2] : List Value).toArray s 0 0 A) = Qz
  clear hP hD hnm
  have bk_130_2 : ∀ (rec_59_0 : Int32 × Ob → Option (Ob)) (hrec_59_0 : ∀ (v4 : Int32) (o_me : Ob) (H : Heap) (locs : List Loc) (ls : Array Slot), rec_59_0 (v4, o_me) = some y → Wd dC dI A s.heap [wX3 h_me q_me k_me o_me, wX2 h_a0 h_a0_now q_a0 k_a0 o_a0, wX4 h_a0_now q_a0_now k_a0_now o_a0_now] H locs → lv_has ls 5 [(0, .ref h_me), (1, .ref h_a0), (4, .int v4)] → W p l e ({ frames := 1, cells := 0, slots := 0, locals := 21 } : Room) s m ([.ref h_me, .ref h_a0, .int p1, .int p2] : List Value).toArray below meth c H locs 0 0 Qz (F0 m 59 ls [])), ∀ (v4 : Int32) (s0 : Int32) (s1 : Int32) (o_me : Ob) (H : Heap) (locs : List Loc) (ls : Array Slot), bk_X3_setOrderWords_O_130 o_a0 o_a0_now rec_59_0 v4 s0 s1 o_me = some y → Wd dC dI A s.heap [wX3 h_me q_me k_me o_me, wX2 h_a0 h_a0_now q_a0 k_a0 o_a0, wX4 h_a0_now q_a0_now k_a0_now o_a0_now] H locs → lv_has ls 5 [(0, .ref h_me), (1, .ref h_a0), (4, .int v4)] → W p l e ({ frames := 1, cells := 0, slots := 0, locals := 21 } : Room) s m ([.ref h_me, .ref h_a0, .int p1, .int p2] : List Value).toArray below meth c H locs 0 0 Qz (F0 m 130 ls [.int s0, .int s1, .ref (q_me 0)]) := by
    intro rec_59_0 hrec_59_0
    intro v4 s0 s1 o_me H locs ls h hw hl
    unfold bk_X3_setOrderWords_O_130 at h
    obtain ⟨g11, h⟩ := z_gd h
    refine fbX3_0 hx hb hK hw 0 rfl rfl g11 dX3_setOrderWords_130 (fun H locs hw => ?_)
    obtain ⟨o12, eo12, h⟩ := z_lt h
    have hw : Wd dC dI A s.heap [wX3 h_me q_me k_me o12, wX2 h_a0 h_a0_now q_a0 k_a0 o_a0, wX4 h_a0_now q_a0_now k_a0_now o_a0_now] H locs := by rw [eo12]; exact hw
    obtain ⟨x13, ex13, h⟩ := z_lt h
    refine lv_iinc (v := x13) (lv' := [(4, .int x13), (0, .ref h_me), (1, .ref h_a0)]) hx hb dX3_setOrderWords_131 hl (k := 2) rfl ((congrArg (v4 + ·) (show Int32.ofInt 1 = (1 : Int32) from by decide)).trans ex13.symm) (by decide) rfl (fun ls hl => ?_)
    refine lv_goto (tgt := 59) hx hb dX3_setOrderWords_134 (by decide) ?_
    exact hrec_59_0 x13 o12 _ _ _ h hw (lv_sub hl [1, 2, 0] rfl)
  have bk_97_1 : ∀ (rec_59_0 : Int32 × Ob → Option (Ob)) (hrec_59_0 : ∀ (v4 : Int32) (o_me : Ob) (H : Heap) (locs : List Loc) (ls : Array Slot), rec_59_0 (v4, o_me) = some y → Wd dC dI A s.heap [wX3 h_me q_me k_me o_me, wX2 h_a0 h_a0_now q_a0 k_a0 o_a0, wX4 h_a0_now q_a0_now k_a0_now o_a0_now] H locs → lv_has ls 5 [(0, .ref h_me), (1, .ref h_a0), (4, .int v4)] → W p l e ({ frames := 1, cells := 0, slots := 0, locals := 21 } : Room) s m ([.ref h_me, .ref h_a0, .int p1, .int p2] : List Value).toArray below meth c H locs 0 0 Qz (F0 m 59 ls [])), ∀ (v4 : Int32) (s0 : Int32) (s1 : Int32) (o_me : Ob) (H : Heap) (locs : List Loc) (ls : Array Slot), bk_X3_setOrderWords_O_97 o_a0 o_a0_now rec_59_0 v4 s0 s1 o_me = some y → Wd dC dI A s.heap [wX3 h_me q_me k_me o_me, wX2 h_a0 h_a0_now q_a0 k_a0 o_a0, wX4 h_a0_now q_a0_now k_a0_now o_a0_now] H locs → lv_has ls 5 [(0, .ref h_me), (1, .ref h_a0), (4, .int v4)] → W p l e ({ frames := 1, cells := 0, slots := 0, locals := 21 } : Room) s m ([.ref h_me, .ref h_a0, .int p1, .int p2] : List Value).toArray below meth c H locs 0 0 Qz (F0 m 97 ls [.int s0, .int s1, .ref (q_me 0)]) := by
    intro rec_59_0 hrec_59_0
    intro v4 s0 s1 o_me H locs ls h hw hl
    unfold bk_X3_setOrderWords_O_97 at h
    obtain ⟨g8, h⟩ := z_gd h
    refine fbX3_0 hx hb hK hw 0 rfl rfl g8 dX3_setOrderWords_97 (fun H locs hw => ?_)
    obtain ⟨o9, eo9, h⟩ := z_lt h
    have hw : Wd dC dI A s.heap [wX3 h_me q_me k_me o9, wX2 h_a0 h_a0_now q_a0 k_a0 o_a0, wX4 h_a0_now q_a0_now k_a0_now o_a0_now] H locs := by rw [eo9]; exact hw
    refine lv_aload_n hx hb dX3_setOrderWords_98 rfl (lv_at hl 0 rfl) ?_
    refine fgX3_0 hx hb hts hown hK hw 0 rfl kw241 dX3_setOrderWords_99 ?_
    refine lv_bipush (v := 12) hx hb dX3_setOrderWords_102 (by decide) ?_
    refine lv_iload hx hb dX3_setOrderWords_104 (lv_at hl 2 rfl) ?_
    refine lv_iadd hx hb dX3_setOrderWords_106 ?_
    refine lv_aload_n hx hb dX3_setOrderWords_107 rfl (lv_at hl 1 rfl) ?_
    refine lv_iload hx hb dX3_setOrderWords_108 (lv_at hl 2 rfl) ?_
    obtain ⟨z10, ez10, h⟩ := z_bd h
    refine xj_i (xrV (As := [.int v4]) (rest := [.int ((12 : Int32) + v4), .ref (q_me 0)]) ⟨hx, hb, hml, hown, hts⟩ (m_X2_isPerson l dC dI _ h_a0 h_a0_now q_a0 k_a0 o_a0 v4 z10 ez10) kw504 kw846 kw502 kw503 kw115 hd_X2_isPerson ⟨rfl, rfl⟩ rfl rfl ⟨rfl, rfl⟩ hX hK hw [1] (by decide) rfl rfl rfl rfl rfl hl.1 rfl rfl dX3_setOrderWords_110) hw hA [1] (by decide) rfl rfl (fun H locs hw => ?_)
    have hw : Wd dC dI A s.heap [wX3 h_me q_me k_me o9, wX2 h_a0 h_a0_now q_a0 k_a0 o_a0, wX4 h_a0_now q_a0_now k_a0_now o_a0_now] H locs := hw
    refine lv_if_eq (tgt := 129) hx hb dX3_setOrderWords_113 (by decide) (fun c => ?_) (fun c => ?_)
    · have h := z_t h c
      refine lv_iconst (v := (-1)) hx hb dX3_setOrderWords_129 (by decide) ?_
      exact bk_130_2 rec_59_0 hrec_59_0 v4 (-1 : Int32) ((12 : Int32) + v4) o9 _ _ _ h hw (lv_sub hl [0, 1, 2] rfl)
    · have h := z_f h c
      refine lv_aload_n hx hb dX3_setOrderWords_116 rfl (lv_at hl 1 rfl) ?_
      refine fgX2_0 hx hb hts hown hK hw 1 rfl kw296 dX3_setOrderWords_117 ?_
      refine fgX4_0 hx hb hts hown hK hw 2 rfl kw262 dX3_setOrderWords_120 ?_
      refine lv_iload hx hb dX3_setOrderWords_123 (lv_at hl 2 rfl) ?_
      obtain ⟨g14, h⟩ := z_gd h
      refine faX4_0 hx hb hK hw 2 rfl rfl g14 dX3_setOrderWords_125 ?_
      refine lv_goto (tgt := 130) hx hb dX3_setOrderWords_126 (by decide) ?_
      exact bk_130_2 rec_59_0 hrec_59_0 v4 (gA o_a0_now 0 v4.toNatClampNeg) ((12 : Int32) + v4) o9 _ _ _ h hw (lv_sub hl [0, 1, 2] rfl)
  have lp_59_0 : ∀ (N : Nat), ∀ (v4 : Int32) (o_me : Ob) (H : Heap) (locs : List Loc) (ls : Array Slot), lp_X3_setOrderWords_O_59 o_a0 o_a0_now  N (v4, o_me) = some y → Wd dC dI A s.heap [wX3 h_me q_me k_me o_me, wX2 h_a0 h_a0_now q_a0 k_a0 o_a0, wX4 h_a0_now q_a0_now k_a0_now o_a0_now] H locs → lv_has ls 5 [(0, .ref h_me), (1, .ref h_a0), (4, .int v4)] → W p l e ({ frames := 1, cells := 0, slots := 0, locals := 21 } : Room) s m ([.ref h_me, .ref h_a0, .int p1, .int p2] : List Value).toArray below meth c H locs 0 0 Qz (F0 m 59 ls []) := by
    intro N
    induction N with
    | zero =>
      intro v4 o_me H locs ls h hw hl
      exact absurd (show (none : Option (Ob)) = some y from h) (by simp)
    | succ N ih =>
      intro v4 o_me H locs ls h hw hl
      have h : lb_X3_setOrderWords_O_59 o_a0 o_a0_now  (lp_X3_setOrderWords_O_59 o_a0 o_a0_now  N) v4 o_me = some y := h
      unfold lb_X3_setOrderWords_O_59 at h
      refine lv_iload hx hb dX3_setOrderWords_59 (lv_at hl 2 rfl) ?_
      refine lv_bipush (v := 7) hx hb dX3_setOrderWords_61 (by decide) ?_
      refine lv_icmp_ge (tgt := 137) hx hb dX3_setOrderWords_63 (by decide) (fun c => ?_) (fun c => ?_)
      · have h := z_t h c
        have hy := Option.some.inj h
        rw [← hQz, ← hy]
        exact xr_v hx hb hr hlk hK hw dX3_setOrderWords_137
      · have h := z_f h c
        refine lv_aload_n hx hb dX3_setOrderWords_66 rfl (lv_at hl 0 rfl) ?_
        refine fgX3_0 hx hb hts hown hK hw 0 rfl kw241 dX3_setOrderWords_67 ?_
        refine lv_iconst (v := 5) hx hb dX3_setOrderWords_70 (by decide) ?_
        refine lv_iload hx hb dX3_setOrderWords_71 (lv_at hl 2 rfl) ?_
        refine lv_iadd hx hb dX3_setOrderWords_73 ?_
        refine lv_aload_n hx hb dX3_setOrderWords_74 rfl (lv_at hl 1 rfl) ?_
        refine lv_iload hx hb dX3_setOrderWords_75 (lv_at hl 2 rfl) ?_
        obtain ⟨z7, ez7, h⟩ := z_bd h
        refine xj_i (xrV (As := [.int v4]) (rest := [.int ((5 : Int32) + v4), .ref (q_me 0)]) ⟨hx, hb, hml, hown, hts⟩ (m_X2_isPerson l dC dI _ h_a0 h_a0_now q_a0 k_a0 o_a0 v4 z7 ez7) kw504 kw846 kw502 kw503 kw115 hd_X2_isPerson ⟨rfl, rfl⟩ rfl rfl ⟨rfl, rfl⟩ hX hK hw [1] (by decide) rfl rfl rfl rfl rfl hl.1 rfl rfl dX3_setOrderWords_77) hw hA [1] (by decide) rfl rfl (fun H locs hw => ?_)
        have hw : Wd dC dI A s.heap [wX3 h_me q_me k_me o_me, wX2 h_a0 h_a0_now q_a0 k_a0 o_a0, wX4 h_a0_now q_a0_now k_a0_now o_a0_now] H locs := hw
        refine lv_if_eq (tgt := 96) hx hb dX3_setOrderWords_80 (by decide) (fun c => ?_) (fun c => ?_)
        · have h := z_t h c
          refine lv_iconst (v := (-1)) hx hb dX3_setOrderWords_96 (by decide) ?_
          exact bk_97_1 (lp_X3_setOrderWords_O_59 o_a0 o_a0_now  N) ih v4 (-1 : Int32) ((5 : Int32) + v4) o_me _ _ _ h hw (lv_sub hl [0, 1, 2] rfl)
        · have h := z_f h c
          refine lv_aload_n hx hb dX3_setOrderWords_83 rfl (lv_at hl 1 rfl) ?_
          refine fgX2_0 hx hb hts hown hK hw 1 rfl kw296 dX3_setOrderWords_84 ?_
          refine fgX4_1 hx hb hts hown hK hw 2 rfl kw266 dX3_setOrderWords_87 ?_
          refine lv_iload hx hb dX3_setOrderWords_90 (lv_at hl 2 rfl) ?_
          obtain ⟨g15, h⟩ := z_gd h
          refine faX4_1 hx hb hK hw 2 rfl rfl g15 dX3_setOrderWords_92 ?_
          refine lv_goto (tgt := 97) hx hb dX3_setOrderWords_93 (by decide) ?_
          exact bk_97_1 (lp_X3_setOrderWords_O_59 o_a0 o_a0_now  N) ih v4 (gA o_a0_now 1 v4.toNatClampNeg) ((5 : Int32) + v4) o_me _ _ _ h hw (lv_sub hl [0, 1, 2] rfl)
  unfold f_X3_setOrderWords_O at h
  refine lv_aload_n hx hb dX3_setOrderWords_0 rfl (lv_at hl 0 rfl) ?_
  refine fgX3_0 hx hb hts hown hK hw 0 rfl kw241 dX3_setOrderWords_1 ?_
  refine lv_iconst (v := 0) hx hb dX3_setOrderWords_4 (by decide) ?_
  refine lv_aload_n hx hb dX3_setOrderWords_5 rfl (lv_at hl 1 rfl) ?_
  refine fgX2_0 hx hb hts hown hK hw 1 rfl kw296 dX3_setOrderWords_6 ?_
  refine fgX4_4 hx hb hts hown hK hw 2 rfl kw278 dX3_setOrderWords_9 ?_
  refine fbX3_0 hx hb hK hw 0 rfl rfl (by decide) dX3_setOrderWords_12 (fun H locs hw => ?_)
  obtain ⟨o1, eo1, h⟩ := z_lt h
  have hw : Wd dC dI A s.heap [wX3 h_me q_me k_me o1, wX2 h_a0 h_a0_now q_a0 k_a0 o_a0, wX4 h_a0_now q_a0_now k_a0_now o_a0_now] H locs := by rw [eo1]; exact hw
  refine lv_aload_n hx hb dX3_setOrderWords_13 rfl (lv_at hl 0 rfl) ?_
  refine fgX3_0 hx hb hts hown hK hw 0 rfl kw241 dX3_setOrderWords_14 ?_
  refine lv_iconst (v := 1) hx hb dX3_setOrderWords_17 (by decide) ?_
  refine lv_iload_n hx hb dX3_setOrderWords_18 rfl (lv_at hl 2 rfl) ?_
  refine fbX3_0 hx hb hK hw 0 rfl rfl (by decide) dX3_setOrderWords_19 (fun H locs hw => ?_)
  obtain ⟨o2, eo2, h⟩ := z_lt h
  have hw : Wd dC dI A s.heap [wX3 h_me q_me k_me o2, wX2 h_a0 h_a0_now q_a0 k_a0 o_a0, wX4 h_a0_now q_a0_now k_a0_now o_a0_now] H locs := by rw [eo2]; exact hw
  refine lv_aload_n hx hb dX3_setOrderWords_20 rfl (lv_at hl 0 rfl) ?_
  refine fgX3_0 hx hb hts hown hK hw 0 rfl kw241 dX3_setOrderWords_21 ?_
  refine lv_iconst (v := 2) hx hb dX3_setOrderWords_24 (by decide) ?_
  refine lv_iload_n hx hb dX3_setOrderWords_25 rfl (lv_at hl 3 rfl) ?_
  refine fbX3_0 hx hb hK hw 0 rfl rfl (by decide) dX3_setOrderWords_26 (fun H locs hw => ?_)
  obtain ⟨o3, eo3, h⟩ := z_lt h
  have hw : Wd dC dI A s.heap [wX3 h_me q_me k_me o3, wX2 h_a0 h_a0_now q_a0 k_a0 o_a0, wX4 h_a0_now q_a0_now k_a0_now o_a0_now] H locs := by rw [eo3]; exact hw
  refine lv_aload_n hx hb dX3_setOrderWords_27 rfl (lv_at hl 0 rfl) ?_
  refine fgX3_0 hx hb hts hown hK hw 0 rfl kw241 dX3_setOrderWords_28 ?_
  refine lv_iconst (v := 3) hx hb dX3_setOrderWords_31 (by decide) ?_
  refine lv_aload_n hx hb dX3_setOrderWords_32 rfl (lv_at hl 1 rfl) ?_
  refine fgX2_0 hx hb hts hown hK hw 1 rfl kw296 dX3_setOrderWords_33 ?_
  refine fgX4_3 hx hb hts hown hK hw 2 rfl kw274 dX3_setOrderWords_36 ?_
  refine fbX3_0 hx hb hK hw 0 rfl rfl (by decide) dX3_setOrderWords_39 (fun H locs hw => ?_)
  obtain ⟨o4, eo4, h⟩ := z_lt h
  have hw : Wd dC dI A s.heap [wX3 h_me q_me k_me o4, wX2 h_a0 h_a0_now q_a0 k_a0 o_a0, wX4 h_a0_now q_a0_now k_a0_now o_a0_now] H locs := by rw [eo4]; exact hw
  refine lv_aload_n hx hb dX3_setOrderWords_40 rfl (lv_at hl 0 rfl) ?_
  refine fgX3_0 hx hb hts hown hK hw 0 rfl kw241 dX3_setOrderWords_41 ?_
  refine lv_iconst (v := 4) hx hb dX3_setOrderWords_44 (by decide) ?_
  refine lv_aload_n hx hb dX3_setOrderWords_45 rfl (lv_at hl 1 rfl) ?_
  refine fgX2_0 hx hb hts hown hK hw 1 rfl kw296 dX3_setOrderWords_46 ?_
  refine fgX4_2 hx hb hts hown hK hw 2 rfl kw270 dX3_setOrderWords_49 ?_
  obtain ⟨z5, ez5, h⟩ := z_bd h
  refine xj_i (xrS (As := [.int (gI o_a0_now 2)]) (rest := [.int (4 : Int32), .ref (q_me 0)]) ⟨hx, hb, hml, hown, hts⟩ (m_J6_bitCount_0f7a4 l dC dI _  (gI o_a0_now 2) z5 ez5) kw842 kw840 kw841 kw126 hd_J6_bitCount_0f7a4 ⟨rfl, rfl⟩ rfl rfl ⟨rfl, rfl⟩ hX hK hw [] (by decide) rfl rfl hl.1 rfl rfl dX3_setOrderWords_52) hw hA [] (by decide) rfl rfl (fun H locs hw => ?_)
  refine fbX3_0 hx hb hK hw 0 rfl rfl (by decide) dX3_setOrderWords_55 (fun H locs hw => ?_)
  obtain ⟨o6, eo6, h⟩ := z_lt h
  have hw : Wd dC dI A s.heap [wX3 h_me q_me k_me o6, wX2 h_a0 h_a0_now q_a0 k_a0 o_a0, wX4 h_a0_now q_a0_now k_a0_now o_a0_now] H locs := by rw [eo6]; exact hw
  refine lv_iconst (v := 0) hx hb dX3_setOrderWords_56 (by decide) ?_
  refine lv_istore (lv' := [(4, .int (0 : Int32)), (0, .ref h_me), (1, .ref h_a0), (2, .int p1), (3, .int p2)]) hx hb dX3_setOrderWords_57 hl (by decide) rfl (fun ls hl => ?_)
  exact lp_59_0  zfu (0 : Int32) o6 _ _ _ h hw (lv_sub hl [1, 2, 0] rfl)

def f_X8_obey_O (nc_a0 : Nat) (ns_a0 : Nat) (o_me : Ob) (o_me_machine : Ob) (o_me_isles : Ob) (o_me_isles_now : Ob) (o_me_court : Ob) (o_me_past : Ob) (o_pool : List CR) (o_a0 : Ob) (p1 : Int32) : Option (Int32 × Ob × Ob × Ob × Ob × Ob) :=
  (f_X3_setOrderWords_O o_me_machine o_me_isles o_me_isles_now (gI o_me 15) (gI o_me 16)).bind fun z1 =>
  zgd (zin p1 nc_a0) <|
  zgd (zin p1 nc_a0) <|
  (f_X3_worth_O nc_a0 ns_a0 z1 o_a0 (gA o_a0 3 p1.toNatClampNeg) (gA o_a0 4 p1.toNatClampNeg)).bind fun z4 =>
  if (lg_cmp z4.1 (1 : Int64)) = (0 : Int32) then
  (zgd (zin p1 nc_a0) <|
  zgd (zin p1 nc_a0) <|
  (f_X3_worth_O nc_a0 ns_a0 z4.2 o_a0 (gA o_a0 2 p1.toNatClampNeg) (gA o_a0 3 p1.toNatClampNeg)).bind fun z7 =>
  if (lg_cmp z7.1 (-9000000000000000000 : Int64)) = (0 : Int32) then
  (some ((0 : Int32), o_me, z7.2, o_me_isles_now, o_me_court, o_me_past))
  else
  (zgd (zin p1 nc_a0) <|
  zlt (gA o_a0 0 p1.toNatClampNeg) fun x9 =>
  (f_X1_moved_O o_me_court o_me_isles o_me_isles_now z7.2 o_pool o_me_past x9 z7.1.toInt32).bind fun z10 =>
  if (0 : Int32) ≤ z10.1 then
  (zlt (sI o_me 15 ((gI o_me 15) + (1 : Int32))) fun o11 =>
  if x9 = (0 : Int32) then
  (zlt (sI o11 16 z10.1) fun o12 =>
  some ((1 : Int32), o12, z10.2.2.2.1, z10.2.2.1, z10.2.1, z10.2.2.2.2))
  else
  (some ((1 : Int32), o11, z10.2.2.2.1, z10.2.2.1, z10.2.1, z10.2.2.2.2)))
  else
  (some ((0 : Int32), o_me, z10.2.2.2.1, z10.2.2.1, z10.2.1, z10.2.2.2.2))))
  else
  (some ((1 : Int32), o_me, z4.2, o_me_isles_now, o_me_court, o_me_past))
set_option maxHeartbeats 4000000 in
set_option maxRecDepth 100000 in
theorem m_X8_obey_O (l : Launch) (dC : Nat → ClassId) (dI : Nat → Nat → Nat) (sz : Nat) (h_me : Nat) (h_me_reader : Nat) (h_me_machine : Nat) (h_me_isles : Nat) (h_me_court : Nat) (h_me_study : Nat) (h_me_paper : Nat) (h_me_paperCourt : Nat) (h_me_past : Nat) (h_me_pastAhead : Nat) (h_me_movingAhead : Nat) (h_me_isles_now : Nat) (h_a0 : Nat) (q_me : Nat → Nat) (k_me : Nat → ClassId) (q_me_machine : Nat → Nat) (k_me_machine : Nat → ClassId) (q_me_isles : Nat → Nat) (k_me_isles : Nat → ClassId) (q_me_isles_now : Nat → Nat) (k_me_isles_now : Nat → ClassId) (q_me_court : Nat → Nat) (k_me_court : Nat → ClassId) (q_me_past : Nat → Nat) (k_me_past : Nat → ClassId) (q_a0 : Nat → Nat) (k_a0 : Nat → ClassId) (nc_a0 : Nat) (ns_a0 : Nat) (o_me : Ob) (o_me_machine : Ob) (o_me_isles : Ob) (o_me_isles_now : Ob) (o_me_court : Ob) (o_me_past : Ob) (o_pool : List CR) (o_a0 : Ob) (p1 : Int32) (y : Int32 × Ob × Ob × Ob × Ob × Ob) (h : f_X8_obey_O nc_a0 ns_a0 o_me o_me_machine o_me_isles o_me_isles_now o_me_court o_me_past o_pool o_a0 p1 = some y) : CI l yX8_obey cX8_obey 7 (some .boolean) ({ frames := 6, cells := 0, slots := 0, locals := 163 } : Room) dC dI sz [.ref h_me, .ref h_a0, .int p1] [wX8 h_me h_me_reader h_me_machine h_me_isles h_me_court h_me_study h_me_paper h_me_paperCourt h_me_past h_me_pastAhead h_me_movingAhead q_me k_me o_me, wX3 h_me_machine q_me_machine k_me_machine o_me_machine, wX2 h_me_isles h_me_isles_now q_me_isles k_me_isles o_me_isles, wX4 h_me_isles_now q_me_isles_now k_me_isles_now o_me_isles_now, wX1 h_me_court h_me_isles h_me_machine q_me_court k_me_court o_me_court, wX5 h_me_past q_me_past k_me_past o_me_past, wPL o_pool, wX0 h_a0 nc_a0 ns_a0 q_a0 k_a0 o_a0] [tX8 k_me, tX3 k_me_machine, tX2 k_me_isles, tX4 k_me_isles_now, tX1 k_me_court, tX5 k_me_past, tPL o_pool, tX0 k_a0] y.1 [wX8 h_me h_me_reader h_me_machine h_me_isles h_me_court h_me_study h_me_paper h_me_paperCourt h_me_past h_me_pastAhead h_me_movingAhead q_me k_me y.2.1, wX3 h_me_machine q_me_machine k_me_machine y.2.2.1, wX2 h_me_isles h_me_isles_now q_me_isles k_me_isles o_me_isles, wX4 h_me_isles_now q_me_isles_now k_me_isles_now y.2.2.2.1, wX1 h_me_court h_me_isles h_me_machine q_me_court k_me_court y.2.2.2.2.1, wX5 h_me_past q_me_past k_me_past y.2.2.2.2.2, wPL o_pool, wX0 h_a0 nc_a0 ns_a0 q_a0 k_a0 o_a0] := by
  refine CC_of (by decide) (Nat.le_of_ble_eq_true rfl) ?_
  intro p e s m below meth c A ls hx hb hml hr hlk hnm hown hts hX hK hP hD hA hl
  have hl : lv_has ls 7 [(0, .ref h_me), (1, .ref h_a0), (2, .int p1)] := hl
  have hown : s.vm.findClass RX8 = some m.cls := hown
  have hw : Wd dC dI A s.heap [wX8 h_me h_me_reader h_me_machine h_me_isles h_me_court h_me_study h_me_paper h_me_paperCourt h_me_past h_me_pastAhead h_me_movingAhead q_me k_me o_me, wX3 h_me_machine q_me_machine k_me_machine o_me_machine, wX2 h_me_isles h_me_isles_now q_me_isles k_me_isles o_me_isles, wX4 h_me_isles_now q_me_isles_now k_me_isles_now o_me_isles_now, wX1 h_me_court h_me_isles h_me_machine q_me_court k_me_court o_me_court, wX5 h_me_past q_me_past k_me_past o_me_past, wPL o_pool, wX0 h_a0 nc_a0 ns_a0 q_a0 k_a0 o_a0] s.heap [] := ⟨hP, hD, va_S.rf⟩
  generalize hQz : (MQ below (QI dC dI (fun r (_ : Unit) => r = y.1) (fun _ => Jn [wX8 h_me h_me_reader h_me_machine h_me_isles h_me_court h_me_study h_me_paper h_me_paperCourt h_me_past h_me_pastAhead h_me_movingAhead q_me k_me y.2.1, wX3 h_me_machine q_me_machine k_me_machine y.2.2.1, wX2 h_me_isles h_me_isles_now q_me_isles k_me_isles o_me_isles, wX4 h_me_isles_now q_me_isles_now k_me_isles_now y.2.2.2.1, wX1 h_me_court h_me_isles h_me_machine q_me_court k_me_court y.2.2.2.2.1, wX5 h_me_past q_me_past k_me_past y.2.2.2.2.2, wPL o_pool, wX0 h_a0 nc_a0 ns_a0 q_a0 k_a0 o_a0]) (fun _ => Jt [tX8 k_me, tX3 k_me_machine, tX2 k_me_isles, tX4 k_me_isles_now, tX1 k_me_court, tX5 k_me_past, tPL o_pool, tX0 k_a0]) A) ([.ref h_me, .ref h_a0, .int p1] : List Value).toArray s 0 0 A) = Qz
  clear hP hD hnm
  unfold f_X8_obey_O at h
  refine lv_aload_n hx hb dX8_obey_0 rfl (lv_at hl 0 rfl) ?_
  refine fgX8_1 hx hb hts hown hK hw 0 rfl kw443 dX8_obey_1 ?_
  refine lv_aload_n hx hb dX8_obey_4 rfl (lv_at hl 0 rfl) ?_
  refine fgX8_2 hx hb hts hown hK hw 0 rfl kw444 dX8_obey_5 ?_
  refine lv_aload_n hx hb dX8_obey_8 rfl (lv_at hl 0 rfl) ?_
  refine fgX8_15 hx hb hts hown hK hw 0 rfl kw457 dX8_obey_9 ?_
  refine lv_aload_n hx hb dX8_obey_12 rfl (lv_at hl 0 rfl) ?_
  refine fgX8_16 hx hb hts hown hK hw 0 rfl kw458 dX8_obey_13 ?_
  obtain ⟨z1, ez1, h⟩ := z_bd h
  refine xj_v (xrV (As := [.ref h_me_isles, .int (gI o_me 15), .int (gI o_me 16)]) (rest := []) ⟨hx, hb, hml, hown, hts⟩ (m_X3_setOrderWords_O l dC dI _ h_me_machine h_me_isles h_me_isles_now q_me_machine k_me_machine q_me_isles k_me_isles q_me_isles_now k_me_isles_now o_me_machine o_me_isles o_me_isles_now (gI o_me 15) (gI o_me 16) z1 ez1) kw839 kw836 kw837 kw838 kw114 hd_X3_setOrderWords ⟨rfl, rfl⟩ rfl rfl ⟨rfl, rfl⟩ hX hK hw [1, 2, 3] (by decide) rfl rfl rfl rfl rfl hl.1 rfl rfl dX8_obey_16) hw hA [1, 2, 3] (by decide) rfl rfl (fun H locs hw => ?_)
  have hw : Wd dC dI A s.heap [wX8 h_me h_me_reader h_me_machine h_me_isles h_me_court h_me_study h_me_paper h_me_paperCourt h_me_past h_me_pastAhead h_me_movingAhead q_me k_me o_me, wX3 h_me_machine q_me_machine k_me_machine z1, wX2 h_me_isles h_me_isles_now q_me_isles k_me_isles o_me_isles, wX4 h_me_isles_now q_me_isles_now k_me_isles_now o_me_isles_now, wX1 h_me_court h_me_isles h_me_machine q_me_court k_me_court o_me_court, wX5 h_me_past q_me_past k_me_past o_me_past, wPL o_pool, wX0 h_a0 nc_a0 ns_a0 q_a0 k_a0 o_a0] H locs := hw
  refine lv_aload_n hx hb dX8_obey_19 rfl (lv_at hl 0 rfl) ?_
  refine fgX8_1 hx hb hts hown hK hw 0 rfl kw443 dX8_obey_20 ?_
  refine lv_aload_n hx hb dX8_obey_23 rfl (lv_at hl 1 rfl) ?_
  refine lv_aload_n hx hb dX8_obey_24 rfl (lv_at hl 1 rfl) ?_
  refine fgX0_3 hx hb hts hown hK hw 7 rfl kw165 dX8_obey_25 ?_
  refine lv_iload_n hx hb dX8_obey_28 rfl (lv_at hl 2 rfl) ?_
  obtain ⟨g2, h⟩ := z_gd h
  refine faX0_3 hx hb hK hw 7 rfl rfl g2 dX8_obey_29 ?_
  refine lv_aload_n hx hb dX8_obey_30 rfl (lv_at hl 1 rfl) ?_
  refine fgX0_4 hx hb hts hown hK hw 7 rfl kw169 dX8_obey_31 ?_
  refine lv_iload_n hx hb dX8_obey_34 rfl (lv_at hl 2 rfl) ?_
  obtain ⟨g3, h⟩ := z_gd h
  refine faX0_4 hx hb hK hw 7 rfl rfl g3 dX8_obey_35 ?_
  obtain ⟨z4, ez4, h⟩ := z_bd h
  refine xj_l (xrV (As := [.ref h_a0, .int (gA o_a0 3 p1.toNatClampNeg), .int (gA o_a0 4 p1.toNatClampNeg)]) (rest := []) ⟨hx, hb, hml, hown, hts⟩ (m_X3_worth_O l dC dI _ h_me_machine h_a0 q_me_machine k_me_machine q_a0 k_a0 nc_a0 ns_a0 z1 o_a0 (gA o_a0 3 p1.toNatClampNeg) (gA o_a0 4 p1.toNatClampNeg) z4 ez4) kw558 kw847 kw556 kw557 kw114 hd_X3_worth ⟨rfl, rfl⟩ rfl rfl ⟨rfl, rfl⟩ hX hK hw [1, 7] (by decide) rfl rfl rfl rfl rfl hl.1 rfl rfl dX8_obey_36) hw hA [1, 7] (by decide) rfl rfl (fun H locs hw => ?_)
  have hw : Wd dC dI A s.heap [wX8 h_me h_me_reader h_me_machine h_me_isles h_me_court h_me_study h_me_paper h_me_paperCourt h_me_past h_me_pastAhead h_me_movingAhead q_me k_me o_me, wX3 h_me_machine q_me_machine k_me_machine z4.2, wX2 h_me_isles h_me_isles_now q_me_isles k_me_isles o_me_isles, wX4 h_me_isles_now q_me_isles_now k_me_isles_now o_me_isles_now, wX1 h_me_court h_me_isles h_me_machine q_me_court k_me_court o_me_court, wX5 h_me_past q_me_past k_me_past o_me_past, wPL o_pool, wX0 h_a0 nc_a0 ns_a0 q_a0 k_a0 o_a0] H locs := hw
  refine lv_lconst (v := 1) hx hb dX8_obey_39 (by decide) ?_
  refine W.lcmp hx hb dX8_obey_40 ?_
  refine lv_if_eq (tgt := 46) hx hb dX8_obey_41 (by decide) (fun c => ?_) (fun c => ?_)
  · have h := z_t h c
    refine lv_aload_n hx hb dX8_obey_46 rfl (lv_at hl 0 rfl) ?_
    refine fgX8_1 hx hb hts hown hK hw 0 rfl kw443 dX8_obey_47 ?_
    refine lv_aload_n hx hb dX8_obey_50 rfl (lv_at hl 1 rfl) ?_
    refine lv_aload_n hx hb dX8_obey_51 rfl (lv_at hl 1 rfl) ?_
    refine fgX0_2 hx hb hts hown hK hw 7 rfl kw161 dX8_obey_52 ?_
    refine lv_iload_n hx hb dX8_obey_55 rfl (lv_at hl 2 rfl) ?_
    obtain ⟨g5, h⟩ := z_gd h
    refine faX0_2 hx hb hK hw 7 rfl rfl g5 dX8_obey_56 ?_
    refine lv_aload_n hx hb dX8_obey_57 rfl (lv_at hl 1 rfl) ?_
    refine fgX0_3 hx hb hts hown hK hw 7 rfl kw165 dX8_obey_58 ?_
    refine lv_iload_n hx hb dX8_obey_61 rfl (lv_at hl 2 rfl) ?_
    obtain ⟨g6, h⟩ := z_gd h
    refine faX0_3 hx hb hK hw 7 rfl rfl g6 dX8_obey_62 ?_
    obtain ⟨z7, ez7, h⟩ := z_bd h
    refine xj_l (xrV (As := [.ref h_a0, .int (gA o_a0 2 p1.toNatClampNeg), .int (gA o_a0 3 p1.toNatClampNeg)]) (rest := []) ⟨hx, hb, hml, hown, hts⟩ (m_X3_worth_O l dC dI _ h_me_machine h_a0 q_me_machine k_me_machine q_a0 k_a0 nc_a0 ns_a0 z4.2 o_a0 (gA o_a0 2 p1.toNatClampNeg) (gA o_a0 3 p1.toNatClampNeg) z7 ez7) kw558 kw847 kw556 kw557 kw114 hd_X3_worth ⟨rfl, rfl⟩ rfl rfl ⟨rfl, rfl⟩ hX hK hw [1, 7] (by decide) rfl rfl rfl rfl rfl hl.1 rfl rfl dX8_obey_63) hw hA [1, 7] (by decide) rfl rfl (fun H locs hw => ?_)
    have hw : Wd dC dI A s.heap [wX8 h_me h_me_reader h_me_machine h_me_isles h_me_court h_me_study h_me_paper h_me_paperCourt h_me_past h_me_pastAhead h_me_movingAhead q_me k_me o_me, wX3 h_me_machine q_me_machine k_me_machine z7.2, wX2 h_me_isles h_me_isles_now q_me_isles k_me_isles o_me_isles, wX4 h_me_isles_now q_me_isles_now k_me_isles_now o_me_isles_now, wX1 h_me_court h_me_isles h_me_machine q_me_court k_me_court o_me_court, wX5 h_me_past q_me_past k_me_past o_me_past, wPL o_pool, wX0 h_a0 nc_a0 ns_a0 q_a0 k_a0 o_a0] H locs := hw
    refine lv_lstore_n (lv' := [(3, .long z7.1), (0, .ref h_me), (1, .ref h_a0), (2, .int p1)]) hx hb dX8_obey_66 rfl hl (by decide) rfl (fun ls hl => ?_)
    refine lv_lload_n hx hb dX8_obey_67 rfl (lv_at hl 0 rfl) ?_
    refine lv_ldc2 (v := (-9000000000000000000)) hx hb hown (hts _ kw848) dX8_obey_68 ?_
    refine W.lcmp hx hb dX8_obey_71 ?_
    refine lv_if_ne (tgt := 77) hx hb dX8_obey_72 (by decide) (fun c => ?_) (fun c => ?_)
    · have h := z_f h c
      refine lv_aload_n hx hb dX8_obey_77 rfl (lv_at hl 2 rfl) ?_
      refine fgX0_0 hx hb hts hown hK hw 7 rfl kw154 dX8_obey_78 ?_
      refine lv_iload_n hx hb dX8_obey_81 rfl (lv_at hl 3 rfl) ?_
      obtain ⟨g8, h⟩ := z_gd h
      refine faX0_0 hx hb hK hw 7 rfl rfl g8 dX8_obey_82 ?_
      obtain ⟨x9, ex9, h⟩ := z_lt h
      refine lv_fi (v := x9) ex9.symm ?_
      refine lv_istore (lv' := [(5, .int x9), (3, .long z7.1), (0, .ref h_me), (1, .ref h_a0), (2, .int p1)]) hx hb dX8_obey_83 hl (by decide) rfl (fun ls hl => ?_)
      refine lv_aload_n hx hb dX8_obey_85 rfl (lv_at hl 2 rfl) ?_
      refine fgX8_3 hx hb hts hown hK hw 0 rfl kw445 dX8_obey_86 ?_
      refine lv_iload hx hb dX8_obey_89 (lv_at hl 0 rfl) ?_
      refine lv_lload_n hx hb dX8_obey_91 rfl (lv_at hl 1 rfl) ?_
      refine lv_l2i hx hb dX8_obey_92 rfl ?_
      refine lv_aload_n hx hb dX8_obey_93 rfl (lv_at hl 2 rfl) ?_
      refine fgX8_8 hx hb hts hown hK hw 0 rfl kw450 dX8_obey_94 ?_
      obtain ⟨z10, ez10, h⟩ := z_bd h
      refine xj_i (xrV (As := [.int x9, .int z7.1.toInt32, .ref h_me_past]) (rest := []) ⟨hx, hb, hml, hown, hts⟩ (m_X1_moved_O l dC dI _ h_me_court h_me_isles h_me_machine h_me_isles_now h_me_past q_me_court k_me_court q_me_isles k_me_isles q_me_isles_now k_me_isles_now q_me_machine k_me_machine q_me_past k_me_past o_me_court o_me_isles o_me_isles_now z7.2 o_pool o_me_past x9 z7.1.toInt32 z10 ez10) kw852 kw849 kw850 kw851 kw117 hd_X1_moved ⟨rfl, rfl⟩ rfl rfl ⟨rfl, rfl⟩ hX hK hw [4, 2, 3, 1, 6, 5] (by decide) rfl rfl rfl rfl rfl hl.1 rfl rfl dX8_obey_97) hw hA [4, 2, 3, 1, 6, 5] (by decide) rfl rfl (fun H locs hw => ?_)
      have hw : Wd dC dI A s.heap [wX8 h_me h_me_reader h_me_machine h_me_isles h_me_court h_me_study h_me_paper h_me_paperCourt h_me_past h_me_pastAhead h_me_movingAhead q_me k_me o_me, wX3 h_me_machine q_me_machine k_me_machine z10.2.2.2.1, wX2 h_me_isles h_me_isles_now q_me_isles k_me_isles o_me_isles, wX4 h_me_isles_now q_me_isles_now k_me_isles_now z10.2.2.1, wX1 h_me_court h_me_isles h_me_machine q_me_court k_me_court z10.2.1, wX5 h_me_past q_me_past k_me_past z10.2.2.2.2, wPL o_pool, wX0 h_a0 nc_a0 ns_a0 q_a0 k_a0 o_a0] H locs := hw
      refine lv_istore (lv' := [(6, .int z10.1), (5, .int x9), (3, .long z7.1), (0, .ref h_me), (1, .ref h_a0), (2, .int p1)]) hx hb dX8_obey_100 hl (by decide) rfl (fun ls hl => ?_)
      refine lv_iload hx hb dX8_obey_102 (lv_at hl 0 rfl) ?_
      refine lv_if_ge (tgt := 109) hx hb dX8_obey_104 (by decide) (fun c => ?_) (fun c => ?_)
      · have h := z_t h c
        refine lv_aload_n hx hb dX8_obey_109 rfl (lv_at hl 3 rfl) ?_
        refine lv_dup hx hb dX8_obey_110 rfl ?_
        refine fgX8_15 hx hb hts hown hK hw 0 rfl kw457 dX8_obey_111 ?_
        refine lv_iconst (v := 1) hx hb dX8_obey_114 (by decide) ?_
        refine lv_iadd hx hb dX8_obey_115 ?_
        refine fpX8_15 hx hb hts hown hK hw 0 rfl kw457 dX8_obey_116 (fun H locs hw => ?_)
        obtain ⟨o11, eo11, h⟩ := z_lt h
        have hw : Wd dC dI A s.heap [wX8 h_me h_me_reader h_me_machine h_me_isles h_me_court h_me_study h_me_paper h_me_paperCourt h_me_past h_me_pastAhead h_me_movingAhead q_me k_me o11, wX3 h_me_machine q_me_machine k_me_machine z10.2.2.2.1, wX2 h_me_isles h_me_isles_now q_me_isles k_me_isles o_me_isles, wX4 h_me_isles_now q_me_isles_now k_me_isles_now z10.2.2.1, wX1 h_me_court h_me_isles h_me_machine q_me_court k_me_court z10.2.1, wX5 h_me_past q_me_past k_me_past z10.2.2.2.2, wPL o_pool, wX0 h_a0 nc_a0 ns_a0 q_a0 k_a0 o_a0] H locs := by rw [eo11]; exact hw
        refine lv_iload hx hb dX8_obey_119 (lv_at hl 1 rfl) ?_
        refine lv_if_ne (tgt := 130) hx hb dX8_obey_121 (by decide) (fun c => ?_) (fun c => ?_)
        · have h := z_f h c
          refine lv_iconst (v := 1) hx hb dX8_obey_130 (by decide) ?_
          have hy := Option.some.inj h
          rw [← hQz, ← hy]
          exact xr_i (v := (1 : Int32)) hx hb hr rfl hlk hK hw dX8_obey_131
        · have h := z_t h c
          refine lv_aload_n hx hb dX8_obey_124 rfl (lv_at hl 3 rfl) ?_
          refine lv_iload hx hb dX8_obey_125 (lv_at hl 0 rfl) ?_
          refine fpX8_16 hx hb hts hown hK hw 0 rfl kw458 dX8_obey_127 (fun H locs hw => ?_)
          obtain ⟨o12, eo12, h⟩ := z_lt h
          have hw : Wd dC dI A s.heap [wX8 h_me h_me_reader h_me_machine h_me_isles h_me_court h_me_study h_me_paper h_me_paperCourt h_me_past h_me_pastAhead h_me_movingAhead q_me k_me o12, wX3 h_me_machine q_me_machine k_me_machine z10.2.2.2.1, wX2 h_me_isles h_me_isles_now q_me_isles k_me_isles o_me_isles, wX4 h_me_isles_now q_me_isles_now k_me_isles_now z10.2.2.1, wX1 h_me_court h_me_isles h_me_machine q_me_court k_me_court z10.2.1, wX5 h_me_past q_me_past k_me_past z10.2.2.2.2, wPL o_pool, wX0 h_a0 nc_a0 ns_a0 q_a0 k_a0 o_a0] H locs := by rw [eo12]; exact hw
          refine lv_iconst (v := 1) hx hb dX8_obey_130 (by decide) ?_
          have hy := Option.some.inj h
          rw [← hQz, ← hy]
          exact xr_i (v := (1 : Int32)) hx hb hr rfl hlk hK hw dX8_obey_131
      · have h := z_f h c
        refine lv_iconst (v := 0) hx hb dX8_obey_107 (by decide) ?_
        have hy := Option.some.inj h
        rw [← hQz, ← hy]
        exact xr_i (v := (0 : Int32)) hx hb hr rfl hlk hK hw dX8_obey_108
    · have h := z_t h c
      refine lv_iconst (v := 0) hx hb dX8_obey_75 (by decide) ?_
      have hy := Option.some.inj h
      rw [← hQz, ← hy]
      exact xr_i (v := (0 : Int32)) hx hb hr rfl hlk hK hw dX8_obey_76
  · have h := z_f h c
    refine lv_iconst (v := 1) hx hb dX8_obey_44 (by decide) ?_
    have hy := Option.some.inj h
    rw [← hQz, ← hy]
    exact xr_i (v := (1 : Int32)) hx hb hr rfl hlk hK hw dX8_obey_45

def lb_X8_orders_89 (nc_me_reader_code : Nat) (ns_me_reader_code : Nat) (o_me_isles : Ob) (o_pool : List CR) (rec_78_0 : Int32 × Ob × Ob × Ob × Ob × Ob × Ob × Ob × Ob × Ob → Option (Int32 × Ob × Ob × Ob × Ob × Ob × Ob × Ob × Ob × Ob)) (rec_89_1 : Int32 × Int32 × Ob × Ob × Ob × Ob × Ob × Ob × Ob × Ob × Ob → Option (Int32 × Ob × Ob × Ob × Ob × Ob × Ob × Ob × Ob × Ob)) (v3 : Int32) (v4 : Int32) (o_me : Ob) (o_me_reader : Ob) (o_me_reader_code : Ob) (o_me_machine : Ob) (o_me_isles_now : Ob) (o_me_court : Ob) (o_me_past : Ob) (o_me_pastAhead : Ob) (o_me_movingAhead : Ob) : Option (Int32 × Ob × Ob × Ob × Ob × Ob × Ob × Ob × Ob × Ob) :=
  zgd (zin v3 nc_me_reader_code) <|
  if (gA o_me_reader_code 1 v3.toNatClampNeg) ≤ v4 then
  (zlt (v3 + (1 : Int32)) fun x10 =>
  rec_78_0 (x10, o_me, o_me_reader, o_me_reader_code, o_me_machine, o_me_isles_now, o_me_court, o_me_past, o_me_pastAhead, o_me_movingAhead))
  else
  ((f_X8_obey_O nc_me_reader_code ns_me_reader_code o_me o_me_machine o_me_isles o_me_isles_now o_me_court o_me_past o_pool o_me_reader_code v3).bind fun z11 =>
  if z11.1 = (0 : Int32) then
  (zlt (sI z11.2.1 14 v3) fun o13 =>
  (f_X4_set_O z11.2.2.2.1 o_me_movingAhead).bind fun z14 =>
  (f_X5_set_O z11.2.2.2.2.2 o_me_pastAhead).bind fun z15 =>
  (f_X8_refuse o13 (-3 : Int32)).bind fun z16 =>
  some (z16.1, z16.2, o_me_reader, o_me_reader_code, z11.2.2.1, z14, z11.2.2.2.2.1, z15, o_me_pastAhead, o_me_movingAhead))
  else
  (zlt (v4 + (1 : Int32)) fun x12 =>
  rec_89_1 (v3, x12, z11.2.1, o_me_reader, o_me_reader_code, z11.2.2.1, z11.2.2.2.1, z11.2.2.2.2.1, z11.2.2.2.2.2, o_me_pastAhead, o_me_movingAhead)))
def lp_X8_orders_89 (nc_me_reader_code : Nat) (ns_me_reader_code : Nat) (o_me_isles : Ob) (o_pool : List CR) (rec_78_0 : Int32 × Ob × Ob × Ob × Ob × Ob × Ob × Ob × Ob × Ob → Option (Int32 × Ob × Ob × Ob × Ob × Ob × Ob × Ob × Ob × Ob)) : Nat → (Int32 × Int32 × Ob × Ob × Ob × Ob × Ob × Ob × Ob × Ob × Ob) → Option (Int32 × Ob × Ob × Ob × Ob × Ob × Ob × Ob × Ob × Ob) := zit (fun rec a => lb_X8_orders_89 nc_me_reader_code ns_me_reader_code o_me_isles o_pool rec_78_0 rec a.1 a.2.1 a.2.2.1 a.2.2.2.1 a.2.2.2.2.1 a.2.2.2.2.2.1 a.2.2.2.2.2.2.1 a.2.2.2.2.2.2.2.1 a.2.2.2.2.2.2.2.2.1 a.2.2.2.2.2.2.2.2.2.1 a.2.2.2.2.2.2.2.2.2.2)
def lb_X8_orders_78 (nc_me_reader_code : Nat) (ns_me_reader_code : Nat) (o_me_isles : Ob) (o_pool : List CR)  (rec_78_0 : Int32 × Ob × Ob × Ob × Ob × Ob × Ob × Ob × Ob × Ob → Option (Int32 × Ob × Ob × Ob × Ob × Ob × Ob × Ob × Ob × Ob)) (v3 : Int32) (o_me : Ob) (o_me_reader : Ob) (o_me_reader_code : Ob) (o_me_machine : Ob) (o_me_isles_now : Ob) (o_me_court : Ob) (o_me_past : Ob) (o_me_pastAhead : Ob) (o_me_movingAhead : Ob) : Option (Int32 × Ob × Ob × Ob × Ob × Ob × Ob × Ob × Ob × Ob) :=
  if (gI o_me_reader_code 7) ≤ v3 then
  ((f_X8_grant o_me (gI o_me 15)).bind fun z8 =>
  some (z8.1, z8.2, o_me_reader, o_me_reader_code, o_me_machine, o_me_isles_now, o_me_court, o_me_past, o_me_pastAhead, o_me_movingAhead))
  else
  (lp_X8_orders_89 nc_me_reader_code ns_me_reader_code o_me_isles o_pool rec_78_0 zfu (v3, (0 : Int32), o_me, o_me_reader, o_me_reader_code, o_me_machine, o_me_isles_now, o_me_court, o_me_past, o_me_pastAhead, o_me_movingAhead))
def lp_X8_orders_78 (nc_me_reader_code : Nat) (ns_me_reader_code : Nat) (o_me_isles : Ob) (o_pool : List CR)  : Nat → (Int32 × Ob × Ob × Ob × Ob × Ob × Ob × Ob × Ob × Ob) → Option (Int32 × Ob × Ob × Ob × Ob × Ob × Ob × Ob × Ob × Ob) := zit (fun rec a => lb_X8_orders_78 nc_me_reader_code ns_me_reader_code o_me_isles o_pool  rec a.1 a.2.1 a.2.2.1 a.2.2.2.1 a.2.2.2.2.1 a.2.2.2.2.2.1 a.2.2.2.2.2.2.1 a.2.2.2.2.2.2.2.1 a.2.2.2.2.2.2.2.2.1 a.2.2.2.2.2.2.2.2.2)
def f_X8_orders (nc_me_reader_code : Nat) (ns_me_reader_code : Nat) (o_me : Ob) (o_me_reader : Ob) (o_me_reader_code : Ob) (o_me_machine : Ob) (o_me_isles : Ob) (o_me_isles_now : Ob) (o_me_court : Ob) (o_me_past : Ob) (o_me_pastAhead : Ob) (o_me_movingAhead : Ob) (o_pool : List CR) : Option (Int32 × Ob × Ob × Ob × Ob × Ob × Ob × Ob × Ob × Ob) :=
  zlt (sI o_me 14 (-1 : Int32)) fun o1 =>
  (f_X6_readText nc_me_reader_code ns_me_reader_code o_me_reader o_me_reader_code (0 : Int32)).bind fun z2 =>
  zlt (sI z2.2.1 2 (0 : Int32)) fun o3 =>
  if z2.1 = (0 : Int32) then
  ((f_X8_refuse o1 (-6 : Int32)).bind fun z17 =>
  some (z17.1, z17.2, o3, z2.2.2, o_me_machine, o_me_isles_now, o_me_court, o_me_past, o_me_pastAhead, o_me_movingAhead))
  else
  ((f_X4_set_O o_me_movingAhead o_me_isles_now).bind fun z4 =>
  (f_X5_set_O o_me_pastAhead o_me_past).bind fun z5 =>
  zlt (sI o1 15 (0 : Int32)) fun o6 =>
  zlt (sI o6 16 (-1 : Int32)) fun o7 =>
  lp_X8_orders_78 nc_me_reader_code ns_me_reader_code o_me_isles o_pool  zfu ((0 : Int32), o7, o3, z2.2.2, o_me_machine, o_me_isles_now, o_me_court, o_me_past, z5, z4))
set_option maxHeartbeats 4000000 in
set_option maxRecDepth 100000 in
theorem m_X8_orders (l : Launch) (dC : Nat → ClassId) (dI : Nat → Nat → Nat) (sz : Nat) (h_me : Nat) (h_me_reader : Nat) (h_me_machine : Nat) (h_me_isles : Nat) (h_me_court : Nat) (h_me_study : Nat) (h_me_paper : Nat) (h_me_paperCourt : Nat) (h_me_past : Nat) (h_me_pastAhead : Nat) (h_me_movingAhead : Nat) (h_me_reader_code : Nat) (h_me_isles_now : Nat) (q_me : Nat → Nat) (k_me : Nat → ClassId) (q_me_reader : Nat → Nat) (k_me_reader : Nat → ClassId) (q_me_reader_code : Nat → Nat) (k_me_reader_code : Nat → ClassId) (q_me_machine : Nat → Nat) (k_me_machine : Nat → ClassId) (q_me_isles : Nat → Nat) (k_me_isles : Nat → ClassId) (q_me_isles_now : Nat → Nat) (k_me_isles_now : Nat → ClassId) (q_me_court : Nat → Nat) (k_me_court : Nat → ClassId) (q_me_past : Nat → Nat) (k_me_past : Nat → ClassId) (q_me_pastAhead : Nat → Nat) (k_me_pastAhead : Nat → ClassId) (q_me_movingAhead : Nat → Nat) (k_me_movingAhead : Nat → ClassId) (nc_me_reader_code : Nat) (ns_me_reader_code : Nat) (o_me : Ob) (o_me_reader : Ob) (o_me_reader_code : Ob) (o_me_machine : Ob) (o_me_isles : Ob) (o_me_isles_now : Ob) (o_me_court : Ob) (o_me_past : Ob) (o_me_pastAhead : Ob) (o_me_movingAhead : Ob) (o_pool : List CR) (y : Int32 × Ob × Ob × Ob × Ob × Ob × Ob × Ob × Ob × Ob) (h : f_X8_orders nc_me_reader_code ns_me_reader_code o_me o_me_reader o_me_reader_code o_me_machine o_me_isles o_me_isles_now o_me_court o_me_past o_me_pastAhead o_me_movingAhead o_pool = some y) : CI l yX8_orders cX8_orders 5 (some .int) ({ frames := 933, cells := 0, slots := 0, locals := 20757 } : Room) dC dI sz [.ref h_me] [wX8 h_me h_me_reader h_me_machine h_me_isles h_me_court h_me_study h_me_paper h_me_paperCourt h_me_past h_me_pastAhead h_me_movingAhead q_me k_me o_me, wX6 h_me_reader h_me_reader_code q_me_reader k_me_reader o_me_reader, wX0 h_me_reader_code nc_me_reader_code ns_me_reader_code q_me_reader_code k_me_reader_code o_me_reader_code, wX3 h_me_machine q_me_machine k_me_machine o_me_machine, wX2 h_me_isles h_me_isles_now q_me_isles k_me_isles o_me_isles, wX4 h_me_isles_now q_me_isles_now k_me_isles_now o_me_isles_now, wX1 h_me_court h_me_isles h_me_machine q_me_court k_me_court o_me_court, wX5 h_me_past q_me_past k_me_past o_me_past, wX5 h_me_pastAhead q_me_pastAhead k_me_pastAhead o_me_pastAhead, wX4 h_me_movingAhead q_me_movingAhead k_me_movingAhead o_me_movingAhead, wPL o_pool] [tX8 k_me, tX6 k_me_reader, tX0 k_me_reader_code, tX3 k_me_machine, tX2 k_me_isles, tX4 k_me_isles_now, tX1 k_me_court, tX5 k_me_past, tX5 k_me_pastAhead, tX4 k_me_movingAhead, tPL o_pool] y.1 [wX8 h_me h_me_reader h_me_machine h_me_isles h_me_court h_me_study h_me_paper h_me_paperCourt h_me_past h_me_pastAhead h_me_movingAhead q_me k_me y.2.1, wX6 h_me_reader h_me_reader_code q_me_reader k_me_reader y.2.2.1, wX0 h_me_reader_code nc_me_reader_code ns_me_reader_code q_me_reader_code k_me_reader_code y.2.2.2.1, wX3 h_me_machine q_me_machine k_me_machine y.2.2.2.2.1, wX2 h_me_isles h_me_isles_now q_me_isles k_me_isles o_me_isles, wX4 h_me_isles_now q_me_isles_now k_me_isles_now y.2.2.2.2.2.1, wX1 h_me_court h_me_isles h_me_machine q_me_court k_me_court y.2.2.2.2.2.2.1, wX5 h_me_past q_me_past k_me_past y.2.2.2.2.2.2.2.1, wX5 h_me_pastAhead q_me_pastAhead k_me_pastAhead y.2.2.2.2.2.2.2.2.1, wX4 h_me_movingAhead q_me_movingAhead k_me_movingAhead y.2.2.2.2.2.2.2.2.2, wPL o_pool] := by
  refine CC_of (by decide) (Nat.le_of_ble_eq_true rfl) ?_
  intro p e s m below meth c A ls hx hb hml hr hlk hnm hown hts hX hK hP hD hA hl
  have hl : lv_has ls 5 [(0, .ref h_me)] := hl
  have hown : s.vm.findClass RX8 = some m.cls := hown
  have hw : Wd dC dI A s.heap [wX8 h_me h_me_reader h_me_machine h_me_isles h_me_court h_me_study h_me_paper h_me_paperCourt h_me_past h_me_pastAhead h_me_movingAhead q_me k_me o_me, wX6 h_me_reader h_me_reader_code q_me_reader k_me_reader o_me_reader, wX0 h_me_reader_code nc_me_reader_code ns_me_reader_code q_me_reader_code k_me_reader_code o_me_reader_code, wX3 h_me_machine q_me_machine k_me_machine o_me_machine, wX2 h_me_isles h_me_isles_now q_me_isles k_me_isles o_me_isles, wX4 h_me_isles_now q_me_isles_now k_me_isles_now o_me_isles_now, wX1 h_me_court h_me_isles h_me_machine q_me_court k_me_court o_me_court, wX5 h_me_past q_me_past k_me_past o_me_past, wX5 h_me_pastAhead q_me_pastAhead k_me_pastAhead o_me_pastAhead, wX4 h_me_movingAhead q_me_movingAhead k_me_movingAhead o_me_movingAhead, wPL o_pool] s.heap [] := ⟨hP, hD, va_S.rf⟩
  generalize hQz : (MQ below (QI dC dI (fun r (_ : Unit) => r = y.1) (fun _ => Jn [wX8 h_me h_me_reader h_me_machine h_me_isles h_me_court h_me_study h_me_paper h_me_paperCourt h_me_past h_me_pastAhead h_me_movingAhead q_me k_me y.2.1, wX6 h_me_reader h_me_reader_code q_me_reader k_me_reader y.2.2.1, wX0 h_me_reader_code nc_me_reader_code ns_me_reader_code q_me_reader_code k_me_reader_code y.2.2.2.1, wX3 h_me_machine q_me_machine k_me_machine y.2.2.2.2.1, wX2 h_me_isles h_me_isles_now q_me_isles k_me_isles o_me_isles, wX4 h_me_isles_now q_me_isles_now k_me_isles_now y.2.2.2.2.2.1, wX1 h_me_court h_me_isles h_me_machine q_me_court k_me_court y.2.2.2.2.2.2.1, wX5 h_me_past q_me_past k_me_past y.2.2.2.2.2.2.2.1, wX5 h_me_pastAhead q_me_pastAhead k_me_pastAhead y.2.2.2.2.2.2.2.2.1, wX4 h_me_movingAhead q_me_movingAhead k_me_movingAhead y.2.2.2.2.2.2.2.2.2, wPL o_pool]) (fun _ => Jt [tX8 k_me, tX6 k_me_reader, tX0 k_me_reader_code, tX3 k_me_machine, tX2 k_me_isles, tX4 k_me_isles_now, tX1 k_me_court, tX5 k_me_past, tX5 k_me_pastAhead, tX4 k_me_movingAhead, tPL o_pool]) A) ([.ref h_me] : List Value).toArray s 0 0 A) = Qz
  clear hP hD hnm
  have lp_89_1 : ∀ (rec_78_0 : Int32 × Ob × Ob × Ob × Ob × Ob × Ob × Ob × Ob × Ob → Option (Int32 × Ob × Ob × Ob × Ob × Ob × Ob × Ob × Ob × Ob)) (hrec_78_0 : ∀ (v3 : Int32) (o_me : Ob) (o_me_reader : Ob) (o_me_reader_code : Ob) (o_me_machine : Ob) (o_me_isles_now : Ob) (o_me_court : Ob) (o_me_past : Ob) (o_me_pastAhead : Ob) (o_me_movingAhead : Ob) (H : Heap) (locs : List Loc) (ls : Array Slot), rec_78_0 (v3, o_me, o_me_reader, o_me_reader_code, o_me_machine, o_me_isles_now, o_me_court, o_me_past, o_me_pastAhead, o_me_movingAhead) = some y → Wd dC dI A s.heap [wX8 h_me h_me_reader h_me_machine h_me_isles h_me_court h_me_study h_me_paper h_me_paperCourt h_me_past h_me_pastAhead h_me_movingAhead q_me k_me o_me, wX6 h_me_reader h_me_reader_code q_me_reader k_me_reader o_me_reader, wX0 h_me_reader_code nc_me_reader_code ns_me_reader_code q_me_reader_code k_me_reader_code o_me_reader_code, wX3 h_me_machine q_me_machine k_me_machine o_me_machine, wX2 h_me_isles h_me_isles_now q_me_isles k_me_isles o_me_isles, wX4 h_me_isles_now q_me_isles_now k_me_isles_now o_me_isles_now, wX1 h_me_court h_me_isles h_me_machine q_me_court k_me_court o_me_court, wX5 h_me_past q_me_past k_me_past o_me_past, wX5 h_me_pastAhead q_me_pastAhead k_me_pastAhead o_me_pastAhead, wX4 h_me_movingAhead q_me_movingAhead k_me_movingAhead o_me_movingAhead, wPL o_pool] H locs → lv_has ls 5 [(0, .ref h_me), (2, .ref h_me_reader_code), (3, .int v3)] → W p l e ({ frames := 933, cells := 0, slots := 0, locals := 20757 } : Room) s m ([.ref h_me] : List Value).toArray below meth c H locs 0 0 Qz (F0 m 78 ls [])) (N : Nat), ∀ (v3 : Int32) (v4 : Int32) (o_me : Ob) (o_me_reader : Ob) (o_me_reader_code : Ob) (o_me_machine : Ob) (o_me_isles_now : Ob) (o_me_court : Ob) (o_me_past : Ob) (o_me_pastAhead : Ob) (o_me_movingAhead : Ob) (H : Heap) (locs : List Loc) (ls : Array Slot), lp_X8_orders_89 nc_me_reader_code ns_me_reader_code o_me_isles o_pool rec_78_0 N (v3, v4, o_me, o_me_reader, o_me_reader_code, o_me_machine, o_me_isles_now, o_me_court, o_me_past, o_me_pastAhead, o_me_movingAhead) = some y → Wd dC dI A s.heap [wX8 h_me h_me_reader h_me_machine h_me_isles h_me_court h_me_study h_me_paper h_me_paperCourt h_me_past h_me_pastAhead h_me_movingAhead q_me k_me o_me, wX6 h_me_reader h_me_reader_code q_me_reader k_me_reader o_me_reader, wX0 h_me_reader_code nc_me_reader_code ns_me_reader_code q_me_reader_code k_me_reader_code o_me_reader_code, wX3 h_me_machine q_me_machine k_me_machine o_me_machine, wX2 h_me_isles h_me_isles_now q_me_isles k_me_isles o_me_isles, wX4 h_me_isles_now q_me_isles_now k_me_isles_now o_me_isles_now, wX1 h_me_court h_me_isles h_me_machine q_me_court k_me_court o_me_court, wX5 h_me_past q_me_past k_me_past o_me_past, wX5 h_me_pastAhead q_me_pastAhead k_me_pastAhead o_me_pastAhead, wX4 h_me_movingAhead q_me_movingAhead k_me_movingAhead o_me_movingAhead, wPL o_pool] H locs → lv_has ls 5 [(0, .ref h_me), (2, .ref h_me_reader_code), (3, .int v3), (4, .int v4)] → W p l e ({ frames := 933, cells := 0, slots := 0, locals := 20757 } : Room) s m ([.ref h_me] : List Value).toArray below meth c H locs 0 0 Qz (F0 m 89 ls []) := by
    intro rec_78_0 hrec_78_0
    intro N
    induction N with
    | zero =>
      intro v3 v4 o_me o_me_reader o_me_reader_code o_me_machine o_me_isles_now o_me_court o_me_past o_me_pastAhead o_me_movingAhead H locs ls h hw hl
      exact absurd (show (none : Option (Int32 × Ob × Ob × Ob × Ob × Ob × Ob × Ob × Ob × Ob)) = some y from h) (by simp)
    | succ N ih =>
      intro v3 v4 o_me o_me_reader o_me_reader_code o_me_machine o_me_isles_now o_me_court o_me_past o_me_pastAhead o_me_movingAhead H locs ls h hw hl
      have h : lb_X8_orders_89 nc_me_reader_code ns_me_reader_code o_me_isles o_pool rec_78_0 (lp_X8_orders_89 nc_me_reader_code ns_me_reader_code o_me_isles o_pool rec_78_0 N) v3 v4 o_me o_me_reader o_me_reader_code o_me_machine o_me_isles_now o_me_court o_me_past o_me_pastAhead o_me_movingAhead = some y := h
      unfold lb_X8_orders_89 at h
      refine lv_iload hx hb dX8_orders_89 (lv_at hl 3 rfl) ?_
      refine lv_aload_n hx hb dX8_orders_91 rfl (lv_at hl 1 rfl) ?_
      refine fgX0_1 hx hb hts hown hK hw 2 rfl kw157 dX8_orders_92 ?_
      refine lv_iload_n hx hb dX8_orders_95 rfl (lv_at hl 2 rfl) ?_
      obtain ⟨g9, h⟩ := z_gd h
      refine faX0_1 hx hb hK hw 2 rfl rfl g9 dX8_orders_96 ?_
      refine lv_icmp_ge (tgt := 152) hx hb dX8_orders_97 (by decide) (fun c => ?_) (fun c => ?_)
      · have h := z_t h c
        obtain ⟨x10, ex10, h⟩ := z_lt h
        refine lv_iinc (v := x10) (lv' := [(3, .int x10), (0, .ref h_me), (2, .ref h_me_reader_code), (4, .int v4)]) hx hb dX8_orders_152 hl (k := 2) rfl ((congrArg (v3 + ·) (show Int32.ofInt 1 = (1 : Int32) from by decide)).trans ex10.symm) (by decide) rfl (fun ls hl => ?_)
        refine lv_goto (tgt := 78) hx hb dX8_orders_155 (by decide) ?_
        exact hrec_78_0 x10 o_me o_me_reader o_me_reader_code o_me_machine o_me_isles_now o_me_court o_me_past o_me_pastAhead o_me_movingAhead _ _ _ h hw (lv_sub hl [1, 2, 0] rfl)
      · have h := z_f h c
        refine lv_aload_n hx hb dX8_orders_100 rfl (lv_at hl 0 rfl) ?_
        refine lv_aload_n hx hb dX8_orders_101 rfl (lv_at hl 1 rfl) ?_
        refine lv_iload_n hx hb dX8_orders_102 rfl (lv_at hl 2 rfl) ?_
        obtain ⟨z11, ez11, h⟩ := z_bd h
        refine xj_i (xrV (As := [.ref h_me_reader_code, .int v3]) (rest := []) ⟨hx, hb, hml, hown, hts⟩ (m_X8_obey_O l dC dI _ h_me h_me_reader h_me_machine h_me_isles h_me_court h_me_study h_me_paper h_me_paperCourt h_me_past h_me_pastAhead h_me_movingAhead h_me_isles_now h_me_reader_code q_me k_me q_me_machine k_me_machine q_me_isles k_me_isles q_me_isles_now k_me_isles_now q_me_court k_me_court q_me_past k_me_past q_me_reader_code k_me_reader_code nc_me_reader_code ns_me_reader_code o_me o_me_machine o_me_isles o_me_isles_now o_me_court o_me_past o_pool o_me_reader_code v3 z11 ez11) kw835 kw832 kw834 kw19 kw110 hd_X8_obey ⟨rfl, rfl⟩ rfl rfl ⟨rfl, rfl⟩ hX hK hw [0, 3, 4, 5, 6, 7, 10, 2] (by decide) rfl rfl rfl rfl rfl hl.1 rfl rfl dX8_orders_103) hw hA [0, 3, 4, 5, 6, 7, 10, 2] (by decide) rfl rfl (fun H locs hw => ?_)
        have hw : Wd dC dI A s.heap [wX8 h_me h_me_reader h_me_machine h_me_isles h_me_court h_me_study h_me_paper h_me_paperCourt h_me_past h_me_pastAhead h_me_movingAhead q_me k_me z11.2.1, wX6 h_me_reader h_me_reader_code q_me_reader k_me_reader o_me_reader, wX0 h_me_reader_code nc_me_reader_code ns_me_reader_code q_me_reader_code k_me_reader_code o_me_reader_code, wX3 h_me_machine q_me_machine k_me_machine z11.2.2.1, wX2 h_me_isles h_me_isles_now q_me_isles k_me_isles o_me_isles, wX4 h_me_isles_now q_me_isles_now k_me_isles_now z11.2.2.2.1, wX1 h_me_court h_me_isles h_me_machine q_me_court k_me_court z11.2.2.2.2.1, wX5 h_me_past q_me_past k_me_past z11.2.2.2.2.2, wX5 h_me_pastAhead q_me_pastAhead k_me_pastAhead o_me_pastAhead, wX4 h_me_movingAhead q_me_movingAhead k_me_movingAhead o_me_movingAhead, wPL o_pool] H locs := hw
        refine lv_if_ne (tgt := 146) hx hb dX8_orders_106 (by decide) (fun c => ?_) (fun c => ?_)
        · have h := z_f h c
          obtain ⟨x12, ex12, h⟩ := z_lt h
          refine lv_iinc (v := x12) (lv' := [(4, .int x12), (0, .ref h_me), (2, .ref h_me_reader_code), (3, .int v3)]) hx hb dX8_orders_146 hl (k := 3) rfl ((congrArg (v4 + ·) (show Int32.ofInt 1 = (1 : Int32) from by decide)).trans ex12.symm) (by decide) rfl (fun ls hl => ?_)
          refine lv_goto (tgt := 89) hx hb dX8_orders_149 (by decide) ?_
          exact ih v3 x12 z11.2.1 o_me_reader o_me_reader_code z11.2.2.1 z11.2.2.2.1 z11.2.2.2.2.1 z11.2.2.2.2.2 o_me_pastAhead o_me_movingAhead _ _ _ h hw (lv_sub hl [1, 2, 3, 0] rfl)
        · have h := z_t h c
          refine lv_aload_n hx hb dX8_orders_109 rfl (lv_at hl 0 rfl) ?_
          refine lv_iload_n hx hb dX8_orders_110 rfl (lv_at hl 2 rfl) ?_
          refine fpX8_14 hx hb hts hown hK hw 0 rfl kw456 dX8_orders_111 (fun H locs hw => ?_)
          obtain ⟨o13, eo13, h⟩ := z_lt h
          have hw : Wd dC dI A s.heap [wX8 h_me h_me_reader h_me_machine h_me_isles h_me_court h_me_study h_me_paper h_me_paperCourt h_me_past h_me_pastAhead h_me_movingAhead q_me k_me o13, wX6 h_me_reader h_me_reader_code q_me_reader k_me_reader o_me_reader, wX0 h_me_reader_code nc_me_reader_code ns_me_reader_code q_me_reader_code k_me_reader_code o_me_reader_code, wX3 h_me_machine q_me_machine k_me_machine z11.2.2.1, wX2 h_me_isles h_me_isles_now q_me_isles k_me_isles o_me_isles, wX4 h_me_isles_now q_me_isles_now k_me_isles_now z11.2.2.2.1, wX1 h_me_court h_me_isles h_me_machine q_me_court k_me_court z11.2.2.2.2.1, wX5 h_me_past q_me_past k_me_past z11.2.2.2.2.2, wX5 h_me_pastAhead q_me_pastAhead k_me_pastAhead o_me_pastAhead, wX4 h_me_movingAhead q_me_movingAhead k_me_movingAhead o_me_movingAhead, wPL o_pool] H locs := by rw [eo13]; exact hw
          refine lv_aload_n hx hb dX8_orders_114 rfl (lv_at hl 0 rfl) ?_
          refine fgX8_2 hx hb hts hown hK hw 0 rfl kw444 dX8_orders_115 ?_
          refine fgX2_0 hx hb hts hown hK hw 4 rfl kw297 dX8_orders_118 ?_
          refine lv_aload_n hx hb dX8_orders_121 rfl (lv_at hl 0 rfl) ?_
          refine fgX8_10 hx hb hts hown hK hw 0 rfl kw452 dX8_orders_122 ?_
          obtain ⟨z14, ez14, h⟩ := z_bd h
          refine xj_v (xrV (As := [.ref h_me_movingAhead]) (rest := []) ⟨hx, hb, hml, hown, hts⟩ (m_X4_set_O l dC dI _ h_me_isles_now h_me_movingAhead q_me_isles_now k_me_isles_now q_me_movingAhead k_me_movingAhead z11.2.2.2.1 o_me_movingAhead z14 ez14) kw825 kw822 kw823 kw824 kw116 hd_X4_set ⟨rfl, rfl⟩ rfl rfl ⟨rfl, rfl⟩ hX hK hw [5, 9] (by decide) rfl rfl rfl rfl rfl hl.1 rfl rfl dX8_orders_125) hw hA [5, 9] (by decide) rfl rfl (fun H locs hw => ?_)
          have hw : Wd dC dI A s.heap [wX8 h_me h_me_reader h_me_machine h_me_isles h_me_court h_me_study h_me_paper h_me_paperCourt h_me_past h_me_pastAhead h_me_movingAhead q_me k_me o13, wX6 h_me_reader h_me_reader_code q_me_reader k_me_reader o_me_reader, wX0 h_me_reader_code nc_me_reader_code ns_me_reader_code q_me_reader_code k_me_reader_code o_me_reader_code, wX3 h_me_machine q_me_machine k_me_machine z11.2.2.1, wX2 h_me_isles h_me_isles_now q_me_isles k_me_isles o_me_isles, wX4 h_me_isles_now q_me_isles_now k_me_isles_now z14, wX1 h_me_court h_me_isles h_me_machine q_me_court k_me_court z11.2.2.2.2.1, wX5 h_me_past q_me_past k_me_past z11.2.2.2.2.2, wX5 h_me_pastAhead q_me_pastAhead k_me_pastAhead o_me_pastAhead, wX4 h_me_movingAhead q_me_movingAhead k_me_movingAhead o_me_movingAhead, wPL o_pool] H locs := hw
          refine lv_aload_n hx hb dX8_orders_128 rfl (lv_at hl 0 rfl) ?_
          refine fgX8_8 hx hb hts hown hK hw 0 rfl kw450 dX8_orders_129 ?_
          refine lv_aload_n hx hb dX8_orders_132 rfl (lv_at hl 0 rfl) ?_
          refine fgX8_9 hx hb hts hown hK hw 0 rfl kw451 dX8_orders_133 ?_
          obtain ⟨z15, ez15, h⟩ := z_bd h
          refine xj_v (xrV (As := [.ref h_me_pastAhead]) (rest := []) ⟨hx, hb, hml, hown, hts⟩ (m_X5_set_O l dC dI _ h_me_past h_me_pastAhead q_me_past k_me_past q_me_pastAhead k_me_pastAhead z11.2.2.2.2.2 o_me_pastAhead z15 ez15) kw830 kw827 kw828 kw829 kw119 hd_X5_set ⟨rfl, rfl⟩ rfl rfl ⟨rfl, rfl⟩ hX hK hw [7, 8] (by decide) rfl rfl rfl rfl rfl hl.1 rfl rfl dX8_orders_136) hw hA [7, 8] (by decide) rfl rfl (fun H locs hw => ?_)
          have hw : Wd dC dI A s.heap [wX8 h_me h_me_reader h_me_machine h_me_isles h_me_court h_me_study h_me_paper h_me_paperCourt h_me_past h_me_pastAhead h_me_movingAhead q_me k_me o13, wX6 h_me_reader h_me_reader_code q_me_reader k_me_reader o_me_reader, wX0 h_me_reader_code nc_me_reader_code ns_me_reader_code q_me_reader_code k_me_reader_code o_me_reader_code, wX3 h_me_machine q_me_machine k_me_machine z11.2.2.1, wX2 h_me_isles h_me_isles_now q_me_isles k_me_isles o_me_isles, wX4 h_me_isles_now q_me_isles_now k_me_isles_now z14, wX1 h_me_court h_me_isles h_me_machine q_me_court k_me_court z11.2.2.2.2.1, wX5 h_me_past q_me_past k_me_past z15, wX5 h_me_pastAhead q_me_pastAhead k_me_pastAhead o_me_pastAhead, wX4 h_me_movingAhead q_me_movingAhead k_me_movingAhead o_me_movingAhead, wPL o_pool] H locs := hw
          refine lv_aload_n hx hb dX8_orders_139 rfl (lv_at hl 0 rfl) ?_
          refine lv_bipush (v := (-3)) hx hb dX8_orders_140 (by decide) ?_
          obtain ⟨z16, ez16, h⟩ := z_bd h
          refine xj_i (xrV (As := [.int (-3 : Int32)]) (rest := []) ⟨hx, hb, hml, hown, hts⟩ (m_X8_refuse l dC dI _ h_me h_me_reader h_me_machine h_me_isles h_me_court h_me_study h_me_paper h_me_paperCourt h_me_past h_me_pastAhead h_me_movingAhead q_me k_me o13 (-3 : Int32) z16 ez16) kw508 kw505 kw507 kw0 kw110 hd_X8_refuse ⟨rfl, rfl⟩ rfl rfl ⟨rfl, rfl⟩ hX hK hw [0] (by decide) rfl rfl rfl rfl rfl hl.1 rfl rfl dX8_orders_142) hw hA [0] (by decide) rfl rfl (fun H locs hw => ?_)
          have hw : Wd dC dI A s.heap [wX8 h_me h_me_reader h_me_machine h_me_isles h_me_court h_me_study h_me_paper h_me_paperCourt h_me_past h_me_pastAhead h_me_movingAhead q_me k_me z16.2, wX6 h_me_reader h_me_reader_code q_me_reader k_me_reader o_me_reader, wX0 h_me_reader_code nc_me_reader_code ns_me_reader_code q_me_reader_code k_me_reader_code o_me_reader_code, wX3 h_me_machine q_me_machine k_me_machine z11.2.2.1, wX2 h_me_isles h_me_isles_now q_me_isles k_me_isles o_me_isles, wX4 h_me_isles_now q_me_isles_now k_me_isles_now z14, wX1 h_me_court h_me_isles h_me_machine q_me_court k_me_court z11.2.2.2.2.1, wX5 h_me_past q_me_past k_me_past z15, wX5 h_me_pastAhead q_me_pastAhead k_me_pastAhead o_me_pastAhead, wX4 h_me_movingAhead q_me_movingAhead k_me_movingAhead o_me_movingAhead, wPL o_pool] H locs := hw
          have hy := Option.some.inj h
          rw [← hQz, ← hy]
          exact xr_i (v := z16.1) hx hb hr rfl hlk hK hw dX8_orders_145
  have lp_78_0 : ∀ (N : Nat), ∀ (v3 : Int32) (o_me : Ob) (o_me_reader : Ob) (o_me_reader_code : Ob) (o_me_machine : Ob) (o_me_isles_now : Ob) (o_me_court : Ob) (o_me_past : Ob) (o_me_pastAhead : Ob) (o_me_movingAhead : Ob) (H : Heap) (locs : List Loc) (ls : Array Slot), lp_X8_orders_78 nc_me_reader_code ns_me_reader_code o_me_isles o_pool  N (v3, o_me, o_me_reader, o_me_reader_code, o_me_machine, o_me_isles_now, o_me_court, o_me_past, o_me_pastAhead, o_me_movingAhead) = some y → Wd dC dI A s.heap [wX8 h_me h_me_reader h_me_machine h_me_isles h_me_court h_me_study h_me_paper h_me_paperCourt h_me_past h_me_pastAhead h_me_movingAhead q_me k_me o_me, wX6 h_me_reader h_me_reader_code q_me_reader k_me_reader o_me_reader, wX0 h_me_reader_code nc_me_reader_code ns_me_reader_code q_me_reader_code k_me_reader_code o_me_reader_code, wX3 h_me_machine q_me_machine k_me_machine o_me_machine, wX2 h_me_isles h_me_isles_now q_me_isles k_me_isles o_me_isles, wX4 h_me_isles_now q_me_isles_now k_me_isles_now o_me_isles_now, wX1 h_me_court h_me_isles h_me_machine q_me_court k_me_court o_me_court, wX5 h_me_past q_me_past k_me_past o_me_past, wX5 h_me_pastAhead q_me_pastAhead k_me_pastAhead o_me_pastAhead, wX4 h_me_movingAhead q_me_movingAhead k_me_movingAhead o_me_movingAhead, wPL o_pool] H locs → lv_has ls 5 [(0, .ref h_me), (2, .ref h_me_reader_code), (3, .int v3)] → W p l e ({ frames := 933, cells := 0, slots := 0, locals := 20757 } : Room) s m ([.ref h_me] : List Value).toArray below meth c H locs 0 0 Qz (F0 m 78 ls []) := by
    intro N
    induction N with
    | zero =>
      intro v3 o_me o_me_reader o_me_reader_code o_me_machine o_me_isles_now o_me_court o_me_past o_me_pastAhead o_me_movingAhead H locs ls h hw hl
      exact absurd (show (none : Option (Int32 × Ob × Ob × Ob × Ob × Ob × Ob × Ob × Ob × Ob)) = some y from h) (by simp)
    | succ N ih =>
      intro v3 o_me o_me_reader o_me_reader_code o_me_machine o_me_isles_now o_me_court o_me_past o_me_pastAhead o_me_movingAhead H locs ls h hw hl
      have h : lb_X8_orders_78 nc_me_reader_code ns_me_reader_code o_me_isles o_pool  (lp_X8_orders_78 nc_me_reader_code ns_me_reader_code o_me_isles o_pool  N) v3 o_me o_me_reader o_me_reader_code o_me_machine o_me_isles_now o_me_court o_me_past o_me_pastAhead o_me_movingAhead = some y := h
      unfold lb_X8_orders_78 at h
      refine lv_iload_n hx hb dX8_orders_78 rfl (lv_at hl 2 rfl) ?_
      refine lv_aload_n hx hb dX8_orders_79 rfl (lv_at hl 1 rfl) ?_
      refine fgX0_7 hx hb hts hown hK hw 2 rfl kw177 dX8_orders_80 ?_
      refine lv_icmp_ge (tgt := 158) hx hb dX8_orders_83 (by decide) (fun c => ?_) (fun c => ?_)
      · have h := z_t h c
        refine lv_aload_n hx hb dX8_orders_158 rfl (lv_at hl 0 rfl) ?_
        refine lv_aload_n hx hb dX8_orders_159 rfl (lv_at hl 0 rfl) ?_
        refine fgX8_15 hx hb hts hown hK hw 0 rfl kw457 dX8_orders_160 ?_
        obtain ⟨z8, ez8, h⟩ := z_bd h
        refine xj_i (xrV (As := [.int (gI o_me 15)]) (rest := []) ⟨hx, hb, hml, hown, hts⟩ (m_X8_grant l dC dI _ h_me h_me_reader h_me_machine h_me_isles h_me_court h_me_study h_me_paper h_me_paperCourt h_me_past h_me_pastAhead h_me_movingAhead q_me k_me o_me (gI o_me 15) z8 ez8) kw520 kw517 kw519 kw1 kw110 hd_X8_grant ⟨rfl, rfl⟩ rfl rfl ⟨rfl, rfl⟩ hX hK hw [0] (by decide) rfl rfl rfl rfl rfl hl.1 rfl rfl dX8_orders_163) hw hA [0] (by decide) rfl rfl (fun H locs hw => ?_)
        have hw : Wd dC dI A s.heap [wX8 h_me h_me_reader h_me_machine h_me_isles h_me_court h_me_study h_me_paper h_me_paperCourt h_me_past h_me_pastAhead h_me_movingAhead q_me k_me z8.2, wX6 h_me_reader h_me_reader_code q_me_reader k_me_reader o_me_reader, wX0 h_me_reader_code nc_me_reader_code ns_me_reader_code q_me_reader_code k_me_reader_code o_me_reader_code, wX3 h_me_machine q_me_machine k_me_machine o_me_machine, wX2 h_me_isles h_me_isles_now q_me_isles k_me_isles o_me_isles, wX4 h_me_isles_now q_me_isles_now k_me_isles_now o_me_isles_now, wX1 h_me_court h_me_isles h_me_machine q_me_court k_me_court o_me_court, wX5 h_me_past q_me_past k_me_past o_me_past, wX5 h_me_pastAhead q_me_pastAhead k_me_pastAhead o_me_pastAhead, wX4 h_me_movingAhead q_me_movingAhead k_me_movingAhead o_me_movingAhead, wPL o_pool] H locs := hw
        have hy := Option.some.inj h
        rw [← hQz, ← hy]
        exact xr_i (v := z8.1) hx hb hr rfl hlk hK hw dX8_orders_166
      · have h := z_f h c
        refine lv_iconst (v := 0) hx hb dX8_orders_86 (by decide) ?_
        refine lv_istore (lv' := [(4, .int (0 : Int32)), (0, .ref h_me), (2, .ref h_me_reader_code), (3, .int v3)]) hx hb dX8_orders_87 hl (by decide) rfl (fun ls hl => ?_)
        exact lp_89_1 (lp_X8_orders_78 nc_me_reader_code ns_me_reader_code o_me_isles o_pool  N) ih zfu v3 (0 : Int32) o_me o_me_reader o_me_reader_code o_me_machine o_me_isles_now o_me_court o_me_past o_me_pastAhead o_me_movingAhead _ _ _ h hw (lv_sub hl [1, 2, 3, 0] rfl)
  unfold f_X8_orders at h
  refine lv_aload_n hx hb dX8_orders_0 rfl (lv_at hl 0 rfl) ?_
  refine lv_iconst (v := (-1)) hx hb dX8_orders_1 (by decide) ?_
  refine fpX8_14 hx hb hts hown hK hw 0 rfl kw456 dX8_orders_2 (fun H locs hw => ?_)
  obtain ⟨o1, eo1, h⟩ := z_lt h
  have hw : Wd dC dI A s.heap [wX8 h_me h_me_reader h_me_machine h_me_isles h_me_court h_me_study h_me_paper h_me_paperCourt h_me_past h_me_pastAhead h_me_movingAhead q_me k_me o1, wX6 h_me_reader h_me_reader_code q_me_reader k_me_reader o_me_reader, wX0 h_me_reader_code nc_me_reader_code ns_me_reader_code q_me_reader_code k_me_reader_code o_me_reader_code, wX3 h_me_machine q_me_machine k_me_machine o_me_machine, wX2 h_me_isles h_me_isles_now q_me_isles k_me_isles o_me_isles, wX4 h_me_isles_now q_me_isles_now k_me_isles_now o_me_isles_now, wX1 h_me_court h_me_isles h_me_machine q_me_court k_me_court o_me_court, wX5 h_me_past q_me_past k_me_past o_me_past, wX5 h_me_pastAhead q_me_pastAhead k_me_pastAhead o_me_pastAhead, wX4 h_me_movingAhead q_me_movingAhead k_me_movingAhead o_me_movingAhead, wPL o_pool] H locs := by rw [eo1]; exact hw
  refine lv_aload_n hx hb dX8_orders_5 rfl (lv_at hl 0 rfl) ?_
  refine fgX8_0 hx hb hts hown hK hw 0 rfl kw442 dX8_orders_6 ?_
  refine lv_iconst (v := 0) hx hb dX8_orders_9 (by decide) ?_
  obtain ⟨z2, ez2, h⟩ := z_bd h
  refine xj_i (xrV (As := [.int (0 : Int32)]) (rest := []) ⟨hx, hb, hml, hown, hts⟩ (m_X6_readText l dC dI _ h_me_reader h_me_reader_code q_me_reader k_me_reader q_me_reader_code k_me_reader_code nc_me_reader_code ns_me_reader_code o_me_reader o_me_reader_code (0 : Int32) z2 ez2) kw667 kw664 kw665 kw666 kw111 hd_X6_readText ⟨rfl, rfl⟩ rfl rfl ⟨rfl, rfl⟩ hX hK hw [1, 2] (by decide) rfl rfl rfl rfl rfl hl.1 rfl rfl dX8_orders_10) hw hA [1, 2] (by decide) rfl rfl (fun H locs hw => ?_)
  have hw : Wd dC dI A s.heap [wX8 h_me h_me_reader h_me_machine h_me_isles h_me_court h_me_study h_me_paper h_me_paperCourt h_me_past h_me_pastAhead h_me_movingAhead q_me k_me o1, wX6 h_me_reader h_me_reader_code q_me_reader k_me_reader z2.2.1, wX0 h_me_reader_code nc_me_reader_code ns_me_reader_code q_me_reader_code k_me_reader_code z2.2.2, wX3 h_me_machine q_me_machine k_me_machine o_me_machine, wX2 h_me_isles h_me_isles_now q_me_isles k_me_isles o_me_isles, wX4 h_me_isles_now q_me_isles_now k_me_isles_now o_me_isles_now, wX1 h_me_court h_me_isles h_me_machine q_me_court k_me_court o_me_court, wX5 h_me_past q_me_past k_me_past o_me_past, wX5 h_me_pastAhead q_me_pastAhead k_me_pastAhead o_me_pastAhead, wX4 h_me_movingAhead q_me_movingAhead k_me_movingAhead o_me_movingAhead, wPL o_pool] H locs := hw
  refine lv_istore_n (lv' := [(1, .int z2.1), (0, .ref h_me)]) hx hb dX8_orders_13 rfl hl (by decide) rfl (fun ls hl => ?_)
  refine lv_aload_n hx hb dX8_orders_14 rfl (lv_at hl 1 rfl) ?_
  refine fgX8_0 hx hb hts hown hK hw 0 rfl kw442 dX8_orders_15 ?_
  refine lv_iconst (v := 0) hx hb dX8_orders_18 (by decide) ?_
  refine fpX6_2 hx hb hts hown hK hw 1 rfl kw205 dX8_orders_19 (fun H locs hw => ?_)
  obtain ⟨o3, eo3, h⟩ := z_lt h
  have hw : Wd dC dI A s.heap [wX8 h_me h_me_reader h_me_machine h_me_isles h_me_court h_me_study h_me_paper h_me_paperCourt h_me_past h_me_pastAhead h_me_movingAhead q_me k_me o1, wX6 h_me_reader h_me_reader_code q_me_reader k_me_reader o3, wX0 h_me_reader_code nc_me_reader_code ns_me_reader_code q_me_reader_code k_me_reader_code z2.2.2, wX3 h_me_machine q_me_machine k_me_machine o_me_machine, wX2 h_me_isles h_me_isles_now q_me_isles k_me_isles o_me_isles, wX4 h_me_isles_now q_me_isles_now k_me_isles_now o_me_isles_now, wX1 h_me_court h_me_isles h_me_machine q_me_court k_me_court o_me_court, wX5 h_me_past q_me_past k_me_past o_me_past, wX5 h_me_pastAhead q_me_pastAhead k_me_pastAhead o_me_pastAhead, wX4 h_me_movingAhead q_me_movingAhead k_me_movingAhead o_me_movingAhead, wPL o_pool] H locs := by rw [eo3]; exact hw
  refine lv_iload_n hx hb dX8_orders_22 rfl (lv_at hl 0 rfl) ?_
  refine lv_if_ne (tgt := 33) hx hb dX8_orders_23 (by decide) (fun c => ?_) (fun c => ?_)
  · have h := z_f h c
    refine lv_aload_n hx hb dX8_orders_33 rfl (lv_at hl 1 rfl) ?_
    refine fgX8_10 hx hb hts hown hK hw 0 rfl kw452 dX8_orders_34 ?_
    refine lv_aload_n hx hb dX8_orders_37 rfl (lv_at hl 1 rfl) ?_
    refine fgX8_2 hx hb hts hown hK hw 0 rfl kw444 dX8_orders_38 ?_
    refine fgX2_0 hx hb hts hown hK hw 4 rfl kw297 dX8_orders_41 ?_
    obtain ⟨z4, ez4, h⟩ := z_bd h
    refine xj_v (xrV (As := [.ref h_me_isles_now]) (rest := []) ⟨hx, hb, hml, hown, hts⟩ (m_X4_set_O l dC dI _ h_me_movingAhead h_me_isles_now q_me_movingAhead k_me_movingAhead q_me_isles_now k_me_isles_now o_me_movingAhead o_me_isles_now z4 ez4) kw825 kw822 kw823 kw824 kw116 hd_X4_set ⟨rfl, rfl⟩ rfl rfl ⟨rfl, rfl⟩ hX hK hw [9, 5] (by decide) rfl rfl rfl rfl rfl hl.1 rfl rfl dX8_orders_44) hw hA [9, 5] (by decide) rfl rfl (fun H locs hw => ?_)
    have hw : Wd dC dI A s.heap [wX8 h_me h_me_reader h_me_machine h_me_isles h_me_court h_me_study h_me_paper h_me_paperCourt h_me_past h_me_pastAhead h_me_movingAhead q_me k_me o1, wX6 h_me_reader h_me_reader_code q_me_reader k_me_reader o3, wX0 h_me_reader_code nc_me_reader_code ns_me_reader_code q_me_reader_code k_me_reader_code z2.2.2, wX3 h_me_machine q_me_machine k_me_machine o_me_machine, wX2 h_me_isles h_me_isles_now q_me_isles k_me_isles o_me_isles, wX4 h_me_isles_now q_me_isles_now k_me_isles_now o_me_isles_now, wX1 h_me_court h_me_isles h_me_machine q_me_court k_me_court o_me_court, wX5 h_me_past q_me_past k_me_past o_me_past, wX5 h_me_pastAhead q_me_pastAhead k_me_pastAhead o_me_pastAhead, wX4 h_me_movingAhead q_me_movingAhead k_me_movingAhead z4, wPL o_pool] H locs := hw
    refine lv_aload_n hx hb dX8_orders_47 rfl (lv_at hl 1 rfl) ?_
    refine fgX8_9 hx hb hts hown hK hw 0 rfl kw451 dX8_orders_48 ?_
    refine lv_aload_n hx hb dX8_orders_51 rfl (lv_at hl 1 rfl) ?_
    refine fgX8_8 hx hb hts hown hK hw 0 rfl kw450 dX8_orders_52 ?_
    obtain ⟨z5, ez5, h⟩ := z_bd h
    refine xj_v (xrV (As := [.ref h_me_past]) (rest := []) ⟨hx, hb, hml, hown, hts⟩ (m_X5_set_O l dC dI _ h_me_pastAhead h_me_past q_me_pastAhead k_me_pastAhead q_me_past k_me_past o_me_pastAhead o_me_past z5 ez5) kw830 kw827 kw828 kw829 kw119 hd_X5_set ⟨rfl, rfl⟩ rfl rfl ⟨rfl, rfl⟩ hX hK hw [8, 7] (by decide) rfl rfl rfl rfl rfl hl.1 rfl rfl dX8_orders_55) hw hA [8, 7] (by decide) rfl rfl (fun H locs hw => ?_)
    have hw : Wd dC dI A s.heap [wX8 h_me h_me_reader h_me_machine h_me_isles h_me_court h_me_study h_me_paper h_me_paperCourt h_me_past h_me_pastAhead h_me_movingAhead q_me k_me o1, wX6 h_me_reader h_me_reader_code q_me_reader k_me_reader o3, wX0 h_me_reader_code nc_me_reader_code ns_me_reader_code q_me_reader_code k_me_reader_code z2.2.2, wX3 h_me_machine q_me_machine k_me_machine o_me_machine, wX2 h_me_isles h_me_isles_now q_me_isles k_me_isles o_me_isles, wX4 h_me_isles_now q_me_isles_now k_me_isles_now o_me_isles_now, wX1 h_me_court h_me_isles h_me_machine q_me_court k_me_court o_me_court, wX5 h_me_past q_me_past k_me_past o_me_past, wX5 h_me_pastAhead q_me_pastAhead k_me_pastAhead z5, wX4 h_me_movingAhead q_me_movingAhead k_me_movingAhead z4, wPL o_pool] H locs := hw
    refine lv_aload_n hx hb dX8_orders_58 rfl (lv_at hl 1 rfl) ?_
    refine lv_iconst (v := 0) hx hb dX8_orders_59 (by decide) ?_
    refine fpX8_15 hx hb hts hown hK hw 0 rfl kw457 dX8_orders_60 (fun H locs hw => ?_)
    obtain ⟨o6, eo6, h⟩ := z_lt h
    have hw : Wd dC dI A s.heap [wX8 h_me h_me_reader h_me_machine h_me_isles h_me_court h_me_study h_me_paper h_me_paperCourt h_me_past h_me_pastAhead h_me_movingAhead q_me k_me o6, wX6 h_me_reader h_me_reader_code q_me_reader k_me_reader o3, wX0 h_me_reader_code nc_me_reader_code ns_me_reader_code q_me_reader_code k_me_reader_code z2.2.2, wX3 h_me_machine q_me_machine k_me_machine o_me_machine, wX2 h_me_isles h_me_isles_now q_me_isles k_me_isles o_me_isles, wX4 h_me_isles_now q_me_isles_now k_me_isles_now o_me_isles_now, wX1 h_me_court h_me_isles h_me_machine q_me_court k_me_court o_me_court, wX5 h_me_past q_me_past k_me_past o_me_past, wX5 h_me_pastAhead q_me_pastAhead k_me_pastAhead z5, wX4 h_me_movingAhead q_me_movingAhead k_me_movingAhead z4, wPL o_pool] H locs := by rw [eo6]; exact hw
    refine lv_aload_n hx hb dX8_orders_63 rfl (lv_at hl 1 rfl) ?_
    refine lv_iconst (v := (-1)) hx hb dX8_orders_64 (by decide) ?_
    refine fpX8_16 hx hb hts hown hK hw 0 rfl kw458 dX8_orders_65 (fun H locs hw => ?_)
    obtain ⟨o7, eo7, h⟩ := z_lt h
    have hw : Wd dC dI A s.heap [wX8 h_me h_me_reader h_me_machine h_me_isles h_me_court h_me_study h_me_paper h_me_paperCourt h_me_past h_me_pastAhead h_me_movingAhead q_me k_me o7, wX6 h_me_reader h_me_reader_code q_me_reader k_me_reader o3, wX0 h_me_reader_code nc_me_reader_code ns_me_reader_code q_me_reader_code k_me_reader_code z2.2.2, wX3 h_me_machine q_me_machine k_me_machine o_me_machine, wX2 h_me_isles h_me_isles_now q_me_isles k_me_isles o_me_isles, wX4 h_me_isles_now q_me_isles_now k_me_isles_now o_me_isles_now, wX1 h_me_court h_me_isles h_me_machine q_me_court k_me_court o_me_court, wX5 h_me_past q_me_past k_me_past o_me_past, wX5 h_me_pastAhead q_me_pastAhead k_me_pastAhead z5, wX4 h_me_movingAhead q_me_movingAhead k_me_movingAhead z4, wPL o_pool] H locs := by rw [eo7]; exact hw
    refine lv_aload_n hx hb dX8_orders_68 rfl (lv_at hl 1 rfl) ?_
    refine fgX8_0 hx hb hts hown hK hw 0 rfl kw442 dX8_orders_69 ?_
    refine fgX6_1 hx hb hts hown hK hw 1 rfl kw203 dX8_orders_72 ?_
    refine lv_astore_n (lv' := [(2, .ref h_me_reader_code), (1, .int z2.1), (0, .ref h_me)]) hx hb dX8_orders_75 rfl hl (by decide) rfl (fun ls hl => ?_)
    refine lv_iconst (v := 0) hx hb dX8_orders_76 (by decide) ?_
    refine lv_istore_n (lv' := [(3, .int (0 : Int32)), (2, .ref h_me_reader_code), (1, .int z2.1), (0, .ref h_me)]) hx hb dX8_orders_77 rfl hl (by decide) rfl (fun ls hl => ?_)
    exact lp_78_0  zfu (0 : Int32) o7 o3 z2.2.2 o_me_machine o_me_isles_now o_me_court o_me_past z5 z4 _ _ _ h hw (lv_sub hl [3, 1, 0] rfl)
  · have h := z_t h c
    refine lv_aload_n hx hb dX8_orders_26 rfl (lv_at hl 1 rfl) ?_
    refine lv_bipush (v := (-6)) hx hb dX8_orders_27 (by decide) ?_
    obtain ⟨z17, ez17, h⟩ := z_bd h
    refine xj_i (xrV (As := [.int (-6 : Int32)]) (rest := []) ⟨hx, hb, hml, hown, hts⟩ (m_X8_refuse l dC dI _ h_me h_me_reader h_me_machine h_me_isles h_me_court h_me_study h_me_paper h_me_paperCourt h_me_past h_me_pastAhead h_me_movingAhead q_me k_me o1 (-6 : Int32) z17 ez17) kw508 kw505 kw507 kw0 kw110 hd_X8_refuse ⟨rfl, rfl⟩ rfl rfl ⟨rfl, rfl⟩ hX hK hw [0] (by decide) rfl rfl rfl rfl rfl hl.1 rfl rfl dX8_orders_29) hw hA [0] (by decide) rfl rfl (fun H locs hw => ?_)
    have hw : Wd dC dI A s.heap [wX8 h_me h_me_reader h_me_machine h_me_isles h_me_court h_me_study h_me_paper h_me_paperCourt h_me_past h_me_pastAhead h_me_movingAhead q_me k_me z17.2, wX6 h_me_reader h_me_reader_code q_me_reader k_me_reader o3, wX0 h_me_reader_code nc_me_reader_code ns_me_reader_code q_me_reader_code k_me_reader_code z2.2.2, wX3 h_me_machine q_me_machine k_me_machine o_me_machine, wX2 h_me_isles h_me_isles_now q_me_isles k_me_isles o_me_isles, wX4 h_me_isles_now q_me_isles_now k_me_isles_now o_me_isles_now, wX1 h_me_court h_me_isles h_me_machine q_me_court k_me_court o_me_court, wX5 h_me_past q_me_past k_me_past o_me_past, wX5 h_me_pastAhead q_me_pastAhead k_me_pastAhead o_me_pastAhead, wX4 h_me_movingAhead q_me_movingAhead k_me_movingAhead o_me_movingAhead, wPL o_pool] H locs := hw
    have hy := Option.some.inj h
    rw [← hQz, ← hy]
    exact xr_i (v := z17.1) hx hb hr rfl hlk hK hw dX8_orders_32

def f_X8_pass (o_me : Ob) (o_me_machine : Ob) (o_me_isles : Ob) (o_me_isles_now : Ob) (o_me_court : Ob) (o_me_past : Ob) (o_pool : List CR) : Option (Int32 × Ob × Ob × Ob × Ob × Ob) :=
  (f_X1_moved_O o_me_court o_me_isles o_me_isles_now o_me_machine o_pool o_me_past (3 : Int32) (0 : Int32)).bind fun z1 =>
  (f_X8_answer o_me z1.1).bind fun z2 =>
  some (z2.1, z2.2, z1.2.2.2.1, z1.2.2.1, z1.2.1, z1.2.2.2.2)
set_option maxHeartbeats 4000000 in
set_option maxRecDepth 100000 in
theorem m_X8_pass (l : Launch) (dC : Nat → ClassId) (dI : Nat → Nat → Nat) (sz : Nat) (h_me : Nat) (h_me_reader : Nat) (h_me_machine : Nat) (h_me_isles : Nat) (h_me_court : Nat) (h_me_study : Nat) (h_me_paper : Nat) (h_me_paperCourt : Nat) (h_me_past : Nat) (h_me_pastAhead : Nat) (h_me_movingAhead : Nat) (h_me_isles_now : Nat) (q_me : Nat → Nat) (k_me : Nat → ClassId) (q_me_machine : Nat → Nat) (k_me_machine : Nat → ClassId) (q_me_isles : Nat → Nat) (k_me_isles : Nat → ClassId) (q_me_isles_now : Nat → Nat) (k_me_isles_now : Nat → ClassId) (q_me_court : Nat → Nat) (k_me_court : Nat → ClassId) (q_me_past : Nat → Nat) (k_me_past : Nat → ClassId) (o_me : Ob) (o_me_machine : Ob) (o_me_isles : Ob) (o_me_isles_now : Ob) (o_me_court : Ob) (o_me_past : Ob) (o_pool : List CR) (y : Int32 × Ob × Ob × Ob × Ob × Ob) (h : f_X8_pass o_me o_me_machine o_me_isles o_me_isles_now o_me_court o_me_past o_pool = some y) : CI l yX8_pass cX8_pass 1 (some .int) ({ frames := 6, cells := 0, slots := 0, locals := 163 } : Room) dC dI sz [.ref h_me] [wX8 h_me h_me_reader h_me_machine h_me_isles h_me_court h_me_study h_me_paper h_me_paperCourt h_me_past h_me_pastAhead h_me_movingAhead q_me k_me o_me, wX3 h_me_machine q_me_machine k_me_machine o_me_machine, wX2 h_me_isles h_me_isles_now q_me_isles k_me_isles o_me_isles, wX4 h_me_isles_now q_me_isles_now k_me_isles_now o_me_isles_now, wX1 h_me_court h_me_isles h_me_machine q_me_court k_me_court o_me_court, wX5 h_me_past q_me_past k_me_past o_me_past, wPL o_pool] [tX8 k_me, tX3 k_me_machine, tX2 k_me_isles, tX4 k_me_isles_now, tX1 k_me_court, tX5 k_me_past, tPL o_pool] y.1 [wX8 h_me h_me_reader h_me_machine h_me_isles h_me_court h_me_study h_me_paper h_me_paperCourt h_me_past h_me_pastAhead h_me_movingAhead q_me k_me y.2.1, wX3 h_me_machine q_me_machine k_me_machine y.2.2.1, wX2 h_me_isles h_me_isles_now q_me_isles k_me_isles o_me_isles, wX4 h_me_isles_now q_me_isles_now k_me_isles_now y.2.2.2.1, wX1 h_me_court h_me_isles h_me_machine q_me_court k_me_court y.2.2.2.2.1, wX5 h_me_past q_me_past k_me_past y.2.2.2.2.2, wPL o_pool] := by
  refine CC_of (by decide) (Nat.le_of_ble_eq_true rfl) ?_
  intro p e s m below meth c A ls hx hb hml hr hlk hnm hown hts hX hK hP hD hA hl
  have hl : lv_has ls 1 [(0, .ref h_me)] := hl
  have hown : s.vm.findClass RX8 = some m.cls := hown
  have hw : Wd dC dI A s.heap [wX8 h_me h_me_reader h_me_machine h_me_isles h_me_court h_me_study h_me_paper h_me_paperCourt h_me_past h_me_pastAhead h_me_movingAhead q_me k_me o_me, wX3 h_me_machine q_me_machine k_me_machine o_me_machine, wX2 h_me_isles h_me_isles_now q_me_isles k_me_isles o_me_isles, wX4 h_me_isles_now q_me_isles_now k_me_isles_now o_me_isles_now, wX1 h_me_court h_me_isles h_me_machine q_me_court k_me_court o_me_court, wX5 h_me_past q_me_past k_me_past o_me_past, wPL o_pool] s.heap [] := ⟨hP, hD, va_S.rf⟩
  generalize hQz : (MQ below (QI dC dI (fun r (_ : Unit) => r = y.1) (fun _ => Jn [wX8 h_me h_me_reader h_me_machine h_me_isles h_me_court h_me_study h_me_paper h_me_paperCourt h_me_past h_me_pastAhead h_me_movingAhead q_me k_me y.2.1, wX3 h_me_machine q_me_machine k_me_machine y.2.2.1, wX2 h_me_isles h_me_isles_now q_me_isles k_me_isles o_me_isles, wX4 h_me_isles_now q_me_isles_now k_me_isles_now y.2.2.2.1, wX1 h_me_court h_me_isles h_me_machine q_me_court k_me_court y.2.2.2.2.1, wX5 h_me_past q_me_past k_me_past y.2.2.2.2.2, wPL o_pool]) (fun _ => Jt [tX8 k_me, tX3 k_me_machine, tX2 k_me_isles, tX4 k_me_isles_now, tX1 k_me_court, tX5 k_me_past, tPL o_pool]) A) ([.ref h_me] : List Value).toArray s 0 0 A) = Qz
  clear hP hD hnm
  unfold f_X8_pass at h
  refine lv_aload_n hx hb dX8_pass_0 rfl (lv_at hl 0 rfl) ?_
  refine lv_aload_n hx hb dX8_pass_1 rfl (lv_at hl 0 rfl) ?_
  refine fgX8_3 hx hb hts hown hK hw 0 rfl kw445 dX8_pass_2 ?_
  refine lv_iconst (v := 3) hx hb dX8_pass_5 (by decide) ?_
  refine lv_iconst (v := 0) hx hb dX8_pass_6 (by decide) ?_
  refine lv_aload_n hx hb dX8_pass_7 rfl (lv_at hl 0 rfl) ?_
  refine fgX8_8 hx hb hts hown hK hw 0 rfl kw450 dX8_pass_8 ?_
  obtain ⟨z1, ez1, h⟩ := z_bd h
  refine xj_i (xrV (As := [.int (3 : Int32), .int (0 : Int32), .ref h_me_past]) (rest := [.ref h_me]) ⟨hx, hb, hml, hown, hts⟩ (m_X1_moved_O l dC dI _ h_me_court h_me_isles h_me_machine h_me_isles_now h_me_past q_me_court k_me_court q_me_isles k_me_isles q_me_isles_now k_me_isles_now q_me_machine k_me_machine q_me_past k_me_past o_me_court o_me_isles o_me_isles_now o_me_machine o_pool o_me_past (3 : Int32) (0 : Int32) z1 ez1) kw852 kw849 kw850 kw851 kw117 hd_X1_moved ⟨rfl, rfl⟩ rfl rfl ⟨rfl, rfl⟩ hX hK hw [4, 2, 3, 1, 6, 5] (by decide) rfl rfl rfl rfl rfl hl.1 rfl rfl dX8_pass_11) hw hA [4, 2, 3, 1, 6, 5] (by decide) rfl rfl (fun H locs hw => ?_)
  have hw : Wd dC dI A s.heap [wX8 h_me h_me_reader h_me_machine h_me_isles h_me_court h_me_study h_me_paper h_me_paperCourt h_me_past h_me_pastAhead h_me_movingAhead q_me k_me o_me, wX3 h_me_machine q_me_machine k_me_machine z1.2.2.2.1, wX2 h_me_isles h_me_isles_now q_me_isles k_me_isles o_me_isles, wX4 h_me_isles_now q_me_isles_now k_me_isles_now z1.2.2.1, wX1 h_me_court h_me_isles h_me_machine q_me_court k_me_court z1.2.1, wX5 h_me_past q_me_past k_me_past z1.2.2.2.2, wPL o_pool] H locs := hw
  obtain ⟨z2, ez2, h⟩ := z_bd h
  refine xj_i (xrV (As := [.int z1.1]) (rest := []) ⟨hx, hb, hml, hown, hts⟩ (m_X8_answer l dC dI _ h_me h_me_reader h_me_machine h_me_isles h_me_court h_me_study h_me_paper h_me_paperCourt h_me_past h_me_pastAhead h_me_movingAhead q_me k_me o_me z1.1 z2 ez2) kw918 kw915 kw917 kw26 kw110 hd_X8_answer ⟨rfl, rfl⟩ rfl rfl ⟨rfl, rfl⟩ hX hK hw [0] (by decide) rfl rfl rfl rfl rfl hl.1 rfl rfl dX8_pass_14) hw hA [0] (by decide) rfl rfl (fun H locs hw => ?_)
  have hw : Wd dC dI A s.heap [wX8 h_me h_me_reader h_me_machine h_me_isles h_me_court h_me_study h_me_paper h_me_paperCourt h_me_past h_me_pastAhead h_me_movingAhead q_me k_me z2.2, wX3 h_me_machine q_me_machine k_me_machine z1.2.2.2.1, wX2 h_me_isles h_me_isles_now q_me_isles k_me_isles o_me_isles, wX4 h_me_isles_now q_me_isles_now k_me_isles_now z1.2.2.1, wX1 h_me_court h_me_isles h_me_machine q_me_court k_me_court z1.2.1, wX5 h_me_past q_me_past k_me_past z1.2.2.2.2, wPL o_pool] H locs := hw
  have hy := Option.some.inj h
  rw [← hQz, ← hy]
  exact xr_i (v := z2.1) hx hb hr rfl hlk hK hw dX8_pass_17

def f_X8_isTrade (p0 : Int32) : Option (Int32) :=
  if p0 < (0 : Int32) then
  (some (0 : Int32))
  else
  (if (10 : Int32) ≤ p0 then
  (some (0 : Int32))
  else
  (some (1 : Int32)))
set_option maxHeartbeats 4000000 in
set_option maxRecDepth 100000 in
theorem m_X8_isTrade (l : Launch) (dC : Nat → ClassId) (dI : Nat → Nat → Nat) (sz : Nat)  (p0 : Int32) (y : Int32) (h : f_X8_isTrade p0 = some y) : CI l yX8_isTrade cX8_isTrade 1 (some .boolean) ({ frames := 0, cells := 0, slots := 0, locals := 0 } : Room) dC dI sz [.int p0] [] [] y [] := by
  refine CC_of (by decide) (Nat.le_of_ble_eq_true rfl) ?_
  intro p e s m below meth c A ls hx hb hml hr hlk hnm hown hts hX hK hP hD hA hl
  have hl : lv_has ls 1 [(0, .int p0)] := hl
  have hown : s.vm.findClass RX8 = some m.cls := hown
  have hw : Wd dC dI A s.heap [] s.heap [] := ⟨hP, hD, va_S.rf⟩
  generalize hQz : (MQ below (QI dC dI (fun r (_ : Unit) => r = y) (fun _ => Jn []) (fun _ => Jt []) A) ([.int p0] : List Value).toArray s 0 0 A) = Qz
  clear hP hD hnm
  unfold f_X8_isTrade at h
  refine lv_iload_n hx hb dX8_isTrade_0 rfl (lv_at hl 0 rfl) ?_
  refine lv_if_lt (tgt := 14) hx hb dX8_isTrade_1 (by decide) (fun c => ?_) (fun c => ?_)
  · have h := z_t h c
    refine lv_iconst (v := 0) hx hb dX8_isTrade_14 (by decide) ?_
    have hy := Option.some.inj h
    rw [← hQz, ← hy]
    exact xr_i (v := (0 : Int32)) hx hb hr rfl hlk hK hw dX8_isTrade_15
  · have h := z_f h c
    refine lv_iload_n hx hb dX8_isTrade_4 rfl (lv_at hl 0 rfl) ?_
    refine lv_bipush (v := 10) hx hb dX8_isTrade_5 (by decide) ?_
    refine lv_icmp_ge (tgt := 14) hx hb dX8_isTrade_7 (by decide) (fun c => ?_) (fun c => ?_)
    · have h := z_t h c
      refine lv_iconst (v := 0) hx hb dX8_isTrade_14 (by decide) ?_
      have hy := Option.some.inj h
      rw [← hQz, ← hy]
      exact xr_i (v := (0 : Int32)) hx hb hr rfl hlk hK hw dX8_isTrade_15
    · have h := z_f h c
      refine lv_iconst (v := 1) hx hb dX8_isTrade_10 (by decide) ?_
      refine lv_goto (tgt := 15) hx hb dX8_isTrade_11 (by decide) ?_
      have hy := Option.some.inj h
      rw [← hQz, ← hy]
      exact xr_i (v := (1 : Int32)) hx hb hr rfl hlk hK hw dX8_isTrade_15

def f_X5_clear (o_me : Ob) : Option (Ob) :=
  zlt (sI o_me 2 (0 : Int32)) fun o1 =>
  zlt (sI o1 3 (0 : Int32)) fun o2 =>
  some o2
set_option maxHeartbeats 4000000 in
set_option maxRecDepth 100000 in
theorem m_X5_clear (l : Launch) (dC : Nat → ClassId) (dI : Nat → Nat → Nat) (sz : Nat) (h_me : Nat) (q_me : Nat → Nat) (k_me : Nat → ClassId) (o_me : Ob) (y : Ob) (h : f_X5_clear o_me = some y) : CV l yX5_clear cX5_clear 1 none ({ frames := 0, cells := 0, slots := 0, locals := 0 } : Room) dC dI sz [.ref h_me] [wX5 h_me q_me k_me o_me] [tX5 k_me] [wX5 h_me q_me k_me y] := by
  refine CC_of (by decide) (Nat.le_of_ble_eq_true rfl) ?_
  intro p e s m below meth c A ls hx hb hml hr hlk hnm hown hts hX hK hP hD hA hl
  have hl : lv_has ls 1 [(0, .ref h_me)] := hl
  have hown : s.vm.findClass RX5 = some m.cls := hown
  have hw : Wd dC dI A s.heap [wX5 h_me q_me k_me o_me] s.heap [] := ⟨hP, hD, va_S.rf⟩
  generalize hQz : (MQ below (QV dC dI (fun (_ : Unit) => True) (fun _ => Jn [wX5 h_me q_me k_me y]) (fun _ => Jt [tX5 k_me]) A) ([.ref h_me] : List Value).toArray s 0 0 A) = Qz
  clear hP hD hnm
  unfold f_X5_clear at h
  refine lv_aload_n hx hb dX5_clear_0 rfl (lv_at hl 0 rfl) ?_
  refine lv_iconst (v := 0) hx hb dX5_clear_1 (by decide) ?_
  refine fpX5_2 hx hb hts hown hK hw 0 rfl kw428 dX5_clear_2 (fun H locs hw => ?_)
  obtain ⟨o1, eo1, h⟩ := z_lt h
  have hw : Wd dC dI A s.heap [wX5 h_me q_me k_me o1] H locs := by rw [eo1]; exact hw
  refine lv_aload_n hx hb dX5_clear_5 rfl (lv_at hl 0 rfl) ?_
  refine lv_iconst (v := 0) hx hb dX5_clear_6 (by decide) ?_
  refine fpX5_3 hx hb hts hown hK hw 0 rfl kw429 dX5_clear_7 (fun H locs hw => ?_)
  obtain ⟨o2, eo2, h⟩ := z_lt h
  have hw : Wd dC dI A s.heap [wX5 h_me q_me k_me o2] H locs := by rw [eo2]; exact hw
  have hy := Option.some.inj h
  rw [← hQz, ← hy]
  exact xr_v hx hb hr hlk hK hw dX5_clear_10

def f_X2_addPerson (o_me : Ob) (o_me_now : Ob) (p0 : Int32) (p1 : Int32) : Option (Int32 × Ob × Ob) :=
  if (gI o_me 7) < (7 : Int32) then
  (zgd (zin (gI o_me 7) 7) <|
  zlt (tA o_me_now 0 (gI o_me 7).toNatClampNeg p0) fun o2 =>
  zgd (zin (gI o_me 7) 7) <|
  zlt (tA o_me 1 (gI o_me 7).toNatClampNeg p1) fun o4 =>
  zlt (sI o4 7 ((gI o4 7) + (1 : Int32))) fun o5 =>
  some ((gI o5 7) - (1 : Int32), o5, o2))
  else
  (some ((-1 : Int32), o_me, o_me_now))
set_option maxHeartbeats 4000000 in
set_option maxRecDepth 100000 in
theorem m_X2_addPerson (l : Launch) (dC : Nat → ClassId) (dI : Nat → Nat → Nat) (sz : Nat) (h_me : Nat) (h_me_now : Nat) (q_me : Nat → Nat) (k_me : Nat → ClassId) (q_me_now : Nat → Nat) (k_me_now : Nat → ClassId) (o_me : Ob) (o_me_now : Ob) (p0 : Int32) (p1 : Int32) (y : Int32 × Ob × Ob) (h : f_X2_addPerson o_me o_me_now p0 p1 = some y) : CI l yX2_addPerson cX2_addPerson 3 (some .int) ({ frames := 0, cells := 0, slots := 0, locals := 0 } : Room) dC dI sz [.ref h_me, .int p0, .int p1] [wX2 h_me h_me_now q_me k_me o_me, wX4 h_me_now q_me_now k_me_now o_me_now] [tX2 k_me, tX4 k_me_now] y.1 [wX2 h_me h_me_now q_me k_me y.2.1, wX4 h_me_now q_me_now k_me_now y.2.2] := by
  refine CC_of (by decide) (Nat.le_of_ble_eq_true rfl) ?_
  intro p e s m below meth c A ls hx hb hml hr hlk hnm hown hts hX hK hP hD hA hl
  have hl : lv_has ls 3 [(0, .ref h_me), (1, .int p0), (2, .int p1)] := hl
  have hown : s.vm.findClass RX2 = some m.cls := hown
  have hw : Wd dC dI A s.heap [wX2 h_me h_me_now q_me k_me o_me, wX4 h_me_now q_me_now k_me_now o_me_now] s.heap [] := ⟨hP, hD, va_S.rf⟩
  generalize hQz : (MQ below (QI dC dI (fun r (_ : Unit) => r = y.1) (fun _ => Jn [wX2 h_me h_me_now q_me k_me y.2.1, wX4 h_me_now q_me_now k_me_now y.2.2]) (fun _ => Jt [tX2 k_me, tX4 k_me_now]) A) ([.ref h_me, .int p0, .int p1] : List Value).toArray s 0 0 A) = Qz
  clear hP hD hnm
  unfold f_X2_addPerson at h
  refine lv_aload_n hx hb dX2_addPerson_0 rfl (lv_at hl 0 rfl) ?_
  refine fgX2_7 hx hb hts hown hK hw 0 rfl kw315 dX2_addPerson_1 ?_
  refine lv_bipush (v := 7) hx hb dX2_addPerson_4 (by decide) ?_
  refine lv_icmp_lt (tgt := 11) hx hb dX2_addPerson_6 (by decide) (fun c => ?_) (fun c => ?_)
  · have h := z_t h c
    refine lv_aload_n hx hb dX2_addPerson_11 rfl (lv_at hl 0 rfl) ?_
    refine fgX2_0 hx hb hts hown hK hw 0 rfl kw295 dX2_addPerson_12 ?_
    refine fgX4_0 hx hb hts hown hK hw 1 rfl kw264 dX2_addPerson_15 ?_
    refine lv_aload_n hx hb dX2_addPerson_18 rfl (lv_at hl 0 rfl) ?_
    refine fgX2_7 hx hb hts hown hK hw 0 rfl kw315 dX2_addPerson_19 ?_
    refine lv_iload_n hx hb dX2_addPerson_22 rfl (lv_at hl 1 rfl) ?_
    obtain ⟨g1, h⟩ := z_gd h
    refine fbX4_0 hx hb hK hw 1 rfl rfl g1 dX2_addPerson_23 (fun H locs hw => ?_)
    obtain ⟨o2, eo2, h⟩ := z_lt h
    have hw : Wd dC dI A s.heap [wX2 h_me h_me_now q_me k_me o_me, wX4 h_me_now q_me_now k_me_now o2] H locs := by rw [eo2]; exact hw
    refine lv_aload_n hx hb dX2_addPerson_24 rfl (lv_at hl 0 rfl) ?_
    refine fgX2_1 hx hb hts hown hK hw 0 rfl kw300 dX2_addPerson_25 ?_
    refine lv_aload_n hx hb dX2_addPerson_28 rfl (lv_at hl 0 rfl) ?_
    refine fgX2_7 hx hb hts hown hK hw 0 rfl kw315 dX2_addPerson_29 ?_
    refine lv_iload_n hx hb dX2_addPerson_32 rfl (lv_at hl 2 rfl) ?_
    obtain ⟨g3, h⟩ := z_gd h
    refine fbX2_1 hx hb hK hw 0 rfl rfl g3 dX2_addPerson_33 (fun H locs hw => ?_)
    obtain ⟨o4, eo4, h⟩ := z_lt h
    have hw : Wd dC dI A s.heap [wX2 h_me h_me_now q_me k_me o4, wX4 h_me_now q_me_now k_me_now o2] H locs := by rw [eo4]; exact hw
    refine lv_aload_n hx hb dX2_addPerson_34 rfl (lv_at hl 0 rfl) ?_
    refine lv_dup hx hb dX2_addPerson_35 rfl ?_
    refine fgX2_7 hx hb hts hown hK hw 0 rfl kw315 dX2_addPerson_36 ?_
    refine lv_iconst (v := 1) hx hb dX2_addPerson_39 (by decide) ?_
    refine lv_iadd hx hb dX2_addPerson_40 ?_
    refine fpX2_7 hx hb hts hown hK hw 0 rfl kw315 dX2_addPerson_41 (fun H locs hw => ?_)
    obtain ⟨o5, eo5, h⟩ := z_lt h
    have hw : Wd dC dI A s.heap [wX2 h_me h_me_now q_me k_me o5, wX4 h_me_now q_me_now k_me_now o2] H locs := by rw [eo5]; exact hw
    refine lv_aload_n hx hb dX2_addPerson_44 rfl (lv_at hl 0 rfl) ?_
    refine fgX2_7 hx hb hts hown hK hw 0 rfl kw315 dX2_addPerson_45 ?_
    refine lv_iconst (v := 1) hx hb dX2_addPerson_48 (by decide) ?_
    refine lv_isub hx hb dX2_addPerson_49 ?_
    have hy := Option.some.inj h
    rw [← hQz, ← hy]
    exact xr_i (v := (gI o5 7) - (1 : Int32)) hx hb hr rfl hlk hK hw dX2_addPerson_50
  · have h := z_f h c
    refine lv_iconst (v := (-1)) hx hb dX2_addPerson_9 (by decide) ?_
    have hy := Option.some.inj h
    rw [← hQz, ← hy]
    exact xr_i (v := (-1 : Int32)) hx hb hr rfl hlk hK hw dX2_addPerson_10

def bk_X8_person_23   (o_me : Ob) (o_me_isles : Ob) (o_me_isles_now : Ob) (o_me_past : Ob) : Option (Int32 × Ob × Ob × Ob × Ob) :=
  (f_X8_refuse o_me (-1 : Int32)).bind fun z2 =>
  some (z2.1, z2.2, o_me_isles, o_me_isles_now, o_me_past)
def bk_X8_person_29   (v1 : Int32) (v2 : Int32) (o_me : Ob) (o_me_isles : Ob) (o_me_isles_now : Ob) (o_me_past : Ob) : Option (Int32 × Ob × Ob × Ob × Ob) :=
  if (gI o_me_isles 7) < (7 : Int32) then
  ((f_X5_clear o_me_past).bind fun z3 =>
  (f_X2_addPerson o_me_isles o_me_isles_now v1 v2).bind fun z4 =>
  (f_X8_grant o_me z4.1).bind fun z5 =>
  some (z5.1, z5.2, z4.2.1, z4.2.2, z3))
  else
  ((f_X8_refuse o_me (-5 : Int32)).bind fun z6 =>
  some (z6.1, z6.2, o_me_isles, o_me_isles_now, o_me_past))
def f_X8_person (o_me : Ob) (o_me_isles : Ob) (o_me_isles_now : Ob) (o_me_past : Ob) (p0 : Int32) (p1 : Int32) : Option (Int32 × Ob × Ob × Ob × Ob) :=
  (f_X8_isTrade p0).bind fun z1 =>
  if z1 = (0 : Int32) then
  (bk_X8_person_23   o_me o_me_isles o_me_isles_now o_me_past)
  else
  (if p1 = (-1 : Int32) then
  (bk_X8_person_29   p0 p1 o_me o_me_isles o_me_isles_now o_me_past)
  else
  ((f_X2_isPerson o_me_isles p1).bind fun z7 =>
  if z7 = (0 : Int32) then
  (bk_X8_person_23   o_me o_me_isles o_me_isles_now o_me_past)
  else
  (bk_X8_person_29   p0 p1 o_me o_me_isles o_me_isles_now o_me_past)))
set_option maxHeartbeats 4000000 in
set_option maxRecDepth 100000 in
theorem m_X8_person (l : Launch) (dC : Nat → ClassId) (dI : Nat → Nat → Nat) (sz : Nat) (h_me : Nat) (h_me_reader : Nat) (h_me_machine : Nat) (h_me_isles : Nat) (h_me_court : Nat) (h_me_study : Nat) (h_me_paper : Nat) (h_me_paperCourt : Nat) (h_me_past : Nat) (h_me_pastAhead : Nat) (h_me_movingAhead : Nat) (h_me_isles_now : Nat) (q_me : Nat → Nat) (k_me : Nat → ClassId) (q_me_isles : Nat → Nat) (k_me_isles : Nat → ClassId) (q_me_isles_now : Nat → Nat) (k_me_isles_now : Nat → ClassId) (q_me_past : Nat → Nat) (k_me_past : Nat → ClassId) (o_me : Ob) (o_me_isles : Ob) (o_me_isles_now : Ob) (o_me_past : Ob) (p0 : Int32) (p1 : Int32) (y : Int32 × Ob × Ob × Ob × Ob) (h : f_X8_person o_me o_me_isles o_me_isles_now o_me_past p0 p1 = some y) : CI l yX8_person cX8_person 3 (some .int) ({ frames := 1, cells := 0, slots := 0, locals := 22 } : Room) dC dI sz [.ref h_me, .int p0, .int p1] [wX8 h_me h_me_reader h_me_machine h_me_isles h_me_court h_me_study h_me_paper h_me_paperCourt h_me_past h_me_pastAhead h_me_movingAhead q_me k_me o_me, wX2 h_me_isles h_me_isles_now q_me_isles k_me_isles o_me_isles, wX4 h_me_isles_now q_me_isles_now k_me_isles_now o_me_isles_now, wX5 h_me_past q_me_past k_me_past o_me_past] [tX8 k_me, tX2 k_me_isles, tX4 k_me_isles_now, tX5 k_me_past] y.1 [wX8 h_me h_me_reader h_me_machine h_me_isles h_me_court h_me_study h_me_paper h_me_paperCourt h_me_past h_me_pastAhead h_me_movingAhead q_me k_me y.2.1, wX2 h_me_isles h_me_isles_now q_me_isles k_me_isles y.2.2.1, wX4 h_me_isles_now q_me_isles_now k_me_isles_now y.2.2.2.1, wX5 h_me_past q_me_past k_me_past y.2.2.2.2] := by
  refine CC_of (by decide) (Nat.le_of_ble_eq_true rfl) ?_
  intro p e s m below meth c A ls hx hb hml hr hlk hnm hown hts hX hK hP hD hA hl
  have hl : lv_has ls 3 [(0, .ref h_me), (1, .int p0), (2, .int p1)] := hl
  have hown : s.vm.findClass RX8 = some m.cls := hown
  have hw : Wd dC dI A s.heap [wX8 h_me h_me_reader h_me_machine h_me_isles h_me_court h_me_study h_me_paper h_me_paperCourt h_me_past h_me_pastAhead h_me_movingAhead q_me k_me o_me, wX2 h_me_isles h_me_isles_now q_me_isles k_me_isles o_me_isles, wX4 h_me_isles_now q_me_isles_now k_me_isles_now o_me_isles_now, wX5 h_me_past q_me_past k_me_past o_me_past] s.heap [] := ⟨hP, hD, va_S.rf⟩
  generalize hQz : (MQ below (QI dC dI (fun r (_ : Unit) => r = y.1) (fun _ => Jn [wX8 h_me h_me_reader h_me_machine h_me_isles h_me_court h_me_study h_me_paper h_me_paperCourt h_me_past h_me_pastAhead h_me_movingAhead q_me k_me y.2.1, wX2 h_me_isles h_me_isles_now q_me_isles k_me_isles y.2.2.1, wX4 h_me_isles_now q_me_isles_now k_me_isles_now y.2.2.2.1, wX5 h_me_past q_me_past k_me_past y.2.2.2.2]) (fun _ => Jt [tX8 k_me, tX2 k_me_isles, tX4 k_me_isles_now, tX5 k_me_past]) A) ([.ref h_me, .int p0, .int p1] : List Value).toArray s 0 0 A) = Qz
  clear hP hD hnm
  have bk_23_0 : ∀ (o_me : Ob) (o_me_isles : Ob) (o_me_isles_now : Ob) (o_me_past : Ob) (H : Heap) (locs : List Loc) (ls : Array Slot), bk_X8_person_23   o_me o_me_isles o_me_isles_now o_me_past = some y → Wd dC dI A s.heap [wX8 h_me h_me_reader h_me_machine h_me_isles h_me_court h_me_study h_me_paper h_me_paperCourt h_me_past h_me_pastAhead h_me_movingAhead q_me k_me o_me, wX2 h_me_isles h_me_isles_now q_me_isles k_me_isles o_me_isles, wX4 h_me_isles_now q_me_isles_now k_me_isles_now o_me_isles_now, wX5 h_me_past q_me_past k_me_past o_me_past] H locs → lv_has ls 3 [(0, .ref h_me)] → W p l e ({ frames := 1, cells := 0, slots := 0, locals := 22 } : Room) s m ([.ref h_me, .int p0, .int p1] : List Value).toArray below meth c H locs 0 0 Qz (F0 m 23 ls []) := by
    intro o_me o_me_isles o_me_isles_now o_me_past H locs ls h hw hl
    unfold bk_X8_person_23 at h
    refine lv_aload_n hx hb dX8_person_23 rfl (lv_at hl 0 rfl) ?_
    refine lv_iconst (v := (-1)) hx hb dX8_person_24 (by decide) ?_
    obtain ⟨z2, ez2, h⟩ := z_bd h
    refine xj_i (xrV (As := [.int (-1 : Int32)]) (rest := []) ⟨hx, hb, hml, hown, hts⟩ (m_X8_refuse l dC dI _ h_me h_me_reader h_me_machine h_me_isles h_me_court h_me_study h_me_paper h_me_paperCourt h_me_past h_me_pastAhead h_me_movingAhead q_me k_me o_me (-1 : Int32) z2 ez2) kw508 kw505 kw507 kw0 kw110 hd_X8_refuse ⟨rfl, rfl⟩ rfl rfl ⟨rfl, rfl⟩ hX hK hw [0] (by decide) rfl rfl rfl rfl rfl hl.1 rfl rfl dX8_person_25) hw hA [0] (by decide) rfl rfl (fun H locs hw => ?_)
    have hw : Wd dC dI A s.heap [wX8 h_me h_me_reader h_me_machine h_me_isles h_me_court h_me_study h_me_paper h_me_paperCourt h_me_past h_me_pastAhead h_me_movingAhead q_me k_me z2.2, wX2 h_me_isles h_me_isles_now q_me_isles k_me_isles o_me_isles, wX4 h_me_isles_now q_me_isles_now k_me_isles_now o_me_isles_now, wX5 h_me_past q_me_past k_me_past o_me_past] H locs := hw
    have hy := Option.some.inj h
    rw [← hQz, ← hy]
    exact xr_i (v := z2.1) hx hb hr rfl hlk hK hw dX8_person_28
  have bk_29_1 : ∀ (v1 : Int32) (v2 : Int32) (o_me : Ob) (o_me_isles : Ob) (o_me_isles_now : Ob) (o_me_past : Ob) (H : Heap) (locs : List Loc) (ls : Array Slot), bk_X8_person_29   v1 v2 o_me o_me_isles o_me_isles_now o_me_past = some y → Wd dC dI A s.heap [wX8 h_me h_me_reader h_me_machine h_me_isles h_me_court h_me_study h_me_paper h_me_paperCourt h_me_past h_me_pastAhead h_me_movingAhead q_me k_me o_me, wX2 h_me_isles h_me_isles_now q_me_isles k_me_isles o_me_isles, wX4 h_me_isles_now q_me_isles_now k_me_isles_now o_me_isles_now, wX5 h_me_past q_me_past k_me_past o_me_past] H locs → lv_has ls 3 [(0, .ref h_me), (1, .int v1), (2, .int v2)] → W p l e ({ frames := 1, cells := 0, slots := 0, locals := 22 } : Room) s m ([.ref h_me, .int p0, .int p1] : List Value).toArray below meth c H locs 0 0 Qz (F0 m 29 ls []) := by
    intro v1 v2 o_me o_me_isles o_me_isles_now o_me_past H locs ls h hw hl
    unfold bk_X8_person_29 at h
    refine lv_aload_n hx hb dX8_person_29 rfl (lv_at hl 0 rfl) ?_
    refine fgX8_2 hx hb hts hown hK hw 0 rfl kw444 dX8_person_30 ?_
    refine fgX2_7 hx hb hts hown hK hw 1 rfl kw317 dX8_person_33 ?_
    refine lv_bipush (v := 7) hx hb dX8_person_36 (by decide) ?_
    refine lv_icmp_lt (tgt := 48) hx hb dX8_person_38 (by decide) (fun c => ?_) (fun c => ?_)
    · have h := z_t h c
      refine lv_aload_n hx hb dX8_person_48 rfl (lv_at hl 0 rfl) ?_
      refine fgX8_8 hx hb hts hown hK hw 0 rfl kw450 dX8_person_49 ?_
      obtain ⟨z3, ez3, h⟩ := z_bd h
      refine xj_v (xrV (As := []) (rest := []) ⟨hx, hb, hml, hown, hts⟩ (m_X5_clear l dC dI _ h_me_past q_me_past k_me_past o_me_past z3 ez3) kw512 kw509 kw510 kw511 kw119 hd_X5_clear ⟨rfl, rfl⟩ rfl rfl ⟨rfl, rfl⟩ hX hK hw [3] (by decide) rfl rfl rfl rfl rfl hl.1 rfl rfl dX8_person_52) hw hA [3] (by decide) rfl rfl (fun H locs hw => ?_)
      have hw : Wd dC dI A s.heap [wX8 h_me h_me_reader h_me_machine h_me_isles h_me_court h_me_study h_me_paper h_me_paperCourt h_me_past h_me_pastAhead h_me_movingAhead q_me k_me o_me, wX2 h_me_isles h_me_isles_now q_me_isles k_me_isles o_me_isles, wX4 h_me_isles_now q_me_isles_now k_me_isles_now o_me_isles_now, wX5 h_me_past q_me_past k_me_past z3] H locs := hw
      refine lv_aload_n hx hb dX8_person_55 rfl (lv_at hl 0 rfl) ?_
      refine lv_aload_n hx hb dX8_person_56 rfl (lv_at hl 0 rfl) ?_
      refine fgX8_2 hx hb hts hown hK hw 0 rfl kw444 dX8_person_57 ?_
      refine lv_iload_n hx hb dX8_person_60 rfl (lv_at hl 1 rfl) ?_
      refine lv_iload_n hx hb dX8_person_61 rfl (lv_at hl 2 rfl) ?_
      obtain ⟨z4, ez4, h⟩ := z_bd h
      refine xj_i (xrV (As := [.int v1, .int v2]) (rest := [.ref h_me]) ⟨hx, hb, hml, hown, hts⟩ (m_X2_addPerson l dC dI _ h_me_isles h_me_isles_now q_me_isles k_me_isles q_me_isles_now k_me_isles_now o_me_isles o_me_isles_now v1 v2 z4 ez4) kw516 kw513 kw514 kw515 kw115 hd_X2_addPerson ⟨rfl, rfl⟩ rfl rfl ⟨rfl, rfl⟩ hX hK hw [1, 2] (by decide) rfl rfl rfl rfl rfl hl.1 rfl rfl dX8_person_62) hw hA [1, 2] (by decide) rfl rfl (fun H locs hw => ?_)
      have hw : Wd dC dI A s.heap [wX8 h_me h_me_reader h_me_machine h_me_isles h_me_court h_me_study h_me_paper h_me_paperCourt h_me_past h_me_pastAhead h_me_movingAhead q_me k_me o_me, wX2 h_me_isles h_me_isles_now q_me_isles k_me_isles z4.2.1, wX4 h_me_isles_now q_me_isles_now k_me_isles_now z4.2.2, wX5 h_me_past q_me_past k_me_past z3] H locs := hw
      obtain ⟨z5, ez5, h⟩ := z_bd h
      refine xj_i (xrV (As := [.int z4.1]) (rest := []) ⟨hx, hb, hml, hown, hts⟩ (m_X8_grant l dC dI _ h_me h_me_reader h_me_machine h_me_isles h_me_court h_me_study h_me_paper h_me_paperCourt h_me_past h_me_pastAhead h_me_movingAhead q_me k_me o_me z4.1 z5 ez5) kw520 kw517 kw519 kw1 kw110 hd_X8_grant ⟨rfl, rfl⟩ rfl rfl ⟨rfl, rfl⟩ hX hK hw [0] (by decide) rfl rfl rfl rfl rfl hl.1 rfl rfl dX8_person_65) hw hA [0] (by decide) rfl rfl (fun H locs hw => ?_)
      have hw : Wd dC dI A s.heap [wX8 h_me h_me_reader h_me_machine h_me_isles h_me_court h_me_study h_me_paper h_me_paperCourt h_me_past h_me_pastAhead h_me_movingAhead q_me k_me z5.2, wX2 h_me_isles h_me_isles_now q_me_isles k_me_isles z4.2.1, wX4 h_me_isles_now q_me_isles_now k_me_isles_now z4.2.2, wX5 h_me_past q_me_past k_me_past z3] H locs := hw
      have hy := Option.some.inj h
      rw [← hQz, ← hy]
      exact xr_i (v := z5.1) hx hb hr rfl hlk hK hw dX8_person_68
    · have h := z_f h c
      refine lv_aload_n hx hb dX8_person_41 rfl (lv_at hl 0 rfl) ?_
      refine lv_bipush (v := (-5)) hx hb dX8_person_42 (by decide) ?_
      obtain ⟨z6, ez6, h⟩ := z_bd h
      refine xj_i (xrV (As := [.int (-5 : Int32)]) (rest := []) ⟨hx, hb, hml, hown, hts⟩ (m_X8_refuse l dC dI _ h_me h_me_reader h_me_machine h_me_isles h_me_court h_me_study h_me_paper h_me_paperCourt h_me_past h_me_pastAhead h_me_movingAhead q_me k_me o_me (-5 : Int32) z6 ez6) kw508 kw505 kw507 kw0 kw110 hd_X8_refuse ⟨rfl, rfl⟩ rfl rfl ⟨rfl, rfl⟩ hX hK hw [0] (by decide) rfl rfl rfl rfl rfl hl.1 rfl rfl dX8_person_44) hw hA [0] (by decide) rfl rfl (fun H locs hw => ?_)
      have hw : Wd dC dI A s.heap [wX8 h_me h_me_reader h_me_machine h_me_isles h_me_court h_me_study h_me_paper h_me_paperCourt h_me_past h_me_pastAhead h_me_movingAhead q_me k_me z6.2, wX2 h_me_isles h_me_isles_now q_me_isles k_me_isles o_me_isles, wX4 h_me_isles_now q_me_isles_now k_me_isles_now o_me_isles_now, wX5 h_me_past q_me_past k_me_past o_me_past] H locs := hw
      have hy := Option.some.inj h
      rw [← hQz, ← hy]
      exact xr_i (v := z6.1) hx hb hr rfl hlk hK hw dX8_person_47
  unfold f_X8_person at h
  refine lv_iload_n hx hb dX8_person_0 rfl (lv_at hl 1 rfl) ?_
  obtain ⟨z1, ez1, h⟩ := z_bd h
  refine xj_i (xrS (As := [.int p0]) (rest := []) ⟨hx, hb, hml, hown, hts⟩ (m_X8_isTrade l dC dI _  p0 z1 ez1) kw500 kw498 kw499 kw110 hd_X8_isTrade ⟨rfl, rfl⟩ rfl rfl ⟨rfl, rfl⟩ hX hK hw [] (by decide) rfl rfl hl.1 rfl rfl dX8_person_1) hw hA [] (by decide) rfl rfl (fun H locs hw => ?_)
  refine lv_if_eq (tgt := 23) hx hb dX8_person_4 (by decide) (fun c => ?_) (fun c => ?_)
  · have h := z_t h c
    exact bk_23_0  o_me o_me_isles o_me_isles_now o_me_past _ _ _ h hw (lv_sub hl [0] rfl)
  · have h := z_f h c
    refine lv_iload_n hx hb dX8_person_7 rfl (lv_at hl 2 rfl) ?_
    refine lv_iconst (v := (-1)) hx hb dX8_person_8 (by decide) ?_
    refine lv_icmp_eq (tgt := 29) hx hb dX8_person_9 (by decide) (fun c => ?_) (fun c => ?_)
    · have h := z_t h c
      exact bk_29_1  p0 p1 o_me o_me_isles o_me_isles_now o_me_past _ _ _ h hw (lv_sub hl [0, 1, 2] rfl)
    · have h := z_f h c
      refine lv_aload_n hx hb dX8_person_12 rfl (lv_at hl 0 rfl) ?_
      refine fgX8_2 hx hb hts hown hK hw 0 rfl kw444 dX8_person_13 ?_
      refine lv_iload_n hx hb dX8_person_16 rfl (lv_at hl 2 rfl) ?_
      obtain ⟨z7, ez7, h⟩ := z_bd h
      refine xj_i (xrV (As := [.int p1]) (rest := []) ⟨hx, hb, hml, hown, hts⟩ (m_X2_isPerson l dC dI _ h_me_isles h_me_isles_now q_me_isles k_me_isles o_me_isles p1 z7 ez7) kw504 kw501 kw502 kw503 kw115 hd_X2_isPerson ⟨rfl, rfl⟩ rfl rfl ⟨rfl, rfl⟩ hX hK hw [1] (by decide) rfl rfl rfl rfl rfl hl.1 rfl rfl dX8_person_17) hw hA [1] (by decide) rfl rfl (fun H locs hw => ?_)
      have hw : Wd dC dI A s.heap [wX8 h_me h_me_reader h_me_machine h_me_isles h_me_court h_me_study h_me_paper h_me_paperCourt h_me_past h_me_pastAhead h_me_movingAhead q_me k_me o_me, wX2 h_me_isles h_me_isles_now q_me_isles k_me_isles o_me_isles, wX4 h_me_isles_now q_me_isles_now k_me_isles_now o_me_isles_now, wX5 h_me_past q_me_past k_me_past o_me_past] H locs := hw
      refine lv_if_ne (tgt := 29) hx hb dX8_person_20 (by decide) (fun c => ?_) (fun c => ?_)
      · have h := z_f h c
        exact bk_29_1  p0 p1 o_me o_me_isles o_me_isles_now o_me_past _ _ _ h hw (lv_sub hl [0, 1, 2] rfl)
      · have h := z_t h c
        exact bk_23_0  o_me o_me_isles o_me_isles_now o_me_past _ _ _ h hw (lv_sub hl [0] rfl)

def f_X8_placed (o_me : Ob) (o_me_machine : Ob) (o_me_isles : Ob) (o_me_isles_now : Ob) (o_me_court : Ob) (o_pool : List CR) (p0 : Int32) (p1 : Int32) : Option (Int32 × Ob × Ob) :=
  (f_X8_isRace p0).bind fun z1 =>
  if z1 = (0 : Int32) then
  (some ((-1 : Int32), o_me_machine, o_me_court))
  else
  ((f_X2_lawInForce o_me_isles).bind fun z2 =>
  (f_X1_lineUp_Q o_me_court o_me_isles o_me_isles_now o_me_machine o_pool z2 p0).bind fun z3 =>
  if p1 = (0 : Int32) then
  (some (z3.1, z3.2.2, z3.2.1))
  else
  ((f_X1_at z3.2.1 p1).bind fun z4 =>
  some (z4, z3.2.2, z3.2.1)))
set_option maxHeartbeats 4000000 in
set_option maxRecDepth 100000 in
theorem m_X8_placed (l : Launch) (dC : Nat → ClassId) (dI : Nat → Nat → Nat) (sz : Nat) (h_me : Nat) (h_me_reader : Nat) (h_me_machine : Nat) (h_me_isles : Nat) (h_me_court : Nat) (h_me_study : Nat) (h_me_paper : Nat) (h_me_paperCourt : Nat) (h_me_past : Nat) (h_me_pastAhead : Nat) (h_me_movingAhead : Nat) (h_me_isles_now : Nat) (q_me : Nat → Nat) (k_me : Nat → ClassId) (q_me_machine : Nat → Nat) (k_me_machine : Nat → ClassId) (q_me_isles : Nat → Nat) (k_me_isles : Nat → ClassId) (q_me_isles_now : Nat → Nat) (k_me_isles_now : Nat → ClassId) (q_me_court : Nat → Nat) (k_me_court : Nat → ClassId) (o_me : Ob) (o_me_machine : Ob) (o_me_isles : Ob) (o_me_isles_now : Ob) (o_me_court : Ob) (o_pool : List CR) (p0 : Int32) (p1 : Int32) (y : Int32 × Ob × Ob) (h : f_X8_placed o_me o_me_machine o_me_isles o_me_isles_now o_me_court o_pool p0 p1 = some y) : CI l yX8_placed cX8_placed 4 (some .int) ({ frames := 5, cells := 0, slots := 0, locals := 133 } : Room) dC dI sz [.ref h_me, .int p0, .int p1] [wX8 h_me h_me_reader h_me_machine h_me_isles h_me_court h_me_study h_me_paper h_me_paperCourt h_me_past h_me_pastAhead h_me_movingAhead q_me k_me o_me, wX3 h_me_machine q_me_machine k_me_machine o_me_machine, wX2 h_me_isles h_me_isles_now q_me_isles k_me_isles o_me_isles, wX4 h_me_isles_now q_me_isles_now k_me_isles_now o_me_isles_now, wX1 h_me_court h_me_isles h_me_machine q_me_court k_me_court o_me_court, wPL o_pool] [tX8 k_me, tX3 k_me_machine, tX2 k_me_isles, tX4 k_me_isles_now, tX1 k_me_court, tPL o_pool] y.1 [wX8 h_me h_me_reader h_me_machine h_me_isles h_me_court h_me_study h_me_paper h_me_paperCourt h_me_past h_me_pastAhead h_me_movingAhead q_me k_me o_me, wX3 h_me_machine q_me_machine k_me_machine y.2.1, wX2 h_me_isles h_me_isles_now q_me_isles k_me_isles o_me_isles, wX4 h_me_isles_now q_me_isles_now k_me_isles_now o_me_isles_now, wX1 h_me_court h_me_isles h_me_machine q_me_court k_me_court y.2.2, wPL o_pool] := by
  refine CC_of (by decide) (Nat.le_of_ble_eq_true rfl) ?_
  intro p e s m below meth c A ls hx hb hml hr hlk hnm hown hts hX hK hP hD hA hl
  have hl : lv_has ls 4 [(0, .ref h_me), (1, .int p0), (2, .int p1)] := hl
  have hown : s.vm.findClass RX8 = some m.cls := hown
  have hw : Wd dC dI A s.heap [wX8 h_me h_me_reader h_me_machine h_me_isles h_me_court h_me_study h_me_paper h_me_paperCourt h_me_past h_me_pastAhead h_me_movingAhead q_me k_me o_me, wX3 h_me_machine q_me_machine k_me_machine o_me_machine, wX2 h_me_isles h_me_isles_now q_me_isles k_me_isles o_me_isles, wX4 h_me_isles_now q_me_isles_now k_me_isles_now o_me_isles_now, wX1 h_me_court h_me_isles h_me_machine q_me_court k_me_court o_me_court, wPL o_pool] s.heap [] := ⟨hP, hD, va_S.rf⟩
  generalize hQz : (MQ below (QI dC dI (fun r (_ : Unit) => r = y.1) (fun _ => Jn [wX8 h_me h_me_reader h_me_machine h_me_isles h_me_court h_me_study h_me_paper h_me_paperCourt h_me_past h_me_pastAhead h_me_movingAhead q_me k_me o_me, wX3 h_me_machine q_me_machine k_me_machine y.2.1, wX2 h_me_isles h_me_isles_now q_me_isles k_me_isles o_me_isles, wX4 h_me_isles_now q_me_isles_now k_me_isles_now o_me_isles_now, wX1 h_me_court h_me_isles h_me_machine q_me_court k_me_court y.2.2, wPL o_pool]) (fun _ => Jt [tX8 k_me, tX3 k_me_machine, tX2 k_me_isles, tX4 k_me_isles_now, tX1 k_me_court, tPL o_pool]) A) ([.ref h_me, .int p0, .int p1] : List Value).toArray s 0 0 A) = Qz
  clear hP hD hnm
  unfold f_X8_placed at h
  refine lv_iload_n hx hb dX8_placed_0 rfl (lv_at hl 1 rfl) ?_
  obtain ⟨z1, ez1, h⟩ := z_bd h
  refine xj_i (xrS (As := [.int p0]) (rest := []) ⟨hx, hb, hml, hown, hts⟩ (m_X8_isRace l dC dI _  p0 z1 ez1) kw527 kw525 kw526 kw110 hd_X8_isRace ⟨rfl, rfl⟩ rfl rfl ⟨rfl, rfl⟩ hX hK hw [] (by decide) rfl rfl hl.1 rfl rfl dX8_placed_1) hw hA [] (by decide) rfl rfl (fun H locs hw => ?_)
  refine lv_if_ne (tgt := 9) hx hb dX8_placed_4 (by decide) (fun c => ?_) (fun c => ?_)
  · have h := z_f h c
    refine lv_aload_n hx hb dX8_placed_9 rfl (lv_at hl 0 rfl) ?_
    refine fgX8_3 hx hb hts hown hK hw 0 rfl kw445 dX8_placed_10 ?_
    refine lv_aload_n hx hb dX8_placed_13 rfl (lv_at hl 0 rfl) ?_
    refine fgX8_2 hx hb hts hown hK hw 0 rfl kw444 dX8_placed_14 ?_
    obtain ⟨z2, ez2, h⟩ := z_bd h
    refine xj_q (xrV (As := []) (rest := [.ref h_me_court]) ⟨hx, hb, hml, hown, hts⟩ (m_X2_lawInForce l dC dI _ h_me_isles h_me_isles_now q_me_isles k_me_isles o_me_isles z2 ez2) kw531 kw528 kw529 kw530 kw115 hd_X2_lawInForce ⟨rfl, rfl⟩ rfl rfl ⟨rfl, rfl⟩ hX hK hw [2] (by decide) rfl rfl rfl rfl rfl hl.1 rfl rfl dX8_placed_17) hw hA [2] (by decide) rfl rfl (fun H locs hw => ?_)
    have hw : Wd dC dI A s.heap [wX8 h_me h_me_reader h_me_machine h_me_isles h_me_court h_me_study h_me_paper h_me_paperCourt h_me_past h_me_pastAhead h_me_movingAhead q_me k_me o_me, wX3 h_me_machine q_me_machine k_me_machine o_me_machine, wX2 h_me_isles h_me_isles_now q_me_isles k_me_isles o_me_isles, wX4 h_me_isles_now q_me_isles_now k_me_isles_now o_me_isles_now, wX1 h_me_court h_me_isles h_me_machine q_me_court k_me_court o_me_court, wPL o_pool] H locs := hw
    refine lv_iload_n hx hb dX8_placed_20 rfl (lv_at hl 1 rfl) ?_
    obtain ⟨z3, ez3, h⟩ := z_bd h
    refine xj_i (xrV (As := [va_rf z2, .int p0]) (rest := []) ⟨hx, hb, hml, hown, hts⟩ (m_X1_lineUp_Q l dC dI _ h_me_court h_me_isles h_me_machine h_me_isles_now q_me_court k_me_court q_me_isles k_me_isles q_me_isles_now k_me_isles_now q_me_machine k_me_machine o_me_court o_me_isles o_me_isles_now o_me_machine o_pool z2 p0 z3 ez3) kw605 kw602 kw603 kw604 kw117 hd_X1_lineUp ⟨rfl, rfl⟩ rfl rfl ⟨rfl, rfl⟩ hX hK hw [4, 2, 3, 1, 5] (by decide) rfl rfl rfl rfl rfl hl.1 rfl rfl dX8_placed_21) hw hA [4, 2, 3, 1, 5] (by decide) rfl rfl (fun H locs hw => ?_)
    have hw : Wd dC dI A s.heap [wX8 h_me h_me_reader h_me_machine h_me_isles h_me_court h_me_study h_me_paper h_me_paperCourt h_me_past h_me_pastAhead h_me_movingAhead q_me k_me o_me, wX3 h_me_machine q_me_machine k_me_machine z3.2.2, wX2 h_me_isles h_me_isles_now q_me_isles k_me_isles o_me_isles, wX4 h_me_isles_now q_me_isles_now k_me_isles_now o_me_isles_now, wX1 h_me_court h_me_isles h_me_machine q_me_court k_me_court z3.2.1, wPL o_pool] H locs := hw
    refine lv_istore_n (lv' := [(3, .int z3.1), (0, .ref h_me), (1, .int p0), (2, .int p1)]) hx hb dX8_placed_24 rfl hl (by decide) rfl (fun ls hl => ?_)
    refine lv_iload_n hx hb dX8_placed_25 rfl (lv_at hl 3 rfl) ?_
    refine lv_if_ne (tgt := 33) hx hb dX8_placed_26 (by decide) (fun c => ?_) (fun c => ?_)
    · have h := z_f h c
      refine lv_aload_n hx hb dX8_placed_33 rfl (lv_at hl 1 rfl) ?_
      refine fgX8_3 hx hb hts hown hK hw 0 rfl kw445 dX8_placed_34 ?_
      refine lv_iload_n hx hb dX8_placed_37 rfl (lv_at hl 3 rfl) ?_
      obtain ⟨z4, ez4, h⟩ := z_bd h
      refine xj_i (xrV (As := [.int p1]) (rest := []) ⟨hx, hb, hml, hown, hts⟩ (m_X1_at l dC dI _ h_me_court h_me_isles h_me_machine q_me_court k_me_court z3.2.1 p1 z4 ez4) kw615 kw612 kw613 kw614 kw117 hd_X1_at ⟨rfl, rfl⟩ rfl rfl ⟨rfl, rfl⟩ hX hK hw [4] (by decide) rfl rfl rfl rfl rfl hl.1 rfl rfl dX8_placed_38) hw hA [4] (by decide) rfl rfl (fun H locs hw => ?_)
      have hw : Wd dC dI A s.heap [wX8 h_me h_me_reader h_me_machine h_me_isles h_me_court h_me_study h_me_paper h_me_paperCourt h_me_past h_me_pastAhead h_me_movingAhead q_me k_me o_me, wX3 h_me_machine q_me_machine k_me_machine z3.2.2, wX2 h_me_isles h_me_isles_now q_me_isles k_me_isles o_me_isles, wX4 h_me_isles_now q_me_isles_now k_me_isles_now o_me_isles_now, wX1 h_me_court h_me_isles h_me_machine q_me_court k_me_court z3.2.1, wPL o_pool] H locs := hw
      have hy := Option.some.inj h
      rw [← hQz, ← hy]
      exact xr_i (v := z4) hx hb hr rfl hlk hK hw dX8_placed_41
    · have h := z_t h c
      refine lv_iload_n hx hb dX8_placed_29 rfl (lv_at hl 0 rfl) ?_
      refine lv_goto (tgt := 41) hx hb dX8_placed_30 (by decide) ?_
      have hy := Option.some.inj h
      rw [← hQz, ← hy]
      exact xr_i (v := z3.1) hx hb hr rfl hlk hK hw dX8_placed_41
  · have h := z_t h c
    refine lv_iconst (v := (-1)) hx hb dX8_placed_7 (by decide) ?_
    have hy := Option.some.inj h
    rw [← hQz, ← hy]
    exact xr_i (v := (-1 : Int32)) hx hb hr rfl hlk hK hw dX8_placed_8

def f_X8_race (o_me : Ob) (o_me_machine : Ob) (o_me_isles : Ob) (o_me_isles_now : Ob) (o_me_court : Ob) (o_me_past : Ob) (o_pool : List CR) (p0 : Int32) : Option (Int32 × Ob × Ob × Ob × Ob × Ob) :=
  (f_X1_moved_O o_me_court o_me_isles o_me_isles_now o_me_machine o_pool o_me_past (0 : Int32) p0).bind fun z1 =>
  (f_X8_answer o_me z1.1).bind fun z2 =>
  some (z2.1, z2.2, z1.2.2.2.1, z1.2.2.1, z1.2.1, z1.2.2.2.2)
set_option maxHeartbeats 4000000 in
set_option maxRecDepth 100000 in
theorem m_X8_race (l : Launch) (dC : Nat → ClassId) (dI : Nat → Nat → Nat) (sz : Nat) (h_me : Nat) (h_me_reader : Nat) (h_me_machine : Nat) (h_me_isles : Nat) (h_me_court : Nat) (h_me_study : Nat) (h_me_paper : Nat) (h_me_paperCourt : Nat) (h_me_past : Nat) (h_me_pastAhead : Nat) (h_me_movingAhead : Nat) (h_me_isles_now : Nat) (q_me : Nat → Nat) (k_me : Nat → ClassId) (q_me_machine : Nat → Nat) (k_me_machine : Nat → ClassId) (q_me_isles : Nat → Nat) (k_me_isles : Nat → ClassId) (q_me_isles_now : Nat → Nat) (k_me_isles_now : Nat → ClassId) (q_me_court : Nat → Nat) (k_me_court : Nat → ClassId) (q_me_past : Nat → Nat) (k_me_past : Nat → ClassId) (o_me : Ob) (o_me_machine : Ob) (o_me_isles : Ob) (o_me_isles_now : Ob) (o_me_court : Ob) (o_me_past : Ob) (o_pool : List CR) (p0 : Int32) (y : Int32 × Ob × Ob × Ob × Ob × Ob) (h : f_X8_race o_me o_me_machine o_me_isles o_me_isles_now o_me_court o_me_past o_pool p0 = some y) : CI l yX8_race cX8_race 2 (some .int) ({ frames := 6, cells := 0, slots := 0, locals := 163 } : Room) dC dI sz [.ref h_me, .int p0] [wX8 h_me h_me_reader h_me_machine h_me_isles h_me_court h_me_study h_me_paper h_me_paperCourt h_me_past h_me_pastAhead h_me_movingAhead q_me k_me o_me, wX3 h_me_machine q_me_machine k_me_machine o_me_machine, wX2 h_me_isles h_me_isles_now q_me_isles k_me_isles o_me_isles, wX4 h_me_isles_now q_me_isles_now k_me_isles_now o_me_isles_now, wX1 h_me_court h_me_isles h_me_machine q_me_court k_me_court o_me_court, wX5 h_me_past q_me_past k_me_past o_me_past, wPL o_pool] [tX8 k_me, tX3 k_me_machine, tX2 k_me_isles, tX4 k_me_isles_now, tX1 k_me_court, tX5 k_me_past, tPL o_pool] y.1 [wX8 h_me h_me_reader h_me_machine h_me_isles h_me_court h_me_study h_me_paper h_me_paperCourt h_me_past h_me_pastAhead h_me_movingAhead q_me k_me y.2.1, wX3 h_me_machine q_me_machine k_me_machine y.2.2.1, wX2 h_me_isles h_me_isles_now q_me_isles k_me_isles o_me_isles, wX4 h_me_isles_now q_me_isles_now k_me_isles_now y.2.2.2.1, wX1 h_me_court h_me_isles h_me_machine q_me_court k_me_court y.2.2.2.2.1, wX5 h_me_past q_me_past k_me_past y.2.2.2.2.2, wPL o_pool] := by
  refine CC_of (by decide) (Nat.le_of_ble_eq_true rfl) ?_
  intro p e s m below meth c A ls hx hb hml hr hlk hnm hown hts hX hK hP hD hA hl
  have hl : lv_has ls 2 [(0, .ref h_me), (1, .int p0)] := hl
  have hown : s.vm.findClass RX8 = some m.cls := hown
  have hw : Wd dC dI A s.heap [wX8 h_me h_me_reader h_me_machine h_me_isles h_me_court h_me_study h_me_paper h_me_paperCourt h_me_past h_me_pastAhead h_me_movingAhead q_me k_me o_me, wX3 h_me_machine q_me_machine k_me_machine o_me_machine, wX2 h_me_isles h_me_isles_now q_me_isles k_me_isles o_me_isles, wX4 h_me_isles_now q_me_isles_now k_me_isles_now o_me_isles_now, wX1 h_me_court h_me_isles h_me_machine q_me_court k_me_court o_me_court, wX5 h_me_past q_me_past k_me_past o_me_past, wPL o_pool] s.heap [] := ⟨hP, hD, va_S.rf⟩
  generalize hQz : (MQ below (QI dC dI (fun r (_ : Unit) => r = y.1) (fun _ => Jn [wX8 h_me h_me_reader h_me_machine h_me_isles h_me_court h_me_study h_me_paper h_me_paperCourt h_me_past h_me_pastAhead h_me_movingAhead q_me k_me y.2.1, wX3 h_me_machine q_me_machine k_me_machine y.2.2.1, wX2 h_me_isles h_me_isles_now q_me_isles k_me_isles o_me_isles, wX4 h_me_isles_now q_me_isles_now k_me_isles_now y.2.2.2.1, wX1 h_me_court h_me_isles h_me_machine q_me_court k_me_court y.2.2.2.2.1, wX5 h_me_past q_me_past k_me_past y.2.2.2.2.2, wPL o_pool]) (fun _ => Jt [tX8 k_me, tX3 k_me_machine, tX2 k_me_isles, tX4 k_me_isles_now, tX1 k_me_court, tX5 k_me_past, tPL o_pool]) A) ([.ref h_me, .int p0] : List Value).toArray s 0 0 A) = Qz
  clear hP hD hnm
  unfold f_X8_race at h
  refine lv_aload_n hx hb dX8_race_0 rfl (lv_at hl 0 rfl) ?_
  refine lv_aload_n hx hb dX8_race_1 rfl (lv_at hl 0 rfl) ?_
  refine fgX8_3 hx hb hts hown hK hw 0 rfl kw445 dX8_race_2 ?_
  refine lv_iconst (v := 0) hx hb dX8_race_5 (by decide) ?_
  refine lv_iload_n hx hb dX8_race_6 rfl (lv_at hl 1 rfl) ?_
  refine lv_aload_n hx hb dX8_race_7 rfl (lv_at hl 0 rfl) ?_
  refine fgX8_8 hx hb hts hown hK hw 0 rfl kw450 dX8_race_8 ?_
  obtain ⟨z1, ez1, h⟩ := z_bd h
  refine xj_i (xrV (As := [.int (0 : Int32), .int p0, .ref h_me_past]) (rest := [.ref h_me]) ⟨hx, hb, hml, hown, hts⟩ (m_X1_moved_O l dC dI _ h_me_court h_me_isles h_me_machine h_me_isles_now h_me_past q_me_court k_me_court q_me_isles k_me_isles q_me_isles_now k_me_isles_now q_me_machine k_me_machine q_me_past k_me_past o_me_court o_me_isles o_me_isles_now o_me_machine o_pool o_me_past (0 : Int32) p0 z1 ez1) kw852 kw849 kw850 kw851 kw117 hd_X1_moved ⟨rfl, rfl⟩ rfl rfl ⟨rfl, rfl⟩ hX hK hw [4, 2, 3, 1, 6, 5] (by decide) rfl rfl rfl rfl rfl hl.1 rfl rfl dX8_race_11) hw hA [4, 2, 3, 1, 6, 5] (by decide) rfl rfl (fun H locs hw => ?_)
  have hw : Wd dC dI A s.heap [wX8 h_me h_me_reader h_me_machine h_me_isles h_me_court h_me_study h_me_paper h_me_paperCourt h_me_past h_me_pastAhead h_me_movingAhead q_me k_me o_me, wX3 h_me_machine q_me_machine k_me_machine z1.2.2.2.1, wX2 h_me_isles h_me_isles_now q_me_isles k_me_isles o_me_isles, wX4 h_me_isles_now q_me_isles_now k_me_isles_now z1.2.2.1, wX1 h_me_court h_me_isles h_me_machine q_me_court k_me_court z1.2.1, wX5 h_me_past q_me_past k_me_past z1.2.2.2.2, wPL o_pool] H locs := hw
  obtain ⟨z2, ez2, h⟩ := z_bd h
  refine xj_i (xrV (As := [.int z1.1]) (rest := []) ⟨hx, hb, hml, hown, hts⟩ (m_X8_answer l dC dI _ h_me h_me_reader h_me_machine h_me_isles h_me_court h_me_study h_me_paper h_me_paperCourt h_me_past h_me_pastAhead h_me_movingAhead q_me k_me o_me z1.1 z2 ez2) kw918 kw915 kw917 kw26 kw110 hd_X8_answer ⟨rfl, rfl⟩ rfl rfl ⟨rfl, rfl⟩ hX hK hw [0] (by decide) rfl rfl rfl rfl rfl hl.1 rfl rfl dX8_race_14) hw hA [0] (by decide) rfl rfl (fun H locs hw => ?_)
  have hw : Wd dC dI A s.heap [wX8 h_me h_me_reader h_me_machine h_me_isles h_me_court h_me_study h_me_paper h_me_paperCourt h_me_past h_me_pastAhead h_me_movingAhead q_me k_me z2.2, wX3 h_me_machine q_me_machine k_me_machine z1.2.2.2.1, wX2 h_me_isles h_me_isles_now q_me_isles k_me_isles o_me_isles, wX4 h_me_isles_now q_me_isles_now k_me_isles_now z1.2.2.1, wX1 h_me_court h_me_isles h_me_machine q_me_court k_me_court z1.2.1, wX5 h_me_past q_me_past k_me_past z1.2.2.2.2, wPL o_pool] H locs := hw
  have hy := Option.some.inj h
  rw [← hQz, ← hy]
  exact xr_i (v := z2.1) hx hb hr rfl hlk hK hw dX8_race_17

def f_X7_brokenBy (o_me : Ob) (o_me_court_isles : Ob) (p0 : Int32) (p1 : Int32) : Option (Int32) :=
  zgd (zin p0 7) <|
  (f_J6_bitCount_0f7a4 ((gA o_me_court_isles 3 p0.toNatClampNeg) &&& p1)).bind fun z2 =>
  zgd (zin (p1 ||| ((1 : Int32) <<< (p0 &&& 31))) 640) <|
  some (z2 + (gA o_me 4 (p1 ||| ((1 : Int32) <<< (p0 &&& 31))).toNatClampNeg))
set_option maxHeartbeats 4000000 in
set_option maxRecDepth 100000 in
theorem m_X7_brokenBy (l : Launch) (dC : Nat → ClassId) (dI : Nat → Nat → Nat) (sz : Nat) (h_me : Nat) (h_me_court : Nat) (h_me_court_isles : Nat) (h_me_court_isles_now : Nat) (q_me : Nat → Nat) (k_me : Nat → ClassId) (q_me_court_isles : Nat → Nat) (k_me_court_isles : Nat → ClassId) (o_me : Ob) (o_me_court_isles : Ob) (p0 : Int32) (p1 : Int32) (y : Int32) (h : f_X7_brokenBy o_me o_me_court_isles p0 p1 = some y) : CI l yX7_brokenBy cX7_brokenBy 3 (some .int) ({ frames := 1, cells := 0, slots := 0, locals := 20 } : Room) dC dI sz [.ref h_me, .int p0, .int p1] [wX7 h_me h_me_court h_me_court_isles q_me k_me o_me, wX2 h_me_court_isles h_me_court_isles_now q_me_court_isles k_me_court_isles o_me_court_isles] [tX7 k_me, tX2 k_me_court_isles] y [wX7 h_me h_me_court h_me_court_isles q_me k_me o_me, wX2 h_me_court_isles h_me_court_isles_now q_me_court_isles k_me_court_isles o_me_court_isles] := by
  refine CC_of (by decide) (Nat.le_of_ble_eq_true rfl) ?_
  intro p e s m below meth c A ls hx hb hml hr hlk hnm hown hts hX hK hP hD hA hl
  have hl : lv_has ls 3 [(0, .ref h_me), (1, .int p0), (2, .int p1)] := hl
  have hown : s.vm.findClass RX7 = some m.cls := hown
  have hw : Wd dC dI A s.heap [wX7 h_me h_me_court h_me_court_isles q_me k_me o_me, wX2 h_me_court_isles h_me_court_isles_now q_me_court_isles k_me_court_isles o_me_court_isles] s.heap [] := ⟨hP, hD, va_S.rf⟩
  generalize hQz : (MQ below (QI dC dI (fun r (_ : Unit) => r = y) (fun _ => Jn [wX7 h_me h_me_court h_me_court_isles q_me k_me o_me, wX2 h_me_court_isles h_me_court_isles_now q_me_court_isles k_me_court_isles o_me_court_isles]) (fun _ => Jt [tX7 k_me, tX2 k_me_court_isles]) A) ([.ref h_me, .int p0, .int p1] : List Value).toArray s 0 0 A) = Qz
  clear hP hD hnm
  unfold f_X7_brokenBy at h
  refine lv_aload_n hx hb dX7_brokenBy_0 rfl (lv_at hl 0 rfl) ?_
  refine fgX7_1 hx hb hts hown hK hw 0 rfl kw387 dX7_brokenBy_1 ?_
  refine fgX2_3 hx hb hts hown hK hw 1 rfl kw309 dX7_brokenBy_4 ?_
  refine lv_iload_n hx hb dX7_brokenBy_7 rfl (lv_at hl 1 rfl) ?_
  obtain ⟨g1, h⟩ := z_gd h
  refine faX2_3 hx hb hK hw 1 rfl rfl g1 dX7_brokenBy_8 ?_
  refine lv_iload_n hx hb dX7_brokenBy_9 rfl (lv_at hl 2 rfl) ?_
  refine lv_iand hx hb dX7_brokenBy_10 ?_
  obtain ⟨z2, ez2, h⟩ := z_bd h
  refine xj_i (xrS (As := [.int ((gA o_me_court_isles 3 p0.toNatClampNeg) &&& p1)]) (rest := []) ⟨hx, hb, hml, hown, hts⟩ (m_J6_bitCount_0f7a4 l dC dI _  ((gA o_me_court_isles 3 p0.toNatClampNeg) &&& p1) z2 ez2) kw842 kw962 kw841 kw126 hd_J6_bitCount_0f7a4 ⟨rfl, rfl⟩ rfl rfl ⟨rfl, rfl⟩ hX hK hw [] (by decide) rfl rfl hl.1 rfl rfl dX7_brokenBy_11) hw hA [] (by decide) rfl rfl (fun H locs hw => ?_)
  refine lv_aload_n hx hb dX7_brokenBy_14 rfl (lv_at hl 0 rfl) ?_
  refine fgX7_4 hx hb hts hown hK hw 0 rfl kw391 dX7_brokenBy_15 ?_
  refine lv_iload_n hx hb dX7_brokenBy_18 rfl (lv_at hl 2 rfl) ?_
  refine lv_iconst (v := 1) hx hb dX7_brokenBy_19 (by decide) ?_
  refine lv_iload_n hx hb dX7_brokenBy_20 rfl (lv_at hl 1 rfl) ?_
  refine lv_ishl hx hb dX7_brokenBy_21 ?_
  refine lv_ior hx hb dX7_brokenBy_22 ?_
  obtain ⟨g3, h⟩ := z_gd h
  refine faX7_4 hx hb hK hw 0 rfl rfl g3 dX7_brokenBy_23 ?_
  refine lv_iadd hx hb dX7_brokenBy_24 ?_
  have hy := Option.some.inj h
  rw [← hQz, ← hy]
  exact xr_i (v := z2 + (gA o_me 4 (p1 ||| ((1 : Int32) <<< (p0 &&& 31))).toNatClampNeg)) hx hb hr rfl hlk hK hw dX7_brokenBy_25

def bk_X7_firstNext_38 (o_me : Ob) (o_me_court_isles : Ob) (rec_2_0 : Int32 × Int32 → Option (Int32)) (v1 : Int32) (v2 : Int32) : Option (Int32) :=
  zlt (v2 + (1 : Int32)) fun x1 =>
  rec_2_0 (v1, x1)
def lb_X7_firstNext_2 (o_me : Ob) (o_me_court_isles : Ob)  (rec_2_0 : Int32 × Int32 → Option (Int32)) (v1 : Int32) (v2 : Int32) : Option (Int32) :=
  if (gI o_me_court_isles 7) ≤ v2 then
  (some (0 : Int32))
  else
  (if ((v1 >>> (v2 &&& 31)) &&& (1 : Int32)) = (0 : Int32) then
  ((f_X7_brokenBy o_me o_me_court_isles v2 v1).bind fun z2 =>
  zgd (zin v1 640) <|
  if z2 = (gA o_me 4 v1.toNatClampNeg) then
  (some v2)
  else
  (bk_X7_firstNext_38 o_me o_me_court_isles rec_2_0 v1 v2))
  else
  (bk_X7_firstNext_38 o_me o_me_court_isles rec_2_0 v1 v2))
def lp_X7_firstNext_2 (o_me : Ob) (o_me_court_isles : Ob)  : Nat → (Int32 × Int32) → Option (Int32) := zit (fun rec a => lb_X7_firstNext_2 o_me o_me_court_isles  rec a.1 a.2)
def f_X7_firstNext (o_me : Ob) (o_me_court_isles : Ob) (p0 : Int32) : Option (Int32) :=
  lp_X7_firstNext_2 o_me o_me_court_isles  zfu (p0, (0 : Int32))
set_option maxHeartbeats 4000000 in
set_option maxRecDepth 100000 in
theorem m_X7_firstNext (l : Launch) (dC : Nat → ClassId) (dI : Nat → Nat → Nat) (sz : Nat) (h_me : Nat) (h_me_court : Nat) (h_me_court_isles : Nat) (h_me_court_isles_now : Nat) (q_me : Nat → Nat) (k_me : Nat → ClassId) (q_me_court_isles : Nat → Nat) (k_me_court_isles : Nat → ClassId) (o_me : Ob) (o_me_court_isles : Ob) (p0 : Int32) (y : Int32) (h : f_X7_firstNext o_me o_me_court_isles p0 = some y) : CI l yX7_firstNext cX7_firstNext 3 (some .int) ({ frames := 2, cells := 0, slots := 0, locals := 42 } : Room) dC dI sz [.ref h_me, .int p0] [wX7 h_me h_me_court h_me_court_isles q_me k_me o_me, wX2 h_me_court_isles h_me_court_isles_now q_me_court_isles k_me_court_isles o_me_court_isles] [tX7 k_me, tX2 k_me_court_isles] y [wX7 h_me h_me_court h_me_court_isles q_me k_me o_me, wX2 h_me_court_isles h_me_court_isles_now q_me_court_isles k_me_court_isles o_me_court_isles] := by
  refine CC_of (by decide) (Nat.le_of_ble_eq_true rfl) ?_
  intro p e s m below meth c A ls hx hb hml hr hlk hnm hown hts hX hK hP hD hA hl
  have hl : lv_has ls 3 [(0, .ref h_me), (1, .int p0)] := hl
  have hown : s.vm.findClass RX7 = some m.cls := hown
  have hw : Wd dC dI A s.heap [wX7 h_me h_me_court h_me_court_isles q_me k_me o_me, wX2 h_me_court_isles h_me_court_isles_now q_me_court_isles k_me_court_isles o_me_court_isles] s.heap [] := ⟨hP, hD, va_S.rf⟩
  generalize hQz : (MQ below (QI dC dI (fun r (_ : Unit) => r = y) (fun _ => Jn [wX7 h_me h_me_court h_me_court_isles q_me k_me o_me, wX2 h_me_court_isles h_me_court_isles_now q_me_court_isles k_me_court_isles o_me_court_isles]) (fun _ => Jt [tX7 k_me, tX2 k_me_court_isles]) A) ([.ref h_me, .int p0] : List Value).toArray s 0 0 A) = Qz
  clear hP hD hnm
  have bk_38_1 : ∀ (rec_2_0 : Int32 × Int32 → Option (Int32)) (hrec_2_0 : ∀ (v1 : Int32) (v2 : Int32) (H : Heap) (locs : List Loc) (ls : Array Slot), rec_2_0 (v1, v2) = some y → Wd dC dI A s.heap [wX7 h_me h_me_court h_me_court_isles q_me k_me o_me, wX2 h_me_court_isles h_me_court_isles_now q_me_court_isles k_me_court_isles o_me_court_isles] H locs → lv_has ls 3 [(0, .ref h_me), (1, .int v1), (2, .int v2)] → W p l e ({ frames := 2, cells := 0, slots := 0, locals := 42 } : Room) s m ([.ref h_me, .int p0] : List Value).toArray below meth c H locs 0 0 Qz (F0 m 2 ls [])), ∀ (v1 : Int32) (v2 : Int32) (H : Heap) (locs : List Loc) (ls : Array Slot), bk_X7_firstNext_38 o_me o_me_court_isles rec_2_0 v1 v2 = some y → Wd dC dI A s.heap [wX7 h_me h_me_court h_me_court_isles q_me k_me o_me, wX2 h_me_court_isles h_me_court_isles_now q_me_court_isles k_me_court_isles o_me_court_isles] H locs → lv_has ls 3 [(0, .ref h_me), (1, .int v1), (2, .int v2)] → W p l e ({ frames := 2, cells := 0, slots := 0, locals := 42 } : Room) s m ([.ref h_me, .int p0] : List Value).toArray below meth c H locs 0 0 Qz (F0 m 38 ls []) := by
    intro rec_2_0 hrec_2_0
    intro v1 v2 H locs ls h hw hl
    unfold bk_X7_firstNext_38 at h
    obtain ⟨x1, ex1, h⟩ := z_lt h
    refine lv_iinc (v := x1) (lv' := [(2, .int x1), (0, .ref h_me), (1, .int v1)]) hx hb dX7_firstNext_38 hl (k := 2) rfl ((congrArg (v2 + ·) (show Int32.ofInt 1 = (1 : Int32) from by decide)).trans ex1.symm) (by decide) rfl (fun ls hl => ?_)
    refine lv_goto (tgt := 2) hx hb dX7_firstNext_41 (by decide) ?_
    exact hrec_2_0 v1 x1 _ _ _ h hw (lv_sub hl [1, 2, 0] rfl)
  have lp_2_0 : ∀ (N : Nat), ∀ (v1 : Int32) (v2 : Int32) (H : Heap) (locs : List Loc) (ls : Array Slot), lp_X7_firstNext_2 o_me o_me_court_isles  N (v1, v2) = some y → Wd dC dI A s.heap [wX7 h_me h_me_court h_me_court_isles q_me k_me o_me, wX2 h_me_court_isles h_me_court_isles_now q_me_court_isles k_me_court_isles o_me_court_isles] H locs → lv_has ls 3 [(0, .ref h_me), (1, .int v1), (2, .int v2)] → W p l e ({ frames := 2, cells := 0, slots := 0, locals := 42 } : Room) s m ([.ref h_me, .int p0] : List Value).toArray below meth c H locs 0 0 Qz (F0 m 2 ls []) := by
    intro N
    induction N with
    | zero =>
      intro v1 v2 H locs ls h hw hl
      exact absurd (show (none : Option (Int32)) = some y from h) (by simp)
    | succ N ih =>
      intro v1 v2 H locs ls h hw hl
      have h : lb_X7_firstNext_2 o_me o_me_court_isles  (lp_X7_firstNext_2 o_me o_me_court_isles  N) v1 v2 = some y := h
      unfold lb_X7_firstNext_2 at h
      refine lv_iload_n hx hb dX7_firstNext_2 rfl (lv_at hl 2 rfl) ?_
      refine lv_aload_n hx hb dX7_firstNext_3 rfl (lv_at hl 0 rfl) ?_
      refine fgX7_1 hx hb hts hown hK hw 0 rfl kw387 dX7_firstNext_4 ?_
      refine fgX2_7 hx hb hts hown hK hw 1 rfl kw316 dX7_firstNext_7 ?_
      refine lv_icmp_ge (tgt := 44) hx hb dX7_firstNext_10 (by decide) (fun c => ?_) (fun c => ?_)
      · have h := z_t h c
        refine lv_iconst (v := 0) hx hb dX7_firstNext_44 (by decide) ?_
        have hy := Option.some.inj h
        rw [← hQz, ← hy]
        exact xr_i (v := (0 : Int32)) hx hb hr rfl hlk hK hw dX7_firstNext_45
      · have h := z_f h c
        refine lv_iload_n hx hb dX7_firstNext_13 rfl (lv_at hl 1 rfl) ?_
        refine lv_iload_n hx hb dX7_firstNext_14 rfl (lv_at hl 2 rfl) ?_
        refine lv_ishr hx hb dX7_firstNext_15 ?_
        refine lv_iconst (v := 1) hx hb dX7_firstNext_16 (by decide) ?_
        refine lv_iand hx hb dX7_firstNext_17 ?_
        refine lv_if_ne (tgt := 38) hx hb dX7_firstNext_18 (by decide) (fun c => ?_) (fun c => ?_)
        · have h := z_f h c
          exact bk_38_1 (lp_X7_firstNext_2 o_me o_me_court_isles  N) ih v1 v2 _ _ _ h hw (lv_sub hl [0, 1, 2] rfl)
        · have h := z_t h c
          refine lv_aload_n hx hb dX7_firstNext_21 rfl (lv_at hl 0 rfl) ?_
          refine lv_iload_n hx hb dX7_firstNext_22 rfl (lv_at hl 2 rfl) ?_
          refine lv_iload_n hx hb dX7_firstNext_23 rfl (lv_at hl 1 rfl) ?_
          obtain ⟨z2, ez2, h⟩ := z_bd h
          refine xj_i (xrV (As := [.int v2, .int v1]) (rest := []) ⟨hx, hb, hml, hown, hts⟩ (m_X7_brokenBy l dC dI _ h_me h_me_court h_me_court_isles h_me_court_isles_now q_me k_me q_me_court_isles k_me_court_isles o_me o_me_court_isles v2 v1 z2 ez2) kw1020 kw1017 kw1019 kw31 kw118 hd_X7_brokenBy ⟨rfl, rfl⟩ rfl rfl ⟨rfl, rfl⟩ hX hK hw [0, 1] (by decide) rfl rfl rfl rfl rfl hl.1 rfl rfl dX7_firstNext_24) hw hA [0, 1] (by decide) rfl rfl (fun H locs hw => ?_)
          have hw : Wd dC dI A s.heap [wX7 h_me h_me_court h_me_court_isles q_me k_me o_me, wX2 h_me_court_isles h_me_court_isles_now q_me_court_isles k_me_court_isles o_me_court_isles] H locs := hw
          refine lv_aload_n hx hb dX7_firstNext_27 rfl (lv_at hl 0 rfl) ?_
          refine fgX7_4 hx hb hts hown hK hw 0 rfl kw391 dX7_firstNext_28 ?_
          refine lv_iload_n hx hb dX7_firstNext_31 rfl (lv_at hl 1 rfl) ?_
          obtain ⟨g3, h⟩ := z_gd h
          refine faX7_4 hx hb hK hw 0 rfl rfl g3 dX7_firstNext_32 ?_
          refine lv_icmp_ne (tgt := 38) hx hb dX7_firstNext_33 (by decide) (fun c => ?_) (fun c => ?_)
          · have h := z_f h c
            exact bk_38_1 (lp_X7_firstNext_2 o_me o_me_court_isles  N) ih v1 v2 _ _ _ h hw (lv_sub hl [0, 1, 2] rfl)
          · have h := z_t h c
            refine lv_iload_n hx hb dX7_firstNext_36 rfl (lv_at hl 2 rfl) ?_
            have hy := Option.some.inj h
            rw [← hQz, ← hy]
            exact xr_i (v := v2) hx hb hr rfl hlk hK hw dX7_firstNext_37
  unfold f_X7_firstNext at h
  refine lv_iconst (v := 0) hx hb dX7_firstNext_0 (by decide) ?_
  refine lv_istore_n (lv' := [(2, .int (0 : Int32)), (0, .ref h_me), (1, .int p0)]) hx hb dX7_firstNext_1 rfl hl (by decide) rfl (fun ls hl => ?_)
  exact lp_2_0  zfu p0 (0 : Int32) _ _ _ h hw (lv_sub hl [1, 2, 0] rfl)

def lb_X7_rankAll_90 (o_me_court_isles : Ob)  (rec_90_1 : Int32 × Int32 × Ob → Option (Int32 × Ob)) (v2 : Int32) (v3 : Int32) (o_me : Ob) : Option (Int32 × Ob) :=
  if (gI o_me_court_isles 7) ≤ v3 then
  (some (gA o_me 4 (0 : Int32).toNatClampNeg, o_me))
  else
  ((f_X7_firstNext o_me o_me_court_isles v2).bind fun z5 =>
  zgd (zin v3 7) <|
  zlt (tA o_me 2 v3.toNatClampNeg z5) fun o7 =>
  zlt (v2 ||| ((1 : Int32) <<< (z5 &&& 31))) fun x8 =>
  zlt (v3 + (1 : Int32)) fun x9 =>
  rec_90_1 (x8, x9, o7))
def lp_X7_rankAll_90 (o_me_court_isles : Ob)  : Nat → (Int32 × Int32 × Ob) → Option (Int32 × Ob) := zit (fun rec a => lb_X7_rankAll_90 o_me_court_isles  rec a.1 a.2.1 a.2.2)
def bk_X7_rankAll_67 (o_me_court_isles : Ob) (rec_23_0 : Int32 × Ob → Option (Int32 × Ob)) (rec_34_2 : Int32 × Int32 × Int32 × Ob → Option (Int32 × Ob)) (v2 : Int32) (v3 : Int32) (v4 : Int32) (o_me : Ob) : Option (Int32 × Ob) :=
  zlt (v4 + (1 : Int32)) fun x13 =>
  rec_34_2 (v2, v3, x13, o_me)
def lb_X7_rankAll_34 (o_me_court_isles : Ob) (rec_23_0 : Int32 × Ob → Option (Int32 × Ob)) (rec_34_2 : Int32 × Int32 × Int32 × Ob → Option (Int32 × Ob)) (v2 : Int32) (v3 : Int32) (v4 : Int32) (o_me : Ob) : Option (Int32 × Ob) :=
  if (gI o_me_court_isles 7) ≤ v4 then
  (zgd (zin v2 640) <|
  zlt (tA o_me 4 v2.toNatClampNeg v3) fun o11 =>
  zlt (v2 + (-1 : Int32)) fun x12 =>
  rec_23_0 (x12, o11))
  else
  (if ((v2 >>> (v4 &&& 31)) &&& (1 : Int32)) = (0 : Int32) then
  ((f_X7_brokenBy o_me o_me_court_isles v4 v2).bind fun z14 =>
  zlt (if z14 < v3 then z14 else v3) fun x15 =>
  bk_X7_rankAll_67 o_me_court_isles rec_23_0 rec_34_2 v2 x15 v4 o_me)
  else
  (bk_X7_rankAll_67 o_me_court_isles rec_23_0 rec_34_2 v2 v3 v4 o_me))
def lp_X7_rankAll_34 (o_me_court_isles : Ob) (rec_23_0 : Int32 × Ob → Option (Int32 × Ob)) : Nat → (Int32 × Int32 × Int32 × Ob) → Option (Int32 × Ob) := zit (fun rec a => lb_X7_rankAll_34 o_me_court_isles rec_23_0 rec a.1 a.2.1 a.2.2.1 a.2.2.2)
def lb_X7_rankAll_23 (o_me_court_isles : Ob)  (rec_23_0 : Int32 × Ob → Option (Int32 × Ob)) (v2 : Int32) (o_me : Ob) : Option (Int32 × Ob) :=
  if v2 < (0 : Int32) then
  (lp_X7_rankAll_90 o_me_court_isles  zfu ((0 : Int32), (0 : Int32), o_me))
  else
  (lp_X7_rankAll_34 o_me_court_isles rec_23_0 zfu (v2, (1000 : Int32), (0 : Int32), o_me))
def lp_X7_rankAll_23 (o_me_court_isles : Ob)  : Nat → (Int32 × Ob) → Option (Int32 × Ob) := zit (fun rec a => lb_X7_rankAll_23 o_me_court_isles  rec a.1 a.2)
def f_X7_rankAll (o_me : Ob) (o_me_court_isles : Ob) : Option (Int32 × Ob) :=
  zlt (((1 : Int32) <<< ((gI o_me_court_isles 7) &&& 31)) - (1 : Int32)) fun x1 =>
  zgd (zin x1 640) <|
  zlt (tA o_me 4 x1.toNatClampNeg (0 : Int32)) fun o3 =>
  zlt (x1 - (1 : Int32)) fun x4 =>
  lp_X7_rankAll_23 o_me_court_isles  zfu (x4, o3)
set_option maxHeartbeats 4000000 in
set_option maxRecDepth 100000 in
theorem m_X7_rankAll (l : Launch) (dC : Nat → ClassId) (dI : Nat → Nat → Nat) (sz : Nat) (h_me : Nat) (h_me_court : Nat) (h_me_court_isles : Nat) (h_me_court_isles_now : Nat) (q_me : Nat → Nat) (k_me : Nat → ClassId) (q_me_court_isles : Nat → Nat) (k_me_court_isles : Nat → ClassId) (o_me : Ob) (o_me_court_isles : Ob) (y : Int32 × Ob) (h : f_X7_rankAll o_me o_me_court_isles = some y) : CI l yX7_rankAll cX7_rankAll 5 (some .int) ({ frames := 3, cells := 0, slots := 0, locals := 64 } : Room) dC dI sz [.ref h_me] [wX7 h_me h_me_court h_me_court_isles q_me k_me o_me, wX2 h_me_court_isles h_me_court_isles_now q_me_court_isles k_me_court_isles o_me_court_isles] [tX7 k_me, tX2 k_me_court_isles] y.1 [wX7 h_me h_me_court h_me_court_isles q_me k_me y.2, wX2 h_me_court_isles h_me_court_isles_now q_me_court_isles k_me_court_isles o_me_court_isles] := by
  refine CC_of (by decide) (Nat.le_of_ble_eq_true rfl) ?_
  intro p e s m below meth c A ls hx hb hml hr hlk hnm hown hts hX hK hP hD hA hl
  have hl : lv_has ls 5 [(0, .ref h_me)] := hl
  have hown : s.vm.findClass RX7 = some m.cls := hown
  have hw : Wd dC dI A s.heap [wX7 h_me h_me_court h_me_court_isles q_me k_me o_me, wX2 h_me_court_isles h_me_court_isles_now q_me_court_isles k_me_court_isles o_me_court_isles] s.heap [] := ⟨hP, hD, va_S.rf⟩
  generalize hQz : (MQ below (QI dC dI (fun r (_ : Unit) => r = y.1) (fun _ => Jn [wX7 h_me h_me_court h_me_court_isles q_me k_me y.2, wX2 h_me_court_isles h_me_court_isles_now q_me_court_isles k_me_court_isles o_me_court_isles]) (fun _ => Jt [tX7 k_me, tX2 k_me_court_isles]) A) ([.ref h_me] : List Value).toArray s 0 0 A) = Qz
  clear hP hD hnm
  have lp_90_1 : ∀ (N : Nat), ∀ (v2 : Int32) (v3 : Int32) (o_me : Ob) (H : Heap) (locs : List Loc) (ls : Array Slot), lp_X7_rankAll_90 o_me_court_isles  N (v2, v3, o_me) = some y → Wd dC dI A s.heap [wX7 h_me h_me_court h_me_court_isles q_me k_me o_me, wX2 h_me_court_isles h_me_court_isles_now q_me_court_isles k_me_court_isles o_me_court_isles] H locs → lv_has ls 5 [(0, .ref h_me), (2, .int v2), (3, .int v3)] → W p l e ({ frames := 3, cells := 0, slots := 0, locals := 64 } : Room) s m ([.ref h_me] : List Value).toArray below meth c H locs 0 0 Qz (F0 m 90 ls []) := by
    intro N
    induction N with
    | zero =>
      intro v2 v3 o_me H locs ls h hw hl
      exact absurd (show (none : Option (Int32 × Ob)) = some y from h) (by simp)
    | succ N ih =>
      intro v2 v3 o_me H locs ls h hw hl
      have h : lb_X7_rankAll_90 o_me_court_isles  (lp_X7_rankAll_90 o_me_court_isles  N) v2 v3 o_me = some y := h
      unfold lb_X7_rankAll_90 at h
      refine lv_iload_n hx hb dX7_rankAll_90 rfl (lv_at hl 2 rfl) ?_
      refine lv_aload_n hx hb dX7_rankAll_91 rfl (lv_at hl 0 rfl) ?_
      refine fgX7_1 hx hb hts hown hK hw 0 rfl kw387 dX7_rankAll_92 ?_
      refine fgX2_7 hx hb hts hown hK hw 1 rfl kw316 dX7_rankAll_95 ?_
      refine lv_icmp_ge (tgt := 129) hx hb dX7_rankAll_98 (by decide) (fun c => ?_) (fun c => ?_)
      · have h := z_t h c
        refine lv_aload_n hx hb dX7_rankAll_129 rfl (lv_at hl 0 rfl) ?_
        refine fgX7_4 hx hb hts hown hK hw 0 rfl kw391 dX7_rankAll_130 ?_
        refine lv_iconst (v := 0) hx hb dX7_rankAll_133 (by decide) ?_
        refine faX7_4 hx hb hK hw 0 rfl rfl (by decide) dX7_rankAll_134 ?_
        have hy := Option.some.inj h
        rw [← hQz, ← hy]
        exact xr_i (v := gA o_me 4 (0 : Int32).toNatClampNeg) hx hb hr rfl hlk hK hw dX7_rankAll_135
      · have h := z_f h c
        refine lv_aload_n hx hb dX7_rankAll_101 rfl (lv_at hl 0 rfl) ?_
        refine lv_iload_n hx hb dX7_rankAll_102 rfl (lv_at hl 1 rfl) ?_
        obtain ⟨z5, ez5, h⟩ := z_bd h
        refine xj_i (xrV (As := [.int v2]) (rest := []) ⟨hx, hb, hml, hown, hts⟩ (m_X7_firstNext l dC dI _ h_me h_me_court h_me_court_isles h_me_court_isles_now q_me k_me q_me_court_isles k_me_court_isles o_me o_me_court_isles v2 z5 ez5) kw1025 kw1022 kw1024 kw32 kw118 hd_X7_firstNext ⟨rfl, rfl⟩ rfl rfl ⟨rfl, rfl⟩ hX hK hw [0, 1] (by decide) rfl rfl rfl rfl rfl hl.1 rfl rfl dX7_rankAll_103) hw hA [0, 1] (by decide) rfl rfl (fun H locs hw => ?_)
        have hw : Wd dC dI A s.heap [wX7 h_me h_me_court h_me_court_isles q_me k_me o_me, wX2 h_me_court_isles h_me_court_isles_now q_me_court_isles k_me_court_isles o_me_court_isles] H locs := hw
        refine lv_istore (lv' := [(4, .int z5), (0, .ref h_me), (2, .int v2), (3, .int v3)]) hx hb dX7_rankAll_106 hl (by decide) rfl (fun ls hl => ?_)
        refine lv_aload_n hx hb dX7_rankAll_108 rfl (lv_at hl 1 rfl) ?_
        refine fgX7_2 hx hb hts hown hK hw 0 rfl kw388 dX7_rankAll_109 ?_
        refine lv_iload_n hx hb dX7_rankAll_112 rfl (lv_at hl 3 rfl) ?_
        refine lv_iload hx hb dX7_rankAll_113 (lv_at hl 0 rfl) ?_
        obtain ⟨g6, h⟩ := z_gd h
        refine fbX7_2 hx hb hK hw 0 rfl rfl g6 dX7_rankAll_115 (fun H locs hw => ?_)
        obtain ⟨o7, eo7, h⟩ := z_lt h
        have hw : Wd dC dI A s.heap [wX7 h_me h_me_court h_me_court_isles q_me k_me o7, wX2 h_me_court_isles h_me_court_isles_now q_me_court_isles k_me_court_isles o_me_court_isles] H locs := by rw [eo7]; exact hw
        refine lv_iload_n hx hb dX7_rankAll_116 rfl (lv_at hl 2 rfl) ?_
        refine lv_iconst (v := 1) hx hb dX7_rankAll_117 (by decide) ?_
        refine lv_iload hx hb dX7_rankAll_118 (lv_at hl 0 rfl) ?_
        refine lv_ishl hx hb dX7_rankAll_120 ?_
        refine lv_ior hx hb dX7_rankAll_121 ?_
        obtain ⟨x8, ex8, h⟩ := z_lt h
        refine lv_fi (v := x8) ex8.symm ?_
        refine lv_istore_n (lv' := [(2, .int x8), (4, .int z5), (0, .ref h_me), (3, .int v3)]) hx hb dX7_rankAll_122 rfl hl (by decide) rfl (fun ls hl => ?_)
        obtain ⟨x9, ex9, h⟩ := z_lt h
        refine lv_iinc (v := x9) (lv' := [(3, .int x9), (2, .int x8), (4, .int z5), (0, .ref h_me)]) hx hb dX7_rankAll_123 hl (k := 3) rfl ((congrArg (v3 + ·) (show Int32.ofInt 1 = (1 : Int32) from by decide)).trans ex9.symm) (by decide) rfl (fun ls hl => ?_)
        refine lv_goto (tgt := 90) hx hb dX7_rankAll_126 (by decide) ?_
        exact ih x8 x9 o7 _ _ _ h hw (lv_sub hl [3, 1, 0] rfl)
  have bk_67_3 : ∀ (rec_23_0 : Int32 × Ob → Option (Int32 × Ob)) (hrec_23_0 : ∀ (v2 : Int32) (o_me : Ob) (H : Heap) (locs : List Loc) (ls : Array Slot), rec_23_0 (v2, o_me) = some y → Wd dC dI A s.heap [wX7 h_me h_me_court h_me_court_isles q_me k_me o_me, wX2 h_me_court_isles h_me_court_isles_now q_me_court_isles k_me_court_isles o_me_court_isles] H locs → lv_has ls 5 [(0, .ref h_me), (2, .int v2)] → W p l e ({ frames := 3, cells := 0, slots := 0, locals := 64 } : Room) s m ([.ref h_me] : List Value).toArray below meth c H locs 0 0 Qz (F0 m 23 ls [])) (rec_34_2 : Int32 × Int32 × Int32 × Ob → Option (Int32 × Ob)) (hrec_34_2 : ∀ (v2 : Int32) (v3 : Int32) (v4 : Int32) (o_me : Ob) (H : Heap) (locs : List Loc) (ls : Array Slot), rec_34_2 (v2, v3, v4, o_me) = some y → Wd dC dI A s.heap [wX7 h_me h_me_court h_me_court_isles q_me k_me o_me, wX2 h_me_court_isles h_me_court_isles_now q_me_court_isles k_me_court_isles o_me_court_isles] H locs → lv_has ls 5 [(0, .ref h_me), (2, .int v2), (3, .int v3), (4, .int v4)] → W p l e ({ frames := 3, cells := 0, slots := 0, locals := 64 } : Room) s m ([.ref h_me] : List Value).toArray below meth c H locs 0 0 Qz (F0 m 34 ls [])), ∀ (v2 : Int32) (v3 : Int32) (v4 : Int32) (o_me : Ob) (H : Heap) (locs : List Loc) (ls : Array Slot), bk_X7_rankAll_67 o_me_court_isles rec_23_0 rec_34_2 v2 v3 v4 o_me = some y → Wd dC dI A s.heap [wX7 h_me h_me_court h_me_court_isles q_me k_me o_me, wX2 h_me_court_isles h_me_court_isles_now q_me_court_isles k_me_court_isles o_me_court_isles] H locs → lv_has ls 5 [(0, .ref h_me), (2, .int v2), (3, .int v3), (4, .int v4)] → W p l e ({ frames := 3, cells := 0, slots := 0, locals := 64 } : Room) s m ([.ref h_me] : List Value).toArray below meth c H locs 0 0 Qz (F0 m 67 ls []) := by
    intro rec_23_0 hrec_23_0 rec_34_2 hrec_34_2
    intro v2 v3 v4 o_me H locs ls h hw hl
    unfold bk_X7_rankAll_67 at h
    obtain ⟨x13, ex13, h⟩ := z_lt h
    refine lv_iinc (v := x13) (lv' := [(4, .int x13), (0, .ref h_me), (2, .int v2), (3, .int v3)]) hx hb dX7_rankAll_67 hl (k := 3) rfl ((congrArg (v4 + ·) (show Int32.ofInt 1 = (1 : Int32) from by decide)).trans ex13.symm) (by decide) rfl (fun ls hl => ?_)
    refine lv_goto (tgt := 34) hx hb dX7_rankAll_70 (by decide) ?_
    exact hrec_34_2 v2 v3 x13 o_me _ _ _ h hw (lv_sub hl [1, 2, 3, 0] rfl)
  have lp_34_2 : ∀ (rec_23_0 : Int32 × Ob → Option (Int32 × Ob)) (hrec_23_0 : ∀ (v2 : Int32) (o_me : Ob) (H : Heap) (locs : List Loc) (ls : Array Slot), rec_23_0 (v2, o_me) = some y → Wd dC dI A s.heap [wX7 h_me h_me_court h_me_court_isles q_me k_me o_me, wX2 h_me_court_isles h_me_court_isles_now q_me_court_isles k_me_court_isles o_me_court_isles] H locs → lv_has ls 5 [(0, .ref h_me), (2, .int v2)] → W p l e ({ frames := 3, cells := 0, slots := 0, locals := 64 } : Room) s m ([.ref h_me] : List Value).toArray below meth c H locs 0 0 Qz (F0 m 23 ls [])) (N : Nat), ∀ (v2 : Int32) (v3 : Int32) (v4 : Int32) (o_me : Ob) (H : Heap) (locs : List Loc) (ls : Array Slot), lp_X7_rankAll_34 o_me_court_isles rec_23_0 N (v2, v3, v4, o_me) = some y → Wd dC dI A s.heap [wX7 h_me h_me_court h_me_court_isles q_me k_me o_me, wX2 h_me_court_isles h_me_court_isles_now q_me_court_isles k_me_court_isles o_me_court_isles] H locs → lv_has ls 5 [(0, .ref h_me), (2, .int v2), (3, .int v3), (4, .int v4)] → W p l e ({ frames := 3, cells := 0, slots := 0, locals := 64 } : Room) s m ([.ref h_me] : List Value).toArray below meth c H locs 0 0 Qz (F0 m 34 ls []) := by
    intro rec_23_0 hrec_23_0
    intro N
    induction N with
    | zero =>
      intro v2 v3 v4 o_me H locs ls h hw hl
      exact absurd (show (none : Option (Int32 × Ob)) = some y from h) (by simp)
    | succ N ih =>
      intro v2 v3 v4 o_me H locs ls h hw hl
      have h : lb_X7_rankAll_34 o_me_court_isles rec_23_0 (lp_X7_rankAll_34 o_me_court_isles rec_23_0 N) v2 v3 v4 o_me = some y := h
      unfold lb_X7_rankAll_34 at h
      refine lv_iload hx hb dX7_rankAll_34 (lv_at hl 3 rfl) ?_
      refine lv_aload_n hx hb dX7_rankAll_36 rfl (lv_at hl 0 rfl) ?_
      refine fgX7_1 hx hb hts hown hK hw 0 rfl kw387 dX7_rankAll_37 ?_
      refine fgX2_7 hx hb hts hown hK hw 1 rfl kw316 dX7_rankAll_40 ?_
      refine lv_icmp_ge (tgt := 73) hx hb dX7_rankAll_43 (by decide) (fun c => ?_) (fun c => ?_)
      · have h := z_t h c
        refine lv_aload_n hx hb dX7_rankAll_73 rfl (lv_at hl 0 rfl) ?_
        refine fgX7_4 hx hb hts hown hK hw 0 rfl kw391 dX7_rankAll_74 ?_
        refine lv_iload_n hx hb dX7_rankAll_77 rfl (lv_at hl 1 rfl) ?_
        refine lv_iload_n hx hb dX7_rankAll_78 rfl (lv_at hl 2 rfl) ?_
        obtain ⟨g10, h⟩ := z_gd h
        refine fbX7_4 hx hb hK hw 0 rfl rfl g10 dX7_rankAll_79 (fun H locs hw => ?_)
        obtain ⟨o11, eo11, h⟩ := z_lt h
        have hw : Wd dC dI A s.heap [wX7 h_me h_me_court h_me_court_isles q_me k_me o11, wX2 h_me_court_isles h_me_court_isles_now q_me_court_isles k_me_court_isles o_me_court_isles] H locs := by rw [eo11]; exact hw
        obtain ⟨x12, ex12, h⟩ := z_lt h
        refine lv_iinc (v := x12) (lv' := [(2, .int x12), (0, .ref h_me), (3, .int v3), (4, .int v4)]) hx hb dX7_rankAll_80 hl (k := 1) rfl ((congrArg (v2 + ·) (show Int32.ofInt (-1) = (-1 : Int32) from by decide)).trans ex12.symm) (by decide) rfl (fun ls hl => ?_)
        refine lv_goto (tgt := 23) hx hb dX7_rankAll_83 (by decide) ?_
        exact hrec_23_0 x12 o11 _ _ _ h hw (lv_sub hl [1, 0] rfl)
      · have h := z_f h c
        refine lv_iload_n hx hb dX7_rankAll_46 rfl (lv_at hl 1 rfl) ?_
        refine lv_iload hx hb dX7_rankAll_47 (lv_at hl 3 rfl) ?_
        refine lv_ishr hx hb dX7_rankAll_49 ?_
        refine lv_iconst (v := 1) hx hb dX7_rankAll_50 (by decide) ?_
        refine lv_iand hx hb dX7_rankAll_51 ?_
        refine lv_if_ne (tgt := 67) hx hb dX7_rankAll_52 (by decide) (fun c => ?_) (fun c => ?_)
        · have h := z_f h c
          exact bk_67_3 rec_23_0 hrec_23_0 (lp_X7_rankAll_34 o_me_court_isles rec_23_0 N) ih v2 v3 v4 o_me _ _ _ h hw (lv_sub hl [0, 1, 2, 3] rfl)
        · have h := z_t h c
          refine lv_iload_n hx hb dX7_rankAll_55 rfl (lv_at hl 2 rfl) ?_
          refine lv_aload_n hx hb dX7_rankAll_56 rfl (lv_at hl 0 rfl) ?_
          refine lv_iload hx hb dX7_rankAll_57 (lv_at hl 3 rfl) ?_
          refine lv_iload_n hx hb dX7_rankAll_59 rfl (lv_at hl 1 rfl) ?_
          obtain ⟨z14, ez14, h⟩ := z_bd h
          refine xj_i (xrV (As := [.int v4, .int v2]) (rest := [.int v3]) ⟨hx, hb, hml, hown, hts⟩ (m_X7_brokenBy l dC dI _ h_me h_me_court h_me_court_isles h_me_court_isles_now q_me k_me q_me_court_isles k_me_court_isles o_me o_me_court_isles v4 v2 z14 ez14) kw1020 kw1017 kw1019 kw31 kw118 hd_X7_brokenBy ⟨rfl, rfl⟩ rfl rfl ⟨rfl, rfl⟩ hX hK hw [0, 1] (by decide) rfl rfl rfl rfl rfl hl.1 rfl rfl dX7_rankAll_60) hw hA [0, 1] (by decide) rfl rfl (fun H locs hw => ?_)
          have hw : Wd dC dI A s.heap [wX7 h_me h_me_court h_me_court_isles q_me k_me o_me, wX2 h_me_court_isles h_me_court_isles_now q_me_court_isles k_me_court_isles o_me_court_isles] H locs := hw
          refine va_mmin hx hb (hml.trans hl.1.symm) hown (hts _ kw1021) (hts _ kw561) (hts _ kw113) (hts _ kw562) (Nat.le_of_ble_eq_true rfl) (Nat.le_of_ble_eq_true rfl) (Nat.le_of_ble_eq_true rfl) (Nat.le_of_ble_eq_true rfl) dX7_rankAll_63 ?_
          obtain ⟨x15, ex15, h⟩ := z_lt h
          refine lv_fi (v := x15) ex15.symm ?_
          refine lv_istore_n (lv' := [(3, .int x15), (0, .ref h_me), (2, .int v2), (4, .int v4)]) hx hb dX7_rankAll_66 rfl hl (by decide) rfl (fun ls hl => ?_)
          exact bk_67_3 rec_23_0 hrec_23_0 (lp_X7_rankAll_34 o_me_court_isles rec_23_0 N) ih v2 x15 v4 o_me _ _ _ h hw (lv_sub hl [1, 2, 0, 3] rfl)
  have lp_23_0 : ∀ (N : Nat), ∀ (v2 : Int32) (o_me : Ob) (H : Heap) (locs : List Loc) (ls : Array Slot), lp_X7_rankAll_23 o_me_court_isles  N (v2, o_me) = some y → Wd dC dI A s.heap [wX7 h_me h_me_court h_me_court_isles q_me k_me o_me, wX2 h_me_court_isles h_me_court_isles_now q_me_court_isles k_me_court_isles o_me_court_isles] H locs → lv_has ls 5 [(0, .ref h_me), (2, .int v2)] → W p l e ({ frames := 3, cells := 0, slots := 0, locals := 64 } : Room) s m ([.ref h_me] : List Value).toArray below meth c H locs 0 0 Qz (F0 m 23 ls []) := by
    intro N
    induction N with
    | zero =>
      intro v2 o_me H locs ls h hw hl
      exact absurd (show (none : Option (Int32 × Ob)) = some y from h) (by simp)
    | succ N ih =>
      intro v2 o_me H locs ls h hw hl
      have h : lb_X7_rankAll_23 o_me_court_isles  (lp_X7_rankAll_23 o_me_court_isles  N) v2 o_me = some y := h
      unfold lb_X7_rankAll_23 at h
      refine lv_iload_n hx hb dX7_rankAll_23 rfl (lv_at hl 1 rfl) ?_
      refine lv_if_lt (tgt := 86) hx hb dX7_rankAll_24 (by decide) (fun c => ?_) (fun c => ?_)
      · have h := z_t h c
        refine lv_iconst (v := 0) hx hb dX7_rankAll_86 (by decide) ?_
        refine lv_istore_n (lv' := [(2, .int (0 : Int32)), (0, .ref h_me)]) hx hb dX7_rankAll_87 rfl hl (by decide) rfl (fun ls hl => ?_)
        refine lv_iconst (v := 0) hx hb dX7_rankAll_88 (by decide) ?_
        refine lv_istore_n (lv' := [(3, .int (0 : Int32)), (2, .int (0 : Int32)), (0, .ref h_me)]) hx hb dX7_rankAll_89 rfl hl (by decide) rfl (fun ls hl => ?_)
        exact lp_90_1  zfu (0 : Int32) (0 : Int32) o_me _ _ _ h hw (lv_sub hl [2, 1, 0] rfl)
      · have h := z_f h c
        refine lv_sipush (v := 1000) hx hb dX7_rankAll_27 (by decide) ?_
        refine lv_istore_n (lv' := [(3, .int (1000 : Int32)), (0, .ref h_me), (2, .int v2)]) hx hb dX7_rankAll_30 rfl hl (by decide) rfl (fun ls hl => ?_)
        refine lv_iconst (v := 0) hx hb dX7_rankAll_31 (by decide) ?_
        refine lv_istore (lv' := [(4, .int (0 : Int32)), (3, .int (1000 : Int32)), (0, .ref h_me), (2, .int v2)]) hx hb dX7_rankAll_32 hl (by decide) rfl (fun ls hl => ?_)
        exact lp_34_2 (lp_X7_rankAll_23 o_me_court_isles  N) ih zfu v2 (1000 : Int32) (0 : Int32) o_me _ _ _ h hw (lv_sub hl [2, 3, 1, 0] rfl)
  unfold f_X7_rankAll at h
  refine lv_iconst (v := 1) hx hb dX7_rankAll_0 (by decide) ?_
  refine lv_aload_n hx hb dX7_rankAll_1 rfl (lv_at hl 0 rfl) ?_
  refine fgX7_1 hx hb hts hown hK hw 0 rfl kw387 dX7_rankAll_2 ?_
  refine fgX2_7 hx hb hts hown hK hw 1 rfl kw316 dX7_rankAll_5 ?_
  refine lv_ishl hx hb dX7_rankAll_8 ?_
  refine lv_iconst (v := 1) hx hb dX7_rankAll_9 (by decide) ?_
  refine lv_isub hx hb dX7_rankAll_10 ?_
  obtain ⟨x1, ex1, h⟩ := z_lt h
  refine lv_fi (v := x1) ex1.symm ?_
  refine lv_istore_n (lv' := [(1, .int x1), (0, .ref h_me)]) hx hb dX7_rankAll_11 rfl hl (by decide) rfl (fun ls hl => ?_)
  refine lv_aload_n hx hb dX7_rankAll_12 rfl (lv_at hl 1 rfl) ?_
  refine fgX7_4 hx hb hts hown hK hw 0 rfl kw391 dX7_rankAll_13 ?_
  refine lv_iload_n hx hb dX7_rankAll_16 rfl (lv_at hl 0 rfl) ?_
  refine lv_iconst (v := 0) hx hb dX7_rankAll_17 (by decide) ?_
  obtain ⟨g2, h⟩ := z_gd h
  refine fbX7_4 hx hb hK hw 0 rfl rfl g2 dX7_rankAll_18 (fun H locs hw => ?_)
  obtain ⟨o3, eo3, h⟩ := z_lt h
  have hw : Wd dC dI A s.heap [wX7 h_me h_me_court h_me_court_isles q_me k_me o3, wX2 h_me_court_isles h_me_court_isles_now q_me_court_isles k_me_court_isles o_me_court_isles] H locs := by rw [eo3]; exact hw
  refine lv_iload_n hx hb dX7_rankAll_19 rfl (lv_at hl 0 rfl) ?_
  refine lv_iconst (v := 1) hx hb dX7_rankAll_20 (by decide) ?_
  refine lv_isub hx hb dX7_rankAll_21 ?_
  obtain ⟨x4, ex4, h⟩ := z_lt h
  refine lv_fi (v := x4) ex4.symm ?_
  refine lv_istore_n (lv' := [(2, .int x4), (1, .int x1), (0, .ref h_me)]) hx hb dX7_rankAll_22 rfl hl (by decide) rfl (fun ls hl => ?_)
  exact lp_23_0  zfu x4 o3 _ _ _ h hw (lv_sub hl [2, 0] rfl)

def f_X8_ranking (o_me : Ob) (o_me_isles : Ob) (o_me_study : Ob) (p0 : Int32) : Option (Int32 × Ob) :=
  if p0 < (0 : Int32) then
  (some ((-1 : Int32), o_me_study))
  else
  (if p0 ≤ (gI o_me_isles 7) then
  ((f_X7_rankAll o_me_study o_me_isles).bind fun z1 =>
  if p0 = (0 : Int32) then
  (some (z1.1, z1.2))
  else
  (zgd (zin (p0 - (1 : Int32)) 7) <|
  some (gA z1.2 2 (p0 - (1 : Int32)).toNatClampNeg, z1.2)))
  else
  (some ((-1 : Int32), o_me_study)))
set_option maxHeartbeats 4000000 in
set_option maxRecDepth 100000 in
theorem m_X8_ranking (l : Launch) (dC : Nat → ClassId) (dI : Nat → Nat → Nat) (sz : Nat) (h_me : Nat) (h_me_reader : Nat) (h_me_machine : Nat) (h_me_isles : Nat) (h_me_court : Nat) (h_me_study : Nat) (h_me_paper : Nat) (h_me_paperCourt : Nat) (h_me_past : Nat) (h_me_pastAhead : Nat) (h_me_movingAhead : Nat) (h_me_isles_now : Nat) (q_me : Nat → Nat) (k_me : Nat → ClassId) (q_me_isles : Nat → Nat) (k_me_isles : Nat → ClassId) (q_me_study : Nat → Nat) (k_me_study : Nat → ClassId) (o_me : Ob) (o_me_isles : Ob) (o_me_study : Ob) (p0 : Int32) (y : Int32 × Ob) (h : f_X8_ranking o_me o_me_isles o_me_study p0 = some y) : CI l yX8_ranking cX8_ranking 3 (some .int) ({ frames := 4, cells := 0, slots := 0, locals := 88 } : Room) dC dI sz [.ref h_me, .int p0] [wX8 h_me h_me_reader h_me_machine h_me_isles h_me_court h_me_study h_me_paper h_me_paperCourt h_me_past h_me_pastAhead h_me_movingAhead q_me k_me o_me, wX2 h_me_isles h_me_isles_now q_me_isles k_me_isles o_me_isles, wX7 h_me_study h_me_court h_me_isles q_me_study k_me_study o_me_study] [tX8 k_me, tX2 k_me_isles, tX7 k_me_study] y.1 [wX8 h_me h_me_reader h_me_machine h_me_isles h_me_court h_me_study h_me_paper h_me_paperCourt h_me_past h_me_pastAhead h_me_movingAhead q_me k_me o_me, wX2 h_me_isles h_me_isles_now q_me_isles k_me_isles o_me_isles, wX7 h_me_study h_me_court h_me_isles q_me_study k_me_study y.2] := by
  refine CC_of (by decide) (Nat.le_of_ble_eq_true rfl) ?_
  intro p e s m below meth c A ls hx hb hml hr hlk hnm hown hts hX hK hP hD hA hl
  have hl : lv_has ls 3 [(0, .ref h_me), (1, .int p0)] := hl
  have hown : s.vm.findClass RX8 = some m.cls := hown
  have hw : Wd dC dI A s.heap [wX8 h_me h_me_reader h_me_machine h_me_isles h_me_court h_me_study h_me_paper h_me_paperCourt h_me_past h_me_pastAhead h_me_movingAhead q_me k_me o_me, wX2 h_me_isles h_me_isles_now q_me_isles k_me_isles o_me_isles, wX7 h_me_study h_me_court h_me_isles q_me_study k_me_study o_me_study] s.heap [] := ⟨hP, hD, va_S.rf⟩
  generalize hQz : (MQ below (QI dC dI (fun r (_ : Unit) => r = y.1) (fun _ => Jn [wX8 h_me h_me_reader h_me_machine h_me_isles h_me_court h_me_study h_me_paper h_me_paperCourt h_me_past h_me_pastAhead h_me_movingAhead q_me k_me o_me, wX2 h_me_isles h_me_isles_now q_me_isles k_me_isles o_me_isles, wX7 h_me_study h_me_court h_me_isles q_me_study k_me_study y.2]) (fun _ => Jt [tX8 k_me, tX2 k_me_isles, tX7 k_me_study]) A) ([.ref h_me, .int p0] : List Value).toArray s 0 0 A) = Qz
  clear hP hD hnm
  unfold f_X8_ranking at h
  refine lv_iload_n hx hb dX8_ranking_0 rfl (lv_at hl 1 rfl) ?_
  refine lv_if_lt (tgt := 15) hx hb dX8_ranking_1 (by decide) (fun c => ?_) (fun c => ?_)
  · have h := z_t h c
    refine lv_iconst (v := (-1)) hx hb dX8_ranking_15 (by decide) ?_
    have hy := Option.some.inj h
    rw [← hQz, ← hy]
    exact xr_i (v := (-1 : Int32)) hx hb hr rfl hlk hK hw dX8_ranking_16
  · have h := z_f h c
    refine lv_iload_n hx hb dX8_ranking_4 rfl (lv_at hl 1 rfl) ?_
    refine lv_aload_n hx hb dX8_ranking_5 rfl (lv_at hl 0 rfl) ?_
    refine fgX8_2 hx hb hts hown hK hw 0 rfl kw444 dX8_ranking_6 ?_
    refine fgX2_7 hx hb hts hown hK hw 1 rfl kw317 dX8_ranking_9 ?_
    refine lv_icmp_le (tgt := 17) hx hb dX8_ranking_12 (by decide) (fun c => ?_) (fun c => ?_)
    · have h := z_t h c
      refine lv_aload_n hx hb dX8_ranking_17 rfl (lv_at hl 0 rfl) ?_
      refine fgX8_4 hx hb hts hown hK hw 0 rfl kw446 dX8_ranking_18 ?_
      obtain ⟨z1, ez1, h⟩ := z_bd h
      refine xj_i (xrV (As := []) (rest := []) ⟨hx, hb, hml, hown, hts⟩ (m_X7_rankAll l dC dI _ h_me_study h_me_court h_me_isles h_me_isles_now q_me_study k_me_study q_me_isles k_me_isles o_me_study o_me_isles z1 ez1) kw1016 kw1013 kw1014 kw1015 kw118 hd_X7_rankAll ⟨rfl, rfl⟩ rfl rfl ⟨rfl, rfl⟩ hX hK hw [2, 1] (by decide) rfl rfl rfl rfl rfl hl.1 rfl rfl dX8_ranking_21) hw hA [2, 1] (by decide) rfl rfl (fun H locs hw => ?_)
      have hw : Wd dC dI A s.heap [wX8 h_me h_me_reader h_me_machine h_me_isles h_me_court h_me_study h_me_paper h_me_paperCourt h_me_past h_me_pastAhead h_me_movingAhead q_me k_me o_me, wX2 h_me_isles h_me_isles_now q_me_isles k_me_isles o_me_isles, wX7 h_me_study h_me_court h_me_isles q_me_study k_me_study z1.2] H locs := hw
      refine lv_istore_n (lv' := [(2, .int z1.1), (0, .ref h_me), (1, .int p0)]) hx hb dX8_ranking_24 rfl hl (by decide) rfl (fun ls hl => ?_)
      refine lv_iload_n hx hb dX8_ranking_25 rfl (lv_at hl 2 rfl) ?_
      refine lv_if_ne (tgt := 33) hx hb dX8_ranking_26 (by decide) (fun c => ?_) (fun c => ?_)
      · have h := z_f h c
        refine lv_aload_n hx hb dX8_ranking_33 rfl (lv_at hl 1 rfl) ?_
        refine fgX8_4 hx hb hts hown hK hw 0 rfl kw446 dX8_ranking_34 ?_
        refine fgX7_2 hx hb hts hown hK hw 2 rfl kw389 dX8_ranking_37 ?_
        refine lv_iload_n hx hb dX8_ranking_40 rfl (lv_at hl 2 rfl) ?_
        refine lv_iconst (v := 1) hx hb dX8_ranking_41 (by decide) ?_
        refine lv_isub hx hb dX8_ranking_42 ?_
        obtain ⟨g2, h⟩ := z_gd h
        refine faX7_2 hx hb hK hw 2 rfl rfl g2 dX8_ranking_43 ?_
        have hy := Option.some.inj h
        rw [← hQz, ← hy]
        exact xr_i (v := gA z1.2 2 (p0 - (1 : Int32)).toNatClampNeg) hx hb hr rfl hlk hK hw dX8_ranking_44
      · have h := z_t h c
        refine lv_iload_n hx hb dX8_ranking_29 rfl (lv_at hl 0 rfl) ?_
        refine lv_goto (tgt := 44) hx hb dX8_ranking_30 (by decide) ?_
        have hy := Option.some.inj h
        rw [← hQz, ← hy]
        exact xr_i (v := z1.1) hx hb hr rfl hlk hK hw dX8_ranking_44
    · have h := z_f h c
      refine lv_iconst (v := (-1)) hx hb dX8_ranking_15 (by decide) ?_
      have hy := Option.some.inj h
      rw [← hQz, ← hy]
      exact xr_i (v := (-1 : Int32)) hx hb hr rfl hlk hK hw dX8_ranking_16

def lb_X8_tellRow_65 (o_me : Ob) (o_me_reader : Ob)  (rec_65_1 : Int32 × Int32 × Int32 × Ob → Option (Int32 × Ob)) (v1 : Int32) (v2 : Int32) (v3 : Int32) (o_me_isles : Ob) : Option (Int32 × Ob) :=
  if (4 : Int32) ≤ v3 then
  (some ((1 : Int32), o_me_isles))
  else
  ((f_X6_byteAt o_me_reader ((v1 + (1 : Int32)) + v3)).bind fun z3 =>
  zgd (zin ((v2 * (4 : Int32)) + v3) 28) <|
  zlt (tA o_me_isles 2 ((v2 * (4 : Int32)) + v3).toNatClampNeg z3) fun o5 =>
  zlt (v3 + (1 : Int32)) fun x6 =>
  rec_65_1 (v1, v2, x6, o5))
def lp_X8_tellRow_65 (o_me : Ob) (o_me_reader : Ob)  : Nat → (Int32 × Int32 × Int32 × Ob) → Option (Int32 × Ob) := zit (fun rec a => lb_X8_tellRow_65 o_me o_me_reader  rec a.1 a.2.1 a.2.2.1 a.2.2.2)
def lb_X8_tellRow_24 (o_me : Ob) (o_me_reader : Ob)  (rec_24_0 : Int32 × Int32 × Int32 × Ob → Option (Int32 × Ob)) (v1 : Int32) (v2 : Int32) (v3 : Int32) (o_me_isles : Ob) : Option (Int32 × Ob) :=
  if (4 : Int32) ≤ v3 then
  (lp_X8_tellRow_65 o_me o_me_reader  zfu (v1, v2, (0 : Int32), o_me_isles))
  else
  ((f_X6_byteAt o_me_reader ((v1 + (1 : Int32)) + v3)).bind fun z7 =>
  if z7 < (0 : Int32) then
  (some ((0 : Int32), o_me_isles))
  else
  (if z7 ≤ (9 : Int32) then
  (zlt (v3 + (1 : Int32)) fun x8 =>
  rec_24_0 (v1, v2, x8, o_me_isles))
  else
  (some ((0 : Int32), o_me_isles))))
def lp_X8_tellRow_24 (o_me : Ob) (o_me_reader : Ob)  : Nat → (Int32 × Int32 × Int32 × Ob) → Option (Int32 × Ob) := zit (fun rec a => lb_X8_tellRow_24 o_me o_me_reader  rec a.1 a.2.1 a.2.2.1 a.2.2.2)
def f_X8_tellRow (o_me : Ob) (o_me_reader : Ob) (o_me_isles : Ob) (p0 : Int32) : Option (Int32 × Ob) :=
  (f_X6_byteAt o_me_reader p0).bind fun z1 =>
  (f_X2_isPerson o_me_isles z1).bind fun z2 =>
  if z2 = (0 : Int32) then
  (some ((0 : Int32), o_me_isles))
  else
  (lp_X8_tellRow_24 o_me o_me_reader  zfu (p0, z1, (0 : Int32), o_me_isles))
set_option maxHeartbeats 4000000 in
set_option maxRecDepth 100000 in
theorem m_X8_tellRow (l : Launch) (dC : Nat → ClassId) (dI : Nat → Nat → Nat) (sz : Nat) (h_me : Nat) (h_me_reader : Nat) (h_me_machine : Nat) (h_me_isles : Nat) (h_me_court : Nat) (h_me_study : Nat) (h_me_paper : Nat) (h_me_paperCourt : Nat) (h_me_past : Nat) (h_me_pastAhead : Nat) (h_me_movingAhead : Nat) (h_me_reader_code : Nat) (h_me_isles_now : Nat) (q_me : Nat → Nat) (k_me : Nat → ClassId) (q_me_reader : Nat → Nat) (k_me_reader : Nat → ClassId) (q_me_isles : Nat → Nat) (k_me_isles : Nat → ClassId) (o_me : Ob) (o_me_reader : Ob) (o_me_isles : Ob) (p0 : Int32) (y : Int32 × Ob) (h : f_X8_tellRow o_me o_me_reader o_me_isles p0 = some y) : CI l yX8_tellRow cX8_tellRow 5 (some .boolean) ({ frames := 1, cells := 0, slots := 0, locals := 21 } : Room) dC dI sz [.ref h_me, .int p0] [wX8 h_me h_me_reader h_me_machine h_me_isles h_me_court h_me_study h_me_paper h_me_paperCourt h_me_past h_me_pastAhead h_me_movingAhead q_me k_me o_me, wX6 h_me_reader h_me_reader_code q_me_reader k_me_reader o_me_reader, wX2 h_me_isles h_me_isles_now q_me_isles k_me_isles o_me_isles] [tX8 k_me, tX6 k_me_reader, tX2 k_me_isles] y.1 [wX8 h_me h_me_reader h_me_machine h_me_isles h_me_court h_me_study h_me_paper h_me_paperCourt h_me_past h_me_pastAhead h_me_movingAhead q_me k_me o_me, wX6 h_me_reader h_me_reader_code q_me_reader k_me_reader o_me_reader, wX2 h_me_isles h_me_isles_now q_me_isles k_me_isles y.2] := by
  refine CC_of (by decide) (Nat.le_of_ble_eq_true rfl) ?_
  intro p e s m below meth c A ls hx hb hml hr hlk hnm hown hts hX hK hP hD hA hl
  have hl : lv_has ls 5 [(0, .ref h_me), (1, .int p0)] := hl
  have hown : s.vm.findClass RX8 = some m.cls := hown
  have hw : Wd dC dI A s.heap [wX8 h_me h_me_reader h_me_machine h_me_isles h_me_court h_me_study h_me_paper h_me_paperCourt h_me_past h_me_pastAhead h_me_movingAhead q_me k_me o_me, wX6 h_me_reader h_me_reader_code q_me_reader k_me_reader o_me_reader, wX2 h_me_isles h_me_isles_now q_me_isles k_me_isles o_me_isles] s.heap [] := ⟨hP, hD, va_S.rf⟩
  generalize hQz : (MQ below (QI dC dI (fun r (_ : Unit) => r = y.1) (fun _ => Jn [wX8 h_me h_me_reader h_me_machine h_me_isles h_me_court h_me_study h_me_paper h_me_paperCourt h_me_past h_me_pastAhead h_me_movingAhead q_me k_me o_me, wX6 h_me_reader h_me_reader_code q_me_reader k_me_reader o_me_reader, wX2 h_me_isles h_me_isles_now q_me_isles k_me_isles y.2]) (fun _ => Jt [tX8 k_me, tX6 k_me_reader, tX2 k_me_isles]) A) ([.ref h_me, .int p0] : List Value).toArray s 0 0 A) = Qz
  clear hP hD hnm
  have lp_65_1 : ∀ (N : Nat), ∀ (v1 : Int32) (v2 : Int32) (v3 : Int32) (o_me_isles : Ob) (H : Heap) (locs : List Loc) (ls : Array Slot), lp_X8_tellRow_65 o_me o_me_reader  N (v1, v2, v3, o_me_isles) = some y → Wd dC dI A s.heap [wX8 h_me h_me_reader h_me_machine h_me_isles h_me_court h_me_study h_me_paper h_me_paperCourt h_me_past h_me_pastAhead h_me_movingAhead q_me k_me o_me, wX6 h_me_reader h_me_reader_code q_me_reader k_me_reader o_me_reader, wX2 h_me_isles h_me_isles_now q_me_isles k_me_isles o_me_isles] H locs → lv_has ls 5 [(0, .ref h_me), (1, .int v1), (2, .int v2), (3, .int v3)] → W p l e ({ frames := 1, cells := 0, slots := 0, locals := 21 } : Room) s m ([.ref h_me, .int p0] : List Value).toArray below meth c H locs 0 0 Qz (F0 m 65 ls []) := by
    intro N
    induction N with
    | zero =>
      intro v1 v2 v3 o_me_isles H locs ls h hw hl
      exact absurd (show (none : Option (Int32 × Ob)) = some y from h) (by simp)
    | succ N ih =>
      intro v1 v2 v3 o_me_isles H locs ls h hw hl
      have h : lb_X8_tellRow_65 o_me o_me_reader  (lp_X8_tellRow_65 o_me o_me_reader  N) v1 v2 v3 o_me_isles = some y := h
      unfold lb_X8_tellRow_65 at h
      refine lv_iload_n hx hb dX8_tellRow_65 rfl (lv_at hl 3 rfl) ?_
      refine lv_iconst (v := 4) hx hb dX8_tellRow_66 (by decide) ?_
      refine lv_icmp_ge (tgt := 101) hx hb dX8_tellRow_67 (by decide) (fun c => ?_) (fun c => ?_)
      · have h := z_t h c
        refine lv_iconst (v := 1) hx hb dX8_tellRow_101 (by decide) ?_
        have hy := Option.some.inj h
        rw [← hQz, ← hy]
        exact xr_i (v := (1 : Int32)) hx hb hr rfl hlk hK hw dX8_tellRow_102
      · have h := z_f h c
        refine lv_aload_n hx hb dX8_tellRow_70 rfl (lv_at hl 0 rfl) ?_
        refine fgX8_2 hx hb hts hown hK hw 0 rfl kw444 dX8_tellRow_71 ?_
        refine fgX2_2 hx hb hts hown hK hw 2 rfl kw305 dX8_tellRow_74 ?_
        refine lv_iload_n hx hb dX8_tellRow_77 rfl (lv_at hl 2 rfl) ?_
        refine lv_iconst (v := 4) hx hb dX8_tellRow_78 (by decide) ?_
        refine lv_imul hx hb dX8_tellRow_79 ?_
        refine lv_iload_n hx hb dX8_tellRow_80 rfl (lv_at hl 3 rfl) ?_
        refine lv_iadd hx hb dX8_tellRow_81 ?_
        refine lv_aload_n hx hb dX8_tellRow_82 rfl (lv_at hl 0 rfl) ?_
        refine fgX8_0 hx hb hts hown hK hw 0 rfl kw442 dX8_tellRow_83 ?_
        refine lv_iload_n hx hb dX8_tellRow_86 rfl (lv_at hl 1 rfl) ?_
        refine lv_iconst (v := 1) hx hb dX8_tellRow_87 (by decide) ?_
        refine lv_iadd hx hb dX8_tellRow_88 ?_
        refine lv_iload_n hx hb dX8_tellRow_89 rfl (lv_at hl 3 rfl) ?_
        refine lv_iadd hx hb dX8_tellRow_90 ?_
        obtain ⟨z3, ez3, h⟩ := z_bd h
        refine xj_i (xrV (As := [.int ((v1 + (1 : Int32)) + v3)]) (rest := [.int ((v2 * (4 : Int32)) + v3), .ref (q_me_isles 2)]) ⟨hx, hb, hml, hown, hts⟩ (m_X6_byteAt l dC dI _ h_me_reader h_me_reader_code q_me_reader k_me_reader o_me_reader ((v1 + (1 : Int32)) + v3) z3 ez3) kw655 kw652 kw653 kw654 kw111 hd_X6_byteAt ⟨rfl, rfl⟩ rfl rfl ⟨rfl, rfl⟩ hX hK hw [1] (by decide) rfl rfl rfl rfl rfl hl.1 rfl rfl dX8_tellRow_91) hw hA [1] (by decide) rfl rfl (fun H locs hw => ?_)
        have hw : Wd dC dI A s.heap [wX8 h_me h_me_reader h_me_machine h_me_isles h_me_court h_me_study h_me_paper h_me_paperCourt h_me_past h_me_pastAhead h_me_movingAhead q_me k_me o_me, wX6 h_me_reader h_me_reader_code q_me_reader k_me_reader o_me_reader, wX2 h_me_isles h_me_isles_now q_me_isles k_me_isles o_me_isles] H locs := hw
        obtain ⟨g4, h⟩ := z_gd h
        refine fbX2_2 hx hb hK hw 2 rfl rfl g4 dX8_tellRow_94 (fun H locs hw => ?_)
        obtain ⟨o5, eo5, h⟩ := z_lt h
        have hw : Wd dC dI A s.heap [wX8 h_me h_me_reader h_me_machine h_me_isles h_me_court h_me_study h_me_paper h_me_paperCourt h_me_past h_me_pastAhead h_me_movingAhead q_me k_me o_me, wX6 h_me_reader h_me_reader_code q_me_reader k_me_reader o_me_reader, wX2 h_me_isles h_me_isles_now q_me_isles k_me_isles o5] H locs := by rw [eo5]; exact hw
        obtain ⟨x6, ex6, h⟩ := z_lt h
        refine lv_iinc (v := x6) (lv' := [(3, .int x6), (0, .ref h_me), (1, .int v1), (2, .int v2)]) hx hb dX8_tellRow_95 hl (k := 3) rfl ((congrArg (v3 + ·) (show Int32.ofInt 1 = (1 : Int32) from by decide)).trans ex6.symm) (by decide) rfl (fun ls hl => ?_)
        refine lv_goto (tgt := 65) hx hb dX8_tellRow_98 (by decide) ?_
        exact ih v1 v2 x6 o5 _ _ _ h hw (lv_sub hl [1, 2, 3, 0] rfl)
  have lp_24_0 : ∀ (N : Nat), ∀ (v1 : Int32) (v2 : Int32) (v3 : Int32) (o_me_isles : Ob) (H : Heap) (locs : List Loc) (ls : Array Slot), lp_X8_tellRow_24 o_me o_me_reader  N (v1, v2, v3, o_me_isles) = some y → Wd dC dI A s.heap [wX8 h_me h_me_reader h_me_machine h_me_isles h_me_court h_me_study h_me_paper h_me_paperCourt h_me_past h_me_pastAhead h_me_movingAhead q_me k_me o_me, wX6 h_me_reader h_me_reader_code q_me_reader k_me_reader o_me_reader, wX2 h_me_isles h_me_isles_now q_me_isles k_me_isles o_me_isles] H locs → lv_has ls 5 [(0, .ref h_me), (1, .int v1), (2, .int v2), (3, .int v3)] → W p l e ({ frames := 1, cells := 0, slots := 0, locals := 21 } : Room) s m ([.ref h_me, .int p0] : List Value).toArray below meth c H locs 0 0 Qz (F0 m 24 ls []) := by
    intro N
    induction N with
    | zero =>
      intro v1 v2 v3 o_me_isles H locs ls h hw hl
      exact absurd (show (none : Option (Int32 × Ob)) = some y from h) (by simp)
    | succ N ih =>
      intro v1 v2 v3 o_me_isles H locs ls h hw hl
      have h : lb_X8_tellRow_24 o_me o_me_reader  (lp_X8_tellRow_24 o_me o_me_reader  N) v1 v2 v3 o_me_isles = some y := h
      unfold lb_X8_tellRow_24 at h
      refine lv_iload_n hx hb dX8_tellRow_24 rfl (lv_at hl 3 rfl) ?_
      refine lv_iconst (v := 4) hx hb dX8_tellRow_25 (by decide) ?_
      refine lv_icmp_ge (tgt := 63) hx hb dX8_tellRow_26 (by decide) (fun c => ?_) (fun c => ?_)
      · have h := z_t h c
        refine lv_iconst (v := 0) hx hb dX8_tellRow_63 (by decide) ?_
        refine lv_istore_n (lv' := [(3, .int (0 : Int32)), (0, .ref h_me), (1, .int v1), (2, .int v2)]) hx hb dX8_tellRow_64 rfl hl (by decide) rfl (fun ls hl => ?_)
        exact lp_65_1  zfu v1 v2 (0 : Int32) o_me_isles _ _ _ h hw (lv_sub hl [1, 2, 3, 0] rfl)
      · have h := z_f h c
        refine lv_aload_n hx hb dX8_tellRow_29 rfl (lv_at hl 0 rfl) ?_
        refine fgX8_0 hx hb hts hown hK hw 0 rfl kw442 dX8_tellRow_30 ?_
        refine lv_iload_n hx hb dX8_tellRow_33 rfl (lv_at hl 1 rfl) ?_
        refine lv_iconst (v := 1) hx hb dX8_tellRow_34 (by decide) ?_
        refine lv_iadd hx hb dX8_tellRow_35 ?_
        refine lv_iload_n hx hb dX8_tellRow_36 rfl (lv_at hl 3 rfl) ?_
        refine lv_iadd hx hb dX8_tellRow_37 ?_
        obtain ⟨z7, ez7, h⟩ := z_bd h
        refine xj_i (xrV (As := [.int ((v1 + (1 : Int32)) + v3)]) (rest := []) ⟨hx, hb, hml, hown, hts⟩ (m_X6_byteAt l dC dI _ h_me_reader h_me_reader_code q_me_reader k_me_reader o_me_reader ((v1 + (1 : Int32)) + v3) z7 ez7) kw655 kw652 kw653 kw654 kw111 hd_X6_byteAt ⟨rfl, rfl⟩ rfl rfl ⟨rfl, rfl⟩ hX hK hw [1] (by decide) rfl rfl rfl rfl rfl hl.1 rfl rfl dX8_tellRow_38) hw hA [1] (by decide) rfl rfl (fun H locs hw => ?_)
        have hw : Wd dC dI A s.heap [wX8 h_me h_me_reader h_me_machine h_me_isles h_me_court h_me_study h_me_paper h_me_paperCourt h_me_past h_me_pastAhead h_me_movingAhead q_me k_me o_me, wX6 h_me_reader h_me_reader_code q_me_reader k_me_reader o_me_reader, wX2 h_me_isles h_me_isles_now q_me_isles k_me_isles o_me_isles] H locs := hw
        refine lv_istore (lv' := [(4, .int z7), (0, .ref h_me), (1, .int v1), (2, .int v2), (3, .int v3)]) hx hb dX8_tellRow_41 hl (by decide) rfl (fun ls hl => ?_)
        refine lv_iload hx hb dX8_tellRow_43 (lv_at hl 0 rfl) ?_
        refine lv_if_lt (tgt := 55) hx hb dX8_tellRow_45 (by decide) (fun c => ?_) (fun c => ?_)
        · have h := z_t h c
          refine lv_iconst (v := 0) hx hb dX8_tellRow_55 (by decide) ?_
          have hy := Option.some.inj h
          rw [← hQz, ← hy]
          exact xr_i (v := (0 : Int32)) hx hb hr rfl hlk hK hw dX8_tellRow_56
        · have h := z_f h c
          refine lv_iload hx hb dX8_tellRow_48 (lv_at hl 0 rfl) ?_
          refine lv_bipush (v := 9) hx hb dX8_tellRow_50 (by decide) ?_
          refine lv_icmp_le (tgt := 57) hx hb dX8_tellRow_52 (by decide) (fun c => ?_) (fun c => ?_)
          · have h := z_t h c
            obtain ⟨x8, ex8, h⟩ := z_lt h
            refine lv_iinc (v := x8) (lv' := [(3, .int x8), (4, .int z7), (0, .ref h_me), (1, .int v1), (2, .int v2)]) hx hb dX8_tellRow_57 hl (k := 4) rfl ((congrArg (v3 + ·) (show Int32.ofInt 1 = (1 : Int32) from by decide)).trans ex8.symm) (by decide) rfl (fun ls hl => ?_)
            refine lv_goto (tgt := 24) hx hb dX8_tellRow_60 (by decide) ?_
            exact ih v1 v2 x8 o_me_isles _ _ _ h hw (lv_sub hl [2, 3, 4, 0] rfl)
          · have h := z_f h c
            refine lv_iconst (v := 0) hx hb dX8_tellRow_55 (by decide) ?_
            have hy := Option.some.inj h
            rw [← hQz, ← hy]
            exact xr_i (v := (0 : Int32)) hx hb hr rfl hlk hK hw dX8_tellRow_56
  unfold f_X8_tellRow at h
  refine lv_aload_n hx hb dX8_tellRow_0 rfl (lv_at hl 0 rfl) ?_
  refine fgX8_0 hx hb hts hown hK hw 0 rfl kw442 dX8_tellRow_1 ?_
  refine lv_iload_n hx hb dX8_tellRow_4 rfl (lv_at hl 1 rfl) ?_
  obtain ⟨z1, ez1, h⟩ := z_bd h
  refine xj_i (xrV (As := [.int p0]) (rest := []) ⟨hx, hb, hml, hown, hts⟩ (m_X6_byteAt l dC dI _ h_me_reader h_me_reader_code q_me_reader k_me_reader o_me_reader p0 z1 ez1) kw655 kw652 kw653 kw654 kw111 hd_X6_byteAt ⟨rfl, rfl⟩ rfl rfl ⟨rfl, rfl⟩ hX hK hw [1] (by decide) rfl rfl rfl rfl rfl hl.1 rfl rfl dX8_tellRow_5) hw hA [1] (by decide) rfl rfl (fun H locs hw => ?_)
  have hw : Wd dC dI A s.heap [wX8 h_me h_me_reader h_me_machine h_me_isles h_me_court h_me_study h_me_paper h_me_paperCourt h_me_past h_me_pastAhead h_me_movingAhead q_me k_me o_me, wX6 h_me_reader h_me_reader_code q_me_reader k_me_reader o_me_reader, wX2 h_me_isles h_me_isles_now q_me_isles k_me_isles o_me_isles] H locs := hw
  refine lv_istore_n (lv' := [(2, .int z1), (0, .ref h_me), (1, .int p0)]) hx hb dX8_tellRow_8 rfl hl (by decide) rfl (fun ls hl => ?_)
  refine lv_aload_n hx hb dX8_tellRow_9 rfl (lv_at hl 1 rfl) ?_
  refine fgX8_2 hx hb hts hown hK hw 0 rfl kw444 dX8_tellRow_10 ?_
  refine lv_iload_n hx hb dX8_tellRow_13 rfl (lv_at hl 0 rfl) ?_
  obtain ⟨z2, ez2, h⟩ := z_bd h
  refine xj_i (xrV (As := [.int z1]) (rest := []) ⟨hx, hb, hml, hown, hts⟩ (m_X2_isPerson l dC dI _ h_me_isles h_me_isles_now q_me_isles k_me_isles o_me_isles z1 z2 ez2) kw504 kw501 kw502 kw503 kw115 hd_X2_isPerson ⟨rfl, rfl⟩ rfl rfl ⟨rfl, rfl⟩ hX hK hw [2] (by decide) rfl rfl rfl rfl rfl hl.1 rfl rfl dX8_tellRow_14) hw hA [2] (by decide) rfl rfl (fun H locs hw => ?_)
  have hw : Wd dC dI A s.heap [wX8 h_me h_me_reader h_me_machine h_me_isles h_me_court h_me_study h_me_paper h_me_paperCourt h_me_past h_me_pastAhead h_me_movingAhead q_me k_me o_me, wX6 h_me_reader h_me_reader_code q_me_reader k_me_reader o_me_reader, wX2 h_me_isles h_me_isles_now q_me_isles k_me_isles o_me_isles] H locs := hw
  refine lv_if_ne (tgt := 22) hx hb dX8_tellRow_17 (by decide) (fun c => ?_) (fun c => ?_)
  · have h := z_f h c
    refine lv_iconst (v := 0) hx hb dX8_tellRow_22 (by decide) ?_
    refine lv_istore_n (lv' := [(3, .int (0 : Int32)), (2, .int z1), (0, .ref h_me), (1, .int p0)]) hx hb dX8_tellRow_23 rfl hl (by decide) rfl (fun ls hl => ?_)
    exact lp_24_0  zfu p0 z1 (0 : Int32) o_me_isles _ _ _ h hw (lv_sub hl [2, 3, 1, 0] rfl)
  · have h := z_t h c
    refine lv_iconst (v := 0) hx hb dX8_tellRow_20 (by decide) ?_
    have hy := Option.some.inj h
    rw [← hQz, ← hy]
    exact xr_i (v := (0 : Int32)) hx hb hr rfl hlk hK hw dX8_tellRow_21

def bk_X8_row_61  (rec_26_0 : Int32 × Int32 × Ob × Ob × Ob → Option (Int32 × Ob × Ob × Ob)) (v1 : Int32) (v2 : Int32) (o_me : Ob) (o_me_reader : Ob) (o_me_isles : Ob) : Option (Int32 × Ob × Ob × Ob) :=
  zlt (v2 + (5 : Int32)) fun x6 =>
  rec_26_0 (v1, x6, o_me, o_me_reader, o_me_isles)
def lb_X8_row_26   (rec_26_0 : Int32 × Int32 × Ob × Ob × Ob → Option (Int32 × Ob × Ob × Ob)) (v1 : Int32) (v2 : Int32) (o_me : Ob) (o_me_reader : Ob) (o_me_isles : Ob) : Option (Int32 × Ob × Ob × Ob) :=
  if (gI o_me_reader 2) ≤ v2 then
  (zlt (sI o_me_reader 2 (0 : Int32)) fun o2 =>
  (f_X8_grant o_me v1).bind fun z3 =>
  some (z3.1, z3.2, o2, o_me_isles))
  else
  ((f_X8_tellRow o_me o_me_reader o_me_isles v2).bind fun z4 =>
  if z4.1 = (0 : Int32) then
  (zlt (sI o_me 13 ((gI o_me 13) + (1 : Int32))) fun o5 =>
  bk_X8_row_61  rec_26_0 v1 v2 o5 o_me_reader z4.2)
  else
  (zlt (v1 + (1 : Int32)) fun x7 =>
  bk_X8_row_61  rec_26_0 x7 v2 o_me o_me_reader z4.2))
def lp_X8_row_26   : Nat → (Int32 × Int32 × Ob × Ob × Ob) → Option (Int32 × Ob × Ob × Ob) := zit (fun rec a => lb_X8_row_26   rec a.1 a.2.1 a.2.2.1 a.2.2.2.1 a.2.2.2.2)
def f_X8_row (o_me : Ob) (o_me_reader : Ob) (o_me_isles : Ob) : Option (Int32 × Ob × Ob × Ob) :=
  if (gI o_me_reader 2) = (0 : Int32) then
  ((f_X8_refuse o_me (-6 : Int32)).bind fun z8 =>
  some (z8.1, z8.2, o_me_reader, o_me_isles))
  else
  (zlt (sI o_me 13 (0 : Int32)) fun o1 =>
  lp_X8_row_26   zfu ((0 : Int32), (0 : Int32), o1, o_me_reader, o_me_isles))
set_option maxHeartbeats 4000000 in
set_option maxRecDepth 100000 in
theorem m_X8_row (l : Launch) (dC : Nat → ClassId) (dI : Nat → Nat → Nat) (sz : Nat) (h_me : Nat) (h_me_reader : Nat) (h_me_machine : Nat) (h_me_isles : Nat) (h_me_court : Nat) (h_me_study : Nat) (h_me_paper : Nat) (h_me_paperCourt : Nat) (h_me_past : Nat) (h_me_pastAhead : Nat) (h_me_movingAhead : Nat) (h_me_reader_code : Nat) (h_me_isles_now : Nat) (q_me : Nat → Nat) (k_me : Nat → ClassId) (q_me_reader : Nat → Nat) (k_me_reader : Nat → ClassId) (q_me_isles : Nat → Nat) (k_me_isles : Nat → ClassId) (o_me : Ob) (o_me_reader : Ob) (o_me_isles : Ob) (y : Int32 × Ob × Ob × Ob) (h : f_X8_row o_me o_me_reader o_me_isles = some y) : CI l yX8_row cX8_row 3 (some .int) ({ frames := 2, cells := 0, slots := 0, locals := 45 } : Room) dC dI sz [.ref h_me] [wX8 h_me h_me_reader h_me_machine h_me_isles h_me_court h_me_study h_me_paper h_me_paperCourt h_me_past h_me_pastAhead h_me_movingAhead q_me k_me o_me, wX6 h_me_reader h_me_reader_code q_me_reader k_me_reader o_me_reader, wX2 h_me_isles h_me_isles_now q_me_isles k_me_isles o_me_isles] [tX8 k_me, tX6 k_me_reader, tX2 k_me_isles] y.1 [wX8 h_me h_me_reader h_me_machine h_me_isles h_me_court h_me_study h_me_paper h_me_paperCourt h_me_past h_me_pastAhead h_me_movingAhead q_me k_me y.2.1, wX6 h_me_reader h_me_reader_code q_me_reader k_me_reader y.2.2.1, wX2 h_me_isles h_me_isles_now q_me_isles k_me_isles y.2.2.2] := by
  refine CC_of (by decide) (Nat.le_of_ble_eq_true rfl) ?_
  intro p e s m below meth c A ls hx hb hml hr hlk hnm hown hts hX hK hP hD hA hl
  have hl : lv_has ls 3 [(0, .ref h_me)] := hl
  have hown : s.vm.findClass RX8 = some m.cls := hown
  have hw : Wd dC dI A s.heap [wX8 h_me h_me_reader h_me_machine h_me_isles h_me_court h_me_study h_me_paper h_me_paperCourt h_me_past h_me_pastAhead h_me_movingAhead q_me k_me o_me, wX6 h_me_reader h_me_reader_code q_me_reader k_me_reader o_me_reader, wX2 h_me_isles h_me_isles_now q_me_isles k_me_isles o_me_isles] s.heap [] := ⟨hP, hD, va_S.rf⟩
  generalize hQz : (MQ below (QI dC dI (fun r (_ : Unit) => r = y.1) (fun _ => Jn [wX8 h_me h_me_reader h_me_machine h_me_isles h_me_court h_me_study h_me_paper h_me_paperCourt h_me_past h_me_pastAhead h_me_movingAhead q_me k_me y.2.1, wX6 h_me_reader h_me_reader_code q_me_reader k_me_reader y.2.2.1, wX2 h_me_isles h_me_isles_now q_me_isles k_me_isles y.2.2.2]) (fun _ => Jt [tX8 k_me, tX6 k_me_reader, tX2 k_me_isles]) A) ([.ref h_me] : List Value).toArray s 0 0 A) = Qz
  clear hP hD hnm
  have bk_61_1 : ∀ (rec_26_0 : Int32 × Int32 × Ob × Ob × Ob → Option (Int32 × Ob × Ob × Ob)) (hrec_26_0 : ∀ (v1 : Int32) (v2 : Int32) (o_me : Ob) (o_me_reader : Ob) (o_me_isles : Ob) (H : Heap) (locs : List Loc) (ls : Array Slot), rec_26_0 (v1, v2, o_me, o_me_reader, o_me_isles) = some y → Wd dC dI A s.heap [wX8 h_me h_me_reader h_me_machine h_me_isles h_me_court h_me_study h_me_paper h_me_paperCourt h_me_past h_me_pastAhead h_me_movingAhead q_me k_me o_me, wX6 h_me_reader h_me_reader_code q_me_reader k_me_reader o_me_reader, wX2 h_me_isles h_me_isles_now q_me_isles k_me_isles o_me_isles] H locs → lv_has ls 3 [(0, .ref h_me), (1, .int v1), (2, .int v2)] → W p l e ({ frames := 2, cells := 0, slots := 0, locals := 45 } : Room) s m ([.ref h_me] : List Value).toArray below meth c H locs 0 0 Qz (F0 m 26 ls [])), ∀ (v1 : Int32) (v2 : Int32) (o_me : Ob) (o_me_reader : Ob) (o_me_isles : Ob) (H : Heap) (locs : List Loc) (ls : Array Slot), bk_X8_row_61  rec_26_0 v1 v2 o_me o_me_reader o_me_isles = some y → Wd dC dI A s.heap [wX8 h_me h_me_reader h_me_machine h_me_isles h_me_court h_me_study h_me_paper h_me_paperCourt h_me_past h_me_pastAhead h_me_movingAhead q_me k_me o_me, wX6 h_me_reader h_me_reader_code q_me_reader k_me_reader o_me_reader, wX2 h_me_isles h_me_isles_now q_me_isles k_me_isles o_me_isles] H locs → lv_has ls 3 [(0, .ref h_me), (1, .int v1), (2, .int v2)] → W p l e ({ frames := 2, cells := 0, slots := 0, locals := 45 } : Room) s m ([.ref h_me] : List Value).toArray below meth c H locs 0 0 Qz (F0 m 61 ls []) := by
    intro rec_26_0 hrec_26_0
    intro v1 v2 o_me o_me_reader o_me_isles H locs ls h hw hl
    unfold bk_X8_row_61 at h
    obtain ⟨x6, ex6, h⟩ := z_lt h
    refine lv_iinc (v := x6) (lv' := [(2, .int x6), (0, .ref h_me), (1, .int v1)]) hx hb dX8_row_61 hl (k := 2) rfl ((congrArg (v2 + ·) (show Int32.ofInt 5 = (5 : Int32) from by decide)).trans ex6.symm) (by decide) rfl (fun ls hl => ?_)
    refine lv_goto (tgt := 26) hx hb dX8_row_64 (by decide) ?_
    exact hrec_26_0 v1 x6 o_me o_me_reader o_me_isles _ _ _ h hw (lv_sub hl [1, 2, 0] rfl)
  have lp_26_0 : ∀ (N : Nat), ∀ (v1 : Int32) (v2 : Int32) (o_me : Ob) (o_me_reader : Ob) (o_me_isles : Ob) (H : Heap) (locs : List Loc) (ls : Array Slot), lp_X8_row_26   N (v1, v2, o_me, o_me_reader, o_me_isles) = some y → Wd dC dI A s.heap [wX8 h_me h_me_reader h_me_machine h_me_isles h_me_court h_me_study h_me_paper h_me_paperCourt h_me_past h_me_pastAhead h_me_movingAhead q_me k_me o_me, wX6 h_me_reader h_me_reader_code q_me_reader k_me_reader o_me_reader, wX2 h_me_isles h_me_isles_now q_me_isles k_me_isles o_me_isles] H locs → lv_has ls 3 [(0, .ref h_me), (1, .int v1), (2, .int v2)] → W p l e ({ frames := 2, cells := 0, slots := 0, locals := 45 } : Room) s m ([.ref h_me] : List Value).toArray below meth c H locs 0 0 Qz (F0 m 26 ls []) := by
    intro N
    induction N with
    | zero =>
      intro v1 v2 o_me o_me_reader o_me_isles H locs ls h hw hl
      exact absurd (show (none : Option (Int32 × Ob × Ob × Ob)) = some y from h) (by simp)
    | succ N ih =>
      intro v1 v2 o_me o_me_reader o_me_isles H locs ls h hw hl
      have h : lb_X8_row_26   (lp_X8_row_26   N) v1 v2 o_me o_me_reader o_me_isles = some y := h
      unfold lb_X8_row_26 at h
      refine lv_iload_n hx hb dX8_row_26 rfl (lv_at hl 2 rfl) ?_
      refine lv_aload_n hx hb dX8_row_27 rfl (lv_at hl 0 rfl) ?_
      refine fgX8_0 hx hb hts hown hK hw 0 rfl kw442 dX8_row_28 ?_
      refine fgX6_2 hx hb hts hown hK hw 1 rfl kw205 dX8_row_31 ?_
      refine lv_icmp_ge (tgt := 67) hx hb dX8_row_34 (by decide) (fun c => ?_) (fun c => ?_)
      · have h := z_t h c
        refine lv_aload_n hx hb dX8_row_67 rfl (lv_at hl 0 rfl) ?_
        refine fgX8_0 hx hb hts hown hK hw 0 rfl kw442 dX8_row_68 ?_
        refine lv_iconst (v := 0) hx hb dX8_row_71 (by decide) ?_
        refine fpX6_2 hx hb hts hown hK hw 1 rfl kw205 dX8_row_72 (fun H locs hw => ?_)
        obtain ⟨o2, eo2, h⟩ := z_lt h
        have hw : Wd dC dI A s.heap [wX8 h_me h_me_reader h_me_machine h_me_isles h_me_court h_me_study h_me_paper h_me_paperCourt h_me_past h_me_pastAhead h_me_movingAhead q_me k_me o_me, wX6 h_me_reader h_me_reader_code q_me_reader k_me_reader o2, wX2 h_me_isles h_me_isles_now q_me_isles k_me_isles o_me_isles] H locs := by rw [eo2]; exact hw
        refine lv_aload_n hx hb dX8_row_75 rfl (lv_at hl 0 rfl) ?_
        refine lv_iload_n hx hb dX8_row_76 rfl (lv_at hl 1 rfl) ?_
        obtain ⟨z3, ez3, h⟩ := z_bd h
        refine xj_i (xrV (As := [.int v1]) (rest := []) ⟨hx, hb, hml, hown, hts⟩ (m_X8_grant l dC dI _ h_me h_me_reader h_me_machine h_me_isles h_me_court h_me_study h_me_paper h_me_paperCourt h_me_past h_me_pastAhead h_me_movingAhead q_me k_me o_me v1 z3 ez3) kw520 kw517 kw519 kw1 kw110 hd_X8_grant ⟨rfl, rfl⟩ rfl rfl ⟨rfl, rfl⟩ hX hK hw [0] (by decide) rfl rfl rfl rfl rfl hl.1 rfl rfl dX8_row_77) hw hA [0] (by decide) rfl rfl (fun H locs hw => ?_)
        have hw : Wd dC dI A s.heap [wX8 h_me h_me_reader h_me_machine h_me_isles h_me_court h_me_study h_me_paper h_me_paperCourt h_me_past h_me_pastAhead h_me_movingAhead q_me k_me z3.2, wX6 h_me_reader h_me_reader_code q_me_reader k_me_reader o2, wX2 h_me_isles h_me_isles_now q_me_isles k_me_isles o_me_isles] H locs := hw
        have hy := Option.some.inj h
        rw [← hQz, ← hy]
        exact xr_i (v := z3.1) hx hb hr rfl hlk hK hw dX8_row_80
      · have h := z_f h c
        refine lv_aload_n hx hb dX8_row_37 rfl (lv_at hl 0 rfl) ?_
        refine lv_iload_n hx hb dX8_row_38 rfl (lv_at hl 2 rfl) ?_
        obtain ⟨z4, ez4, h⟩ := z_bd h
        refine xj_i (xrV (As := [.int v2]) (rest := []) ⟨hx, hb, hml, hown, hts⟩ (m_X8_tellRow l dC dI _ h_me h_me_reader h_me_machine h_me_isles h_me_court h_me_study h_me_paper h_me_paperCourt h_me_past h_me_pastAhead h_me_movingAhead h_me_reader_code h_me_isles_now q_me k_me q_me_reader k_me_reader q_me_isles k_me_isles o_me o_me_reader o_me_isles v2 z4 ez4) kw651 kw648 kw650 kw4 kw110 hd_X8_tellRow ⟨rfl, rfl⟩ rfl rfl ⟨rfl, rfl⟩ hX hK hw [0, 1, 2] (by decide) rfl rfl rfl rfl rfl hl.1 rfl rfl dX8_row_39) hw hA [0, 1, 2] (by decide) rfl rfl (fun H locs hw => ?_)
        have hw : Wd dC dI A s.heap [wX8 h_me h_me_reader h_me_machine h_me_isles h_me_court h_me_study h_me_paper h_me_paperCourt h_me_past h_me_pastAhead h_me_movingAhead q_me k_me o_me, wX6 h_me_reader h_me_reader_code q_me_reader k_me_reader o_me_reader, wX2 h_me_isles h_me_isles_now q_me_isles k_me_isles z4.2] H locs := hw
        refine lv_if_eq (tgt := 51) hx hb dX8_row_42 (by decide) (fun c => ?_) (fun c => ?_)
        · have h := z_t h c
          refine lv_aload_n hx hb dX8_row_51 rfl (lv_at hl 0 rfl) ?_
          refine lv_dup hx hb dX8_row_52 rfl ?_
          refine fgX8_13 hx hb hts hown hK hw 0 rfl kw455 dX8_row_53 ?_
          refine lv_iconst (v := 1) hx hb dX8_row_56 (by decide) ?_
          refine lv_iadd hx hb dX8_row_57 ?_
          refine fpX8_13 hx hb hts hown hK hw 0 rfl kw455 dX8_row_58 (fun H locs hw => ?_)
          obtain ⟨o5, eo5, h⟩ := z_lt h
          have hw : Wd dC dI A s.heap [wX8 h_me h_me_reader h_me_machine h_me_isles h_me_court h_me_study h_me_paper h_me_paperCourt h_me_past h_me_pastAhead h_me_movingAhead q_me k_me o5, wX6 h_me_reader h_me_reader_code q_me_reader k_me_reader o_me_reader, wX2 h_me_isles h_me_isles_now q_me_isles k_me_isles z4.2] H locs := by rw [eo5]; exact hw
          exact bk_61_1 (lp_X8_row_26   N) ih v1 v2 o5 o_me_reader z4.2 _ _ _ h hw (lv_sub hl [0, 1, 2] rfl)
        · have h := z_f h c
          obtain ⟨x7, ex7, h⟩ := z_lt h
          refine lv_iinc (v := x7) (lv' := [(1, .int x7), (0, .ref h_me), (2, .int v2)]) hx hb dX8_row_45 hl (k := 1) rfl ((congrArg (v1 + ·) (show Int32.ofInt 1 = (1 : Int32) from by decide)).trans ex7.symm) (by decide) rfl (fun ls hl => ?_)
          refine lv_goto (tgt := 61) hx hb dX8_row_48 (by decide) ?_
          exact bk_61_1 (lp_X8_row_26   N) ih x7 v2 o_me o_me_reader z4.2 _ _ _ h hw (lv_sub hl [1, 0, 2] rfl)
  unfold f_X8_row at h
  refine lv_aload_n hx hb dX8_row_0 rfl (lv_at hl 0 rfl) ?_
  refine fgX8_0 hx hb hts hown hK hw 0 rfl kw442 dX8_row_1 ?_
  refine fgX6_2 hx hb hts hown hK hw 1 rfl kw205 dX8_row_4 ?_
  refine lv_if_ne (tgt := 17) hx hb dX8_row_7 (by decide) (fun c => ?_) (fun c => ?_)
  · have h := z_f h c
    refine lv_iconst (v := 0) hx hb dX8_row_17 (by decide) ?_
    refine lv_istore_n (lv' := [(1, .int (0 : Int32)), (0, .ref h_me)]) hx hb dX8_row_18 rfl hl (by decide) rfl (fun ls hl => ?_)
    refine lv_aload_n hx hb dX8_row_19 rfl (lv_at hl 1 rfl) ?_
    refine lv_iconst (v := 0) hx hb dX8_row_20 (by decide) ?_
    refine fpX8_13 hx hb hts hown hK hw 0 rfl kw455 dX8_row_21 (fun H locs hw => ?_)
    obtain ⟨o1, eo1, h⟩ := z_lt h
    have hw : Wd dC dI A s.heap [wX8 h_me h_me_reader h_me_machine h_me_isles h_me_court h_me_study h_me_paper h_me_paperCourt h_me_past h_me_pastAhead h_me_movingAhead q_me k_me o1, wX6 h_me_reader h_me_reader_code q_me_reader k_me_reader o_me_reader, wX2 h_me_isles h_me_isles_now q_me_isles k_me_isles o_me_isles] H locs := by rw [eo1]; exact hw
    refine lv_iconst (v := 0) hx hb dX8_row_24 (by decide) ?_
    refine lv_istore_n (lv' := [(2, .int (0 : Int32)), (1, .int (0 : Int32)), (0, .ref h_me)]) hx hb dX8_row_25 rfl hl (by decide) rfl (fun ls hl => ?_)
    exact lp_26_0  zfu (0 : Int32) (0 : Int32) o1 o_me_reader o_me_isles _ _ _ h hw (lv_sub hl [2, 1, 0] rfl)
  · have h := z_t h c
    refine lv_aload_n hx hb dX8_row_10 rfl (lv_at hl 0 rfl) ?_
    refine lv_bipush (v := (-6)) hx hb dX8_row_11 (by decide) ?_
    obtain ⟨z8, ez8, h⟩ := z_bd h
    refine xj_i (xrV (As := [.int (-6 : Int32)]) (rest := []) ⟨hx, hb, hml, hown, hts⟩ (m_X8_refuse l dC dI _ h_me h_me_reader h_me_machine h_me_isles h_me_court h_me_study h_me_paper h_me_paperCourt h_me_past h_me_pastAhead h_me_movingAhead q_me k_me o_me (-6 : Int32) z8 ez8) kw508 kw505 kw507 kw0 kw110 hd_X8_refuse ⟨rfl, rfl⟩ rfl rfl ⟨rfl, rfl⟩ hX hK hw [0] (by decide) rfl rfl rfl rfl rfl hl.1 rfl rfl dX8_row_13) hw hA [0] (by decide) rfl rfl (fun H locs hw => ?_)
    have hw : Wd dC dI A s.heap [wX8 h_me h_me_reader h_me_machine h_me_isles h_me_court h_me_study h_me_paper h_me_paperCourt h_me_past h_me_pastAhead h_me_movingAhead q_me k_me z8.2, wX6 h_me_reader h_me_reader_code q_me_reader k_me_reader o_me_reader, wX2 h_me_isles h_me_isles_now q_me_isles k_me_isles o_me_isles] H locs := hw
    have hy := Option.some.inj h
    rw [← hQz, ← hy]
    exact xr_i (v := z8.1) hx hb hr rfl hlk hK hw dX8_row_16

def bk_X2_addSeen_39   (o_me : Ob) : Option (Int32 × Ob) :=
  some (gI o_me 8, o_me)
def f_X2_addSeen (o_me : Ob) (p0 : Int32) (p1 : Int32) : Option (Int32 × Ob) :=
  if (6 : Int32) ≤ (gI o_me 8) then
  (bk_X2_addSeen_39   o_me)
  else
  (zgd (zin (gI o_me 8) 6) <|
  zlt (tA o_me 4 (gI o_me 8).toNatClampNeg p0) fun o2 =>
  zgd (zin (gI o2 8) 6) <|
  zlt (tA o2 5 (gI o2 8).toNatClampNeg p1) fun o4 =>
  zlt (sI o4 8 ((gI o4 8) + (1 : Int32))) fun o5 =>
  bk_X2_addSeen_39   o5)
set_option maxHeartbeats 4000000 in
set_option maxRecDepth 100000 in
theorem m_X2_addSeen (l : Launch) (dC : Nat → ClassId) (dI : Nat → Nat → Nat) (sz : Nat) (h_me : Nat) (h_me_now : Nat) (q_me : Nat → Nat) (k_me : Nat → ClassId) (o_me : Ob) (p0 : Int32) (p1 : Int32) (y : Int32 × Ob) (h : f_X2_addSeen o_me p0 p1 = some y) : CI l yX2_addSeen cX2_addSeen 3 (some .int) ({ frames := 0, cells := 0, slots := 0, locals := 0 } : Room) dC dI sz [.ref h_me, .int p0, .int p1] [wX2 h_me h_me_now q_me k_me o_me] [tX2 k_me] y.1 [wX2 h_me h_me_now q_me k_me y.2] := by
  refine CC_of (by decide) (Nat.le_of_ble_eq_true rfl) ?_
  intro p e s m below meth c A ls hx hb hml hr hlk hnm hown hts hX hK hP hD hA hl
  have hl : lv_has ls 3 [(0, .ref h_me), (1, .int p0), (2, .int p1)] := hl
  have hown : s.vm.findClass RX2 = some m.cls := hown
  have hw : Wd dC dI A s.heap [wX2 h_me h_me_now q_me k_me o_me] s.heap [] := ⟨hP, hD, va_S.rf⟩
  generalize hQz : (MQ below (QI dC dI (fun r (_ : Unit) => r = y.1) (fun _ => Jn [wX2 h_me h_me_now q_me k_me y.2]) (fun _ => Jt [tX2 k_me]) A) ([.ref h_me, .int p0, .int p1] : List Value).toArray s 0 0 A) = Qz
  clear hP hD hnm
  have bk_39_0 : ∀ (o_me : Ob) (H : Heap) (locs : List Loc) (ls : Array Slot), bk_X2_addSeen_39   o_me = some y → Wd dC dI A s.heap [wX2 h_me h_me_now q_me k_me o_me] H locs → lv_has ls 3 [(0, .ref h_me)] → W p l e ({ frames := 0, cells := 0, slots := 0, locals := 0 } : Room) s m ([.ref h_me, .int p0, .int p1] : List Value).toArray below meth c H locs 0 0 Qz (F0 m 39 ls []) := by
    intro o_me H locs ls h hw hl
    unfold bk_X2_addSeen_39 at h
    refine lv_aload_n hx hb dX2_addSeen_39 rfl (lv_at hl 0 rfl) ?_
    refine fgX2_8 hx hb hts hown hK hw 0 rfl kw319 dX2_addSeen_40 ?_
    have hy := Option.some.inj h
    rw [← hQz, ← hy]
    exact xr_i (v := gI o_me 8) hx hb hr rfl hlk hK hw dX2_addSeen_43
  unfold f_X2_addSeen at h
  refine lv_aload_n hx hb dX2_addSeen_0 rfl (lv_at hl 0 rfl) ?_
  refine fgX2_8 hx hb hts hown hK hw 0 rfl kw319 dX2_addSeen_1 ?_
  refine lv_bipush (v := 6) hx hb dX2_addSeen_4 (by decide) ?_
  refine lv_icmp_ge (tgt := 39) hx hb dX2_addSeen_6 (by decide) (fun c => ?_) (fun c => ?_)
  · have h := z_t h c
    exact bk_39_0  o_me _ _ _ h hw (lv_sub hl [0] rfl)
  · have h := z_f h c
    refine lv_aload_n hx hb dX2_addSeen_9 rfl (lv_at hl 0 rfl) ?_
    refine fgX2_4 hx hb hts hown hK hw 0 rfl kw310 dX2_addSeen_10 ?_
    refine lv_aload_n hx hb dX2_addSeen_13 rfl (lv_at hl 0 rfl) ?_
    refine fgX2_8 hx hb hts hown hK hw 0 rfl kw319 dX2_addSeen_14 ?_
    refine lv_iload_n hx hb dX2_addSeen_17 rfl (lv_at hl 1 rfl) ?_
    obtain ⟨g1, h⟩ := z_gd h
    refine fbX2_4 hx hb hK hw 0 rfl rfl g1 dX2_addSeen_18 (fun H locs hw => ?_)
    obtain ⟨o2, eo2, h⟩ := z_lt h
    have hw : Wd dC dI A s.heap [wX2 h_me h_me_now q_me k_me o2] H locs := by rw [eo2]; exact hw
    refine lv_aload_n hx hb dX2_addSeen_19 rfl (lv_at hl 0 rfl) ?_
    refine fgX2_5 hx hb hts hown hK hw 0 rfl kw312 dX2_addSeen_20 ?_
    refine lv_aload_n hx hb dX2_addSeen_23 rfl (lv_at hl 0 rfl) ?_
    refine fgX2_8 hx hb hts hown hK hw 0 rfl kw319 dX2_addSeen_24 ?_
    refine lv_iload_n hx hb dX2_addSeen_27 rfl (lv_at hl 2 rfl) ?_
    obtain ⟨g3, h⟩ := z_gd h
    refine fbX2_5 hx hb hK hw 0 rfl rfl g3 dX2_addSeen_28 (fun H locs hw => ?_)
    obtain ⟨o4, eo4, h⟩ := z_lt h
    have hw : Wd dC dI A s.heap [wX2 h_me h_me_now q_me k_me o4] H locs := by rw [eo4]; exact hw
    refine lv_aload_n hx hb dX2_addSeen_29 rfl (lv_at hl 0 rfl) ?_
    refine lv_dup hx hb dX2_addSeen_30 rfl ?_
    refine fgX2_8 hx hb hts hown hK hw 0 rfl kw319 dX2_addSeen_31 ?_
    refine lv_iconst (v := 1) hx hb dX2_addSeen_34 (by decide) ?_
    refine lv_iadd hx hb dX2_addSeen_35 ?_
    refine fpX2_8 hx hb hts hown hK hw 0 rfl kw319 dX2_addSeen_36 (fun H locs hw => ?_)
    obtain ⟨o5, eo5, h⟩ := z_lt h
    have hw : Wd dC dI A s.heap [wX2 h_me h_me_now q_me k_me o5] H locs := by rw [eo5]; exact hw
    exact bk_39_0  o5 _ _ _ h hw (lv_sub hl [0] rfl)

def bk_X8_seen_14   (o_me : Ob) (o_me_isles : Ob) : Option (Int32 × Ob × Ob) :=
  (f_X8_refuse o_me (-1 : Int32)).bind fun z2 =>
  some (z2.1, z2.2, o_me_isles)
def f_X8_seen (o_me : Ob) (o_me_isles : Ob) (p0 : Int32) (p1 : Int32) : Option (Int32 × Ob × Ob) :=
  (f_X8_isRace p0).bind fun z1 =>
  if z1 = (0 : Int32) then
  (bk_X8_seen_14   o_me o_me_isles)
  else
  ((f_X8_isTrade p1).bind fun z3 =>
  if z3 = (0 : Int32) then
  (bk_X8_seen_14   o_me o_me_isles)
  else
  (if (gI o_me_isles 8) < (6 : Int32) then
  ((f_X2_addSeen o_me_isles p0 p1).bind fun z4 =>
  (f_X8_grant o_me z4.1).bind fun z5 =>
  some (z5.1, z5.2, z4.2))
  else
  ((f_X8_refuse o_me (-5 : Int32)).bind fun z6 =>
  some (z6.1, z6.2, o_me_isles))))
set_option maxHeartbeats 4000000 in
set_option maxRecDepth 100000 in
theorem m_X8_seen (l : Launch) (dC : Nat → ClassId) (dI : Nat → Nat → Nat) (sz : Nat) (h_me : Nat) (h_me_reader : Nat) (h_me_machine : Nat) (h_me_isles : Nat) (h_me_court : Nat) (h_me_study : Nat) (h_me_paper : Nat) (h_me_paperCourt : Nat) (h_me_past : Nat) (h_me_pastAhead : Nat) (h_me_movingAhead : Nat) (h_me_isles_now : Nat) (q_me : Nat → Nat) (k_me : Nat → ClassId) (q_me_isles : Nat → Nat) (k_me_isles : Nat → ClassId) (o_me : Ob) (o_me_isles : Ob) (p0 : Int32) (p1 : Int32) (y : Int32 × Ob × Ob) (h : f_X8_seen o_me o_me_isles p0 p1 = some y) : CI l yX8_seen cX8_seen 3 (some .int) ({ frames := 1, cells := 0, slots := 0, locals := 22 } : Room) dC dI sz [.ref h_me, .int p0, .int p1] [wX8 h_me h_me_reader h_me_machine h_me_isles h_me_court h_me_study h_me_paper h_me_paperCourt h_me_past h_me_pastAhead h_me_movingAhead q_me k_me o_me, wX2 h_me_isles h_me_isles_now q_me_isles k_me_isles o_me_isles] [tX8 k_me, tX2 k_me_isles] y.1 [wX8 h_me h_me_reader h_me_machine h_me_isles h_me_court h_me_study h_me_paper h_me_paperCourt h_me_past h_me_pastAhead h_me_movingAhead q_me k_me y.2.1, wX2 h_me_isles h_me_isles_now q_me_isles k_me_isles y.2.2] := by
  refine CC_of (by decide) (Nat.le_of_ble_eq_true rfl) ?_
  intro p e s m below meth c A ls hx hb hml hr hlk hnm hown hts hX hK hP hD hA hl
  have hl : lv_has ls 3 [(0, .ref h_me), (1, .int p0), (2, .int p1)] := hl
  have hown : s.vm.findClass RX8 = some m.cls := hown
  have hw : Wd dC dI A s.heap [wX8 h_me h_me_reader h_me_machine h_me_isles h_me_court h_me_study h_me_paper h_me_paperCourt h_me_past h_me_pastAhead h_me_movingAhead q_me k_me o_me, wX2 h_me_isles h_me_isles_now q_me_isles k_me_isles o_me_isles] s.heap [] := ⟨hP, hD, va_S.rf⟩
  generalize hQz : (MQ below (QI dC dI (fun r (_ : Unit) => r = y.1) (fun _ => Jn [wX8 h_me h_me_reader h_me_machine h_me_isles h_me_court h_me_study h_me_paper h_me_paperCourt h_me_past h_me_pastAhead h_me_movingAhead q_me k_me y.2.1, wX2 h_me_isles h_me_isles_now q_me_isles k_me_isles y.2.2]) (fun _ => Jt [tX8 k_me, tX2 k_me_isles]) A) ([.ref h_me, .int p0, .int p1] : List Value).toArray s 0 0 A) = Qz
  clear hP hD hnm
  have bk_14_0 : ∀ (o_me : Ob) (o_me_isles : Ob) (H : Heap) (locs : List Loc) (ls : Array Slot), bk_X8_seen_14   o_me o_me_isles = some y → Wd dC dI A s.heap [wX8 h_me h_me_reader h_me_machine h_me_isles h_me_court h_me_study h_me_paper h_me_paperCourt h_me_past h_me_pastAhead h_me_movingAhead q_me k_me o_me, wX2 h_me_isles h_me_isles_now q_me_isles k_me_isles o_me_isles] H locs → lv_has ls 3 [(0, .ref h_me)] → W p l e ({ frames := 1, cells := 0, slots := 0, locals := 22 } : Room) s m ([.ref h_me, .int p0, .int p1] : List Value).toArray below meth c H locs 0 0 Qz (F0 m 14 ls []) := by
    intro o_me o_me_isles H locs ls h hw hl
    unfold bk_X8_seen_14 at h
    refine lv_aload_n hx hb dX8_seen_14 rfl (lv_at hl 0 rfl) ?_
    refine lv_iconst (v := (-1)) hx hb dX8_seen_15 (by decide) ?_
    obtain ⟨z2, ez2, h⟩ := z_bd h
    refine xj_i (xrV (As := [.int (-1 : Int32)]) (rest := []) ⟨hx, hb, hml, hown, hts⟩ (m_X8_refuse l dC dI _ h_me h_me_reader h_me_machine h_me_isles h_me_court h_me_study h_me_paper h_me_paperCourt h_me_past h_me_pastAhead h_me_movingAhead q_me k_me o_me (-1 : Int32) z2 ez2) kw508 kw505 kw507 kw0 kw110 hd_X8_refuse ⟨rfl, rfl⟩ rfl rfl ⟨rfl, rfl⟩ hX hK hw [0] (by decide) rfl rfl rfl rfl rfl hl.1 rfl rfl dX8_seen_16) hw hA [0] (by decide) rfl rfl (fun H locs hw => ?_)
    have hw : Wd dC dI A s.heap [wX8 h_me h_me_reader h_me_machine h_me_isles h_me_court h_me_study h_me_paper h_me_paperCourt h_me_past h_me_pastAhead h_me_movingAhead q_me k_me z2.2, wX2 h_me_isles h_me_isles_now q_me_isles k_me_isles o_me_isles] H locs := hw
    have hy := Option.some.inj h
    rw [← hQz, ← hy]
    exact xr_i (v := z2.1) hx hb hr rfl hlk hK hw dX8_seen_19
  unfold f_X8_seen at h
  refine lv_iload_n hx hb dX8_seen_0 rfl (lv_at hl 1 rfl) ?_
  obtain ⟨z1, ez1, h⟩ := z_bd h
  refine xj_i (xrS (As := [.int p0]) (rest := []) ⟨hx, hb, hml, hown, hts⟩ (m_X8_isRace l dC dI _  p0 z1 ez1) kw527 kw525 kw526 kw110 hd_X8_isRace ⟨rfl, rfl⟩ rfl rfl ⟨rfl, rfl⟩ hX hK hw [] (by decide) rfl rfl hl.1 rfl rfl dX8_seen_1) hw hA [] (by decide) rfl rfl (fun H locs hw => ?_)
  refine lv_if_eq (tgt := 14) hx hb dX8_seen_4 (by decide) (fun c => ?_) (fun c => ?_)
  · have h := z_t h c
    exact bk_14_0  o_me o_me_isles _ _ _ h hw (lv_sub hl [0] rfl)
  · have h := z_f h c
    refine lv_iload_n hx hb dX8_seen_7 rfl (lv_at hl 2 rfl) ?_
    obtain ⟨z3, ez3, h⟩ := z_bd h
    refine xj_i (xrS (As := [.int p1]) (rest := []) ⟨hx, hb, hml, hown, hts⟩ (m_X8_isTrade l dC dI _  p1 z3 ez3) kw500 kw498 kw499 kw110 hd_X8_isTrade ⟨rfl, rfl⟩ rfl rfl ⟨rfl, rfl⟩ hX hK hw [] (by decide) rfl rfl hl.1 rfl rfl dX8_seen_8) hw hA [] (by decide) rfl rfl (fun H locs hw => ?_)
    refine lv_if_ne (tgt := 20) hx hb dX8_seen_11 (by decide) (fun c => ?_) (fun c => ?_)
    · have h := z_f h c
      refine lv_aload_n hx hb dX8_seen_20 rfl (lv_at hl 0 rfl) ?_
      refine fgX8_2 hx hb hts hown hK hw 0 rfl kw444 dX8_seen_21 ?_
      refine fgX2_8 hx hb hts hown hK hw 1 rfl kw321 dX8_seen_24 ?_
      refine lv_bipush (v := 6) hx hb dX8_seen_27 (by decide) ?_
      refine lv_icmp_lt (tgt := 39) hx hb dX8_seen_29 (by decide) (fun c => ?_) (fun c => ?_)
      · have h := z_t h c
        refine lv_aload_n hx hb dX8_seen_39 rfl (lv_at hl 0 rfl) ?_
        refine lv_aload_n hx hb dX8_seen_40 rfl (lv_at hl 0 rfl) ?_
        refine fgX8_2 hx hb hts hown hK hw 0 rfl kw444 dX8_seen_41 ?_
        refine lv_iload_n hx hb dX8_seen_44 rfl (lv_at hl 1 rfl) ?_
        refine lv_iload_n hx hb dX8_seen_45 rfl (lv_at hl 2 rfl) ?_
        obtain ⟨z4, ez4, h⟩ := z_bd h
        refine xj_i (xrV (As := [.int p0, .int p1]) (rest := [.ref h_me]) ⟨hx, hb, hml, hown, hts⟩ (m_X2_addSeen l dC dI _ h_me_isles h_me_isles_now q_me_isles k_me_isles o_me_isles p0 p1 z4 ez4) kw974 kw971 kw972 kw973 kw115 hd_X2_addSeen ⟨rfl, rfl⟩ rfl rfl ⟨rfl, rfl⟩ hX hK hw [1] (by decide) rfl rfl rfl rfl rfl hl.1 rfl rfl dX8_seen_46) hw hA [1] (by decide) rfl rfl (fun H locs hw => ?_)
        have hw : Wd dC dI A s.heap [wX8 h_me h_me_reader h_me_machine h_me_isles h_me_court h_me_study h_me_paper h_me_paperCourt h_me_past h_me_pastAhead h_me_movingAhead q_me k_me o_me, wX2 h_me_isles h_me_isles_now q_me_isles k_me_isles z4.2] H locs := hw
        obtain ⟨z5, ez5, h⟩ := z_bd h
        refine xj_i (xrV (As := [.int z4.1]) (rest := []) ⟨hx, hb, hml, hown, hts⟩ (m_X8_grant l dC dI _ h_me h_me_reader h_me_machine h_me_isles h_me_court h_me_study h_me_paper h_me_paperCourt h_me_past h_me_pastAhead h_me_movingAhead q_me k_me o_me z4.1 z5 ez5) kw520 kw517 kw519 kw1 kw110 hd_X8_grant ⟨rfl, rfl⟩ rfl rfl ⟨rfl, rfl⟩ hX hK hw [0] (by decide) rfl rfl rfl rfl rfl hl.1 rfl rfl dX8_seen_49) hw hA [0] (by decide) rfl rfl (fun H locs hw => ?_)
        have hw : Wd dC dI A s.heap [wX8 h_me h_me_reader h_me_machine h_me_isles h_me_court h_me_study h_me_paper h_me_paperCourt h_me_past h_me_pastAhead h_me_movingAhead q_me k_me z5.2, wX2 h_me_isles h_me_isles_now q_me_isles k_me_isles z4.2] H locs := hw
        have hy := Option.some.inj h
        rw [← hQz, ← hy]
        exact xr_i (v := z5.1) hx hb hr rfl hlk hK hw dX8_seen_52
      · have h := z_f h c
        refine lv_aload_n hx hb dX8_seen_32 rfl (lv_at hl 0 rfl) ?_
        refine lv_bipush (v := (-5)) hx hb dX8_seen_33 (by decide) ?_
        obtain ⟨z6, ez6, h⟩ := z_bd h
        refine xj_i (xrV (As := [.int (-5 : Int32)]) (rest := []) ⟨hx, hb, hml, hown, hts⟩ (m_X8_refuse l dC dI _ h_me h_me_reader h_me_machine h_me_isles h_me_court h_me_study h_me_paper h_me_paperCourt h_me_past h_me_pastAhead h_me_movingAhead q_me k_me o_me (-5 : Int32) z6 ez6) kw508 kw505 kw507 kw0 kw110 hd_X8_refuse ⟨rfl, rfl⟩ rfl rfl ⟨rfl, rfl⟩ hX hK hw [0] (by decide) rfl rfl rfl rfl rfl hl.1 rfl rfl dX8_seen_35) hw hA [0] (by decide) rfl rfl (fun H locs hw => ?_)
        have hw : Wd dC dI A s.heap [wX8 h_me h_me_reader h_me_machine h_me_isles h_me_court h_me_study h_me_paper h_me_paperCourt h_me_past h_me_pastAhead h_me_movingAhead q_me k_me z6.2, wX2 h_me_isles h_me_isles_now q_me_isles k_me_isles o_me_isles] H locs := hw
        have hy := Option.some.inj h
        rw [← hQz, ← hy]
        exact xr_i (v := z6.1) hx hb hr rfl hlk hK hw dX8_seen_38
    · have h := z_t h c
      exact bk_14_0  o_me o_me_isles _ _ _ h hw (lv_sub hl [0] rfl)

def f_X8_status (o_me : Ob) : Option (Int32) :=
  some (gI o_me 12)
set_option maxHeartbeats 4000000 in
set_option maxRecDepth 100000 in
theorem m_X8_status (l : Launch) (dC : Nat → ClassId) (dI : Nat → Nat → Nat) (sz : Nat) (h_me : Nat) (h_me_reader : Nat) (h_me_machine : Nat) (h_me_isles : Nat) (h_me_court : Nat) (h_me_study : Nat) (h_me_paper : Nat) (h_me_paperCourt : Nat) (h_me_past : Nat) (h_me_pastAhead : Nat) (h_me_movingAhead : Nat) (q_me : Nat → Nat) (k_me : Nat → ClassId) (o_me : Ob) (y : Int32) (h : f_X8_status o_me = some y) : CI l yX8_status cX8_status 1 (some .int) ({ frames := 0, cells := 0, slots := 0, locals := 0 } : Room) dC dI sz [.ref h_me] [wX8 h_me h_me_reader h_me_machine h_me_isles h_me_court h_me_study h_me_paper h_me_paperCourt h_me_past h_me_pastAhead h_me_movingAhead q_me k_me o_me] [tX8 k_me] y [wX8 h_me h_me_reader h_me_machine h_me_isles h_me_court h_me_study h_me_paper h_me_paperCourt h_me_past h_me_pastAhead h_me_movingAhead q_me k_me o_me] := by
  refine CC_of (by decide) (Nat.le_of_ble_eq_true rfl) ?_
  intro p e s m below meth c A ls hx hb hml hr hlk hnm hown hts hX hK hP hD hA hl
  have hl : lv_has ls 1 [(0, .ref h_me)] := hl
  have hown : s.vm.findClass RX8 = some m.cls := hown
  have hw : Wd dC dI A s.heap [wX8 h_me h_me_reader h_me_machine h_me_isles h_me_court h_me_study h_me_paper h_me_paperCourt h_me_past h_me_pastAhead h_me_movingAhead q_me k_me o_me] s.heap [] := ⟨hP, hD, va_S.rf⟩
  generalize hQz : (MQ below (QI dC dI (fun r (_ : Unit) => r = y) (fun _ => Jn [wX8 h_me h_me_reader h_me_machine h_me_isles h_me_court h_me_study h_me_paper h_me_paperCourt h_me_past h_me_pastAhead h_me_movingAhead q_me k_me o_me]) (fun _ => Jt [tX8 k_me]) A) ([.ref h_me] : List Value).toArray s 0 0 A) = Qz
  clear hP hD hnm
  unfold f_X8_status at h
  refine lv_aload_n hx hb dX8_status_0 rfl (lv_at hl 0 rfl) ?_
  refine fgX8_12 hx hb hts hown hK hw 0 rfl kw454 dX8_status_1 ?_
  have hy := Option.some.inj h
  rw [← hQz, ← hy]
  exact xr_i (v := gI o_me 12) hx hb hr rfl hlk hK hw dX8_status_4

