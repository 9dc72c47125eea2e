set_option maxHeartbeats 4000000 in
set_option maxRecDepth 100000 in
theorem c_X4_init_0 (l : Launch) (dC : Nat → ClassId) (dI : Nat → Nat → Nat) (sz : Nat) (h0 : Nat)  : CC l yX4_init cX4_init 1 none { frames := 1, cells := 2, slots := 14, locals := 12 } dC dI sz [.ref h0] [(h0, .inr (4, [.null, .null, .int 0, .int 0, .int 0]))] [] (QV dC dI (fun (_ : Nat × Nat × ClassId × ClassId) => True) (fun x : Nat × Nat × ClassId × ClassId => match x with | (q1_, q3_, k2_, k4_) => [(h0, .inr (4, [.ref q1_, .ref q3_, .int 0, .int 0, .int 0])), (q1_, .inl (k2_, 7, .inl (fun _ => 0))), (q3_, .inl (k4_, 7, .inl (fun _ => 0)))]) (fun x : Nat × Nat × ClassId × ClassId => match x with | (q1_, q3_, k2_, k4_) => [(k2_, .int), (k4_, .int)])) 2 14 := by
  refine CC_of (by decide) (Nat.le_of_ble_eq_true rfl) ?_
  intro p e s m below meth c A ls hx hb hml hr hlk hnm hown hts hX hK hP hD hA hl
  have hl : lv_has ls 1 [(0, .ref h0)] := hl
  have hown : s.vm.findClass RX4 = some m.cls := hown
  have hnm : meth.name = "<init>" := hnm
  have hS : va_S A s.heap s.heap [] := va_S.rf
  refine lv_aload_n hx hb dX4_init_0 rfl (lv_at hl 0 rfl) ?_
  refine W.objInit hx hb hown (hts _ k260) (hts _ k134) (hts _ k135) rfl (by rw [hml]; exact hl.1) rfl dX4_init_1 (Nat.le_of_ble_eq_true rfl) (Nat.le_of_ble_eq_true rfl) ?_
  refine W.eq (g2 := F0 m 4 ls []) rfl ?_
  refine lv_aload_n hx hb dX4_init_4 rfl (lv_at hl 0 rfl) ?_
  refine lv_bipush (v := 7) hx hb dX4_init_5 (by decide) ?_
  refine va_newa (atype := .int) (ty := .int) (N' := 7) (a0 := (7, (.inl (fun _ => 0)))) hx hb (hts _ k200) rfl hK hP hD hS hA (fun _ => rfl) (by decide) (by decide) (Nat.le_of_ble_eq_true rfl) (Nat.le_of_ble_eq_true rfl) (Nat.le_of_ble_eq_true rfl) dX4_init_7 (fun q1_ k2_ H hK hP hD hS => ?_)
  have hP : va_P (dC, dI) vwCl [(h0, .inr (4, [.null, .null, .int 0, .int 0, .int 0])), (q1_, .inl (k2_, 7, .inl (fun _ => 0)))] H := hP
  have hD : va_D A [(h0, .inr (4, [.null, .null, .int 0, .int 0, .int 0])), (q1_, .inl (k2_, 7, .inl (fun _ => 0)))] := hD
  have hK : va_K (dC, dI) vwCl [(k2_, .int)] s := hK
  refine va_putF (D := (dC, dI)) (ci := 4) (v := .ref q1_) (ty := .array .int) (C := RX4) (T := TX4) (N := 5) hx hb hts iX4 tyX4 tyX4_ok nmX4 hown hK hP hD hS 0 rfl rfl 0 (by decide) (hts _ k261) (fun _ h9 => h9) rfl hnm rfl (by decide +kernel) rfl rfl (Nat.le_of_ble_eq_true rfl) dX4_init_9 (fun H locs hP hD hS => ?_)
  have hP : va_P (dC, dI) vwCl [(h0, .inr (4, [.ref q1_, .null, .int 0, .int 0, .int 0])), (q1_, .inl (k2_, 7, .inl (fun _ => 0)))] H := hP
  have hD : va_D A [(h0, .inr (4, [.ref q1_, .null, .int 0, .int 0, .int 0])), (q1_, .inl (k2_, 7, .inl (fun _ => 0)))] := hD
  refine lv_aload_n hx hb dX4_init_12 rfl (lv_at hl 0 rfl) ?_
  refine lv_bipush (v := 7) hx hb dX4_init_13 (by decide) ?_
  refine va_newa (atype := .int) (ty := .int) (N' := 7) (a0 := (7, (.inl (fun _ => 0)))) hx hb (hts _ k200) rfl hK hP hD hS hA (fun _ => rfl) (by decide) (by decide) (Nat.le_of_ble_eq_true rfl) (Nat.le_of_ble_eq_true rfl) (Nat.le_of_ble_eq_true rfl) dX4_init_15 (fun q3_ k4_ H hK hP hD hS => ?_)
  have hP : va_P (dC, dI) vwCl [(h0, .inr (4, [.ref q1_, .null, .int 0, .int 0, .int 0])), (q1_, .inl (k2_, 7, .inl (fun _ => 0))), (q3_, .inl (k4_, 7, .inl (fun _ => 0)))] H := hP
  have hD : va_D A [(h0, .inr (4, [.ref q1_, .null, .int 0, .int 0, .int 0])), (q1_, .inl (k2_, 7, .inl (fun _ => 0))), (q3_, .inl (k4_, 7, .inl (fun _ => 0)))] := hD
  have hK : va_K (dC, dI) vwCl [(k2_, .int), (k4_, .int)] s := hK
  refine va_putF (D := (dC, dI)) (ci := 4) (v := .ref q3_) (ty := .array .int) (C := RX4) (T := TX4) (N := 5) hx hb hts iX4 tyX4 tyX4_ok nmX4 hown hK hP hD hS 0 rfl rfl 1 (by decide) (hts _ k265) (fun _ h9 => h9) rfl hnm rfl (by decide +kernel) rfl rfl (Nat.le_of_ble_eq_true rfl) dX4_init_17 (fun H locs hP hD hS => ?_)
  have hP : va_P (dC, dI) vwCl [(h0, .inr (4, [.ref q1_, .ref q3_, .int 0, .int 0, .int 0])), (q1_, .inl (k2_, 7, .inl (fun _ => 0))), (q3_, .inl (k4_, 7, .inl (fun _ => 0)))] H := hP
  have hD : va_D A [(h0, .inr (4, [.ref q1_, .ref q3_, .int 0, .int 0, .int 0])), (q1_, .inl (k2_, 7, .inl (fun _ => 0))), (q3_, .inl (k4_, 7, .inl (fun _ => 0)))] := hD
  refine lv_aload_n hx hb dX4_init_20 rfl (lv_at hl 0 rfl) ?_
  refine lv_iconst (v := 0) hx hb dX4_init_21 (by decide) ?_
  refine va_put (D := (dC, dI)) (ci := 4) (v := .int 0) (ty := .int) (C := RX4) (T := TX4) (N := 5) hx hb hts iX4 tyX4 tyX4_ok nmX4 hown hK hP hD hS 0 rfl rfl 2 (by decide) (hts _ k268) (fun _ h9 => h9) rfl (by decide +kernel) rfl rfl (Nat.le_of_ble_eq_true rfl) dX4_init_22 (fun H locs hP hD hS => ?_)
  have hP : va_P (dC, dI) vwCl [(h0, .inr (4, [.ref q1_, .ref q3_, .int 0, .int 0, .int 0])), (q1_, .inl (k2_, 7, .inl (fun _ => 0))), (q3_, .inl (k4_, 7, .inl (fun _ => 0)))] H := hP
  have hD : va_D A [(h0, .inr (4, [.ref q1_, .ref q3_, .int 0, .int 0, .int 0])), (q1_, .inl (k2_, 7, .inl (fun _ => 0))), (q3_, .inl (k4_, 7, .inl (fun _ => 0)))] := hD
  refine lv_aload_n hx hb dX4_init_25 rfl (lv_at hl 0 rfl) ?_
  refine lv_iconst (v := 0) hx hb dX4_init_26 (by decide) ?_
  refine va_put (D := (dC, dI)) (ci := 4) (v := .int 0) (ty := .int) (C := RX4) (T := TX4) (N := 5) hx hb hts iX4 tyX4 tyX4_ok nmX4 hown hK hP hD hS 0 rfl rfl 3 (by decide) (hts _ k273) (fun _ h9 => h9) rfl (by decide +kernel) rfl rfl (Nat.le_of_ble_eq_true rfl) dX4_init_27 (fun H locs hP hD hS => ?_)
  have hP : va_P (dC, dI) vwCl [(h0, .inr (4, [.ref q1_, .ref q3_, .int 0, .int 0, .int 0])), (q1_, .inl (k2_, 7, .inl (fun _ => 0))), (q3_, .inl (k4_, 7, .inl (fun _ => 0)))] H := hP
  have hD : va_D A [(h0, .inr (4, [.ref q1_, .ref q3_, .int 0, .int 0, .int 0])), (q1_, .inl (k2_, 7, .inl (fun _ => 0))), (q3_, .inl (k4_, 7, .inl (fun _ => 0)))] := hD
  refine lv_aload_n hx hb dX4_init_30 rfl (lv_at hl 0 rfl) ?_
  refine lv_iconst (v := 0) hx hb dX4_init_31 (by decide) ?_
  refine va_put (D := (dC, dI)) (ci := 4) (v := .int 0) (ty := .int) (C := RX4) (T := TX4) (N := 5) hx hb hts iX4 tyX4 tyX4_ok nmX4 hown hK hP hD hS 0 rfl rfl 4 (by decide) (hts _ k277) (fun _ h9 => h9) rfl (by decide +kernel) rfl rfl (Nat.le_of_ble_eq_true rfl) dX4_init_32 (fun H locs hP hD hS => ?_)
  have hP : va_P (dC, dI) vwCl [(h0, .inr (4, [.ref q1_, .ref q3_, .int 0, .int 0, .int 0])), (q1_, .inl (k2_, 7, .inl (fun _ => 0))), (q3_, .inl (k4_, 7, .inl (fun _ => 0)))] H := hP
  have hD : va_D A [(h0, .inr (4, [.ref q1_, .ref q3_, .int 0, .int 0, .int 0])), (q1_, .inl (k2_, 7, .inl (fun _ => 0))), (q3_, .inl (k4_, 7, .inl (fun _ => 0)))] := hD
  refine W.widen (k := 2) (n := 14) (Nat.le_of_ble_eq_true rfl) (Nat.le_of_ble_eq_true rfl) ?_
  exact CV_ret (q1_, q3_, k2_, k4_) hx hb hr hlk (hK.sub (tys' := [(k2_, .int), (k4_, .int)]) [0, 1] rfl) (hP.sub (ws' := [(h0, .inr (4, [.ref q1_, .ref q3_, .int 0, .int 0, .int 0])), (q1_, .inl (k2_, 7, .inl (fun _ => 0))), (q3_, .inl (k4_, 7, .inl (fun _ => 0)))]) [0, 1, 2] rfl) (hD.sub (ws' := [(h0, .inr (4, [.ref q1_, .ref q3_, .int 0, .int 0, .int 0])), (q1_, .inl (k2_, 7, .inl (fun _ => 0))), (q3_, .inl (k4_, 7, .inl (fun _ => 0)))]) [0, 1, 2] (by decide) rfl) hS trivial dX4_init_35
