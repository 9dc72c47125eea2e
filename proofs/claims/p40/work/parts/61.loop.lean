set_option maxHeartbeats 8000000 in
set_option maxRecDepth 100000 in
theorem law_loop {p : Program} {l : Launch} {e : Env} {s : State} {m : MethodId} {below : List Frame} {meth : Method} {c : Code} {b L : Nat} {xs : Nat → Int32} {A : Nat → Prop} {dC : Nat → ClassId} {dI : Nat → Nat → Nat} {h : Nat → Nat} {q : Nat → Nat → Nat} (I : (Nat → Ob) → List CR → Option IR → Option IR → Prop) (hok : okS I) (hx : p.tables.exec = Jvm.exec) (hb : c.code = code) (hr : meth.sig.returnType = ret) (hlk : meth.locks = false) (hml : c.maxLocals = 4) (hown : s.vm.findClass RL = some m.cls) (hts : ∀ w ∈ gt, w.before #[Value.ref b] s = true) (hX : wX s ∧ wT dI A s) (hXs : va_X b L xs s s.heap) (hbl : b < s.heap.size) (hbA : ¬ A b) (hA : ∀ q, s.heap.size ≤ q → A q) (hAr : ∀ q, A q → s.heap.size ≤ q) (hL : L ≤ 3072) {k : Nat → Nat → ClassId} : ∀ (N n cells slots : Nat) (i : Int32) (S : Nat → Ob) (pl : List CR) (im0 im1 : Option IR) (H : Heap) (locs : List Loc) (ls : Array Slot), L + 6 - n < N → n ≤ L + 6 → i.toInt = (n : Int) → I S pl im0 im1 → cells + 10 * (L + 6 - n) ≤ 600000 → slots + 900 * (L + 6 - n) ≤ 7302250 → va_K (dC, dI) vwCl (Jt (LT k pl im0 im1)) s → Wd dC dI A s.heap (LW h q k S pl im0 im1) H locs → lv_has ls 4 [(0, .ref b), (1, .ref (h 0)), (2, .ref (h 14)), (3, .int i)] → W p l e room_1 s m #[Value.ref b] below meth c H locs cells slots (lw_Z below #[Value.ref b] s) (F0 m 18 ls []) := by
  intro N
  induction N with
  | zero =>
    intro n cells slots i S pl im0 im1 H locs ls hN
    exact absurd hN (Nat.not_lt_zero _)
  | succ N ih =>
    intro n cells slots i S pl im0 im1 H locs ls hN hn6 hi hI hcs hss hK hw hl
    refine lv_iload_n hx hb dL_law_18 rfl (lv_at hl 3 rfl) ?_
    refine lv_aload_n hx hb dL_law_19 rfl (lv_at hl 0 rfl) ?_
    refine va_slen hx hb hXs hbl hbA hw.2.2 dL_law_20 ?_
    refine lv_bipush (v := 6) hx hb dL_law_21 (by decide) ?_
    refine lv_isub hx hb dL_law_23 ?_
    have hLi : (Int32.ofNat L - 6).toInt = (L : Int) - 6 := i32_sub (a := (L : Int)) (b := 6) (nI_toInt (n := L) (by omega)) (by decide) (by omega) (by omega)
    refine lv_icmp_gt (tgt := 1187) hx hb dL_law_24 (by decide) (fun cq => ?_) (fun cq => ?_)
    · refine lv_iconst (v := 1) hx hb dL_law_1187 (by decide) ?_
      refine va_forget (fun q hq => hAr _ (hw.2.2.2.2 q hq)) ?_
      refine W.widen (k := 600000) (n := 7302250) (by omega) (by omega) ?_
      exact lw_ret hx hb hr hlk dL_law_1188
    have cq := cv_ngt (a := (n : Int)) (b := (L : Int) - 6) hi hLi cq
    have hn : n + 6 ≤ L := by omega
    refine lv_aload_n hx hb dL_law_27 rfl (lv_at hl 0 rfl) ?_
    refine lv_iload_n hx hb dL_law_28 rfl (lv_at hl 3 rfl) ?_
    refine va_sld hx hb hXs hbl hbA hw.2.2 (vin_of (m := (L : Int)) rfl (by omega) (by omega)) dL_law_29 ?_
    refine lv_bipush (v := 63) hx hb dL_law_30 (by decide) ?_
    refine lv_iand hx hb dL_law_32 ?_
    refine lv_topi (fun z ez => ?_)
    have tl : ∀ (S : Nat → Ob) (pl : List CR) (im0 im1 : Option IR) (cells slots : Nat) (H : Heap) (locs : List Loc), I S pl im0 im1 → cells + 10 * (L + 6 - (n + 6)) ≤ 600000 → slots + 900 * (L + 6 - (n + 6)) ≤ 7302250 → va_K (dC, dI) vwCl (Jt (LT k pl im0 im1)) s → Wd dC dI A s.heap (LW h q k S pl im0 im1) H locs → W p l e room_1 s m #[Value.ref b] below meth c H locs cells slots (lw_Z below #[Value.ref b] s) (F0 m 1181 ls []) := by
      intro S pl im0 im1 cells slots H locs hI hcs hss hK hw
      obtain ⟨i6, e6⟩ : ∃ y : Int32, i + Int32.ofInt 6 = y := ⟨_, rfl⟩
      have t6 : i6.toInt = ((n + 6 : Nat) : Int) := by rw [← e6]; exact (i32_add (a := (n : Int)) (b := 6) hi (by decide) (by omega) (by omega)).trans (by omega)
      refine lv_iinc (v := i6) (lv' := [(3, .int i6), (0, .ref b), (1, .ref (h 0)), (2, .ref (h 14))]) hx hb dL_law_1181 hl (k := 3) rfl e6 (by decide) rfl (fun ls hl => ?_)
      refine lv_goto (tgt := 18) hx hb dL_law_1184 (by decide) ?_
      exact ih (n + 6) cells slots i6 S pl im0 im1 H locs ls (by omega) (by omega) t6 hI hcs hss hK hw (lv_sub hl [1, 2, 3, 0] rfl)
    have hc : cells.ble 600000 = true := Nat.ble_eq_true_of_le (by omega)
    have hs : slots.ble 7302250 = true := Nat.ble_eq_true_of_le (by omega)
    obtain ⟨k0, k1, k2, k3, k4, k5, k6, k7, k8, k9, k10, k11, k12, k13, k14, k15, k16, k17, k18, k19, k20, k21, k22, k23, k24, k25, k26, k27, k28, k29, k30, k31, k32, k33, k34, k35, k36, k37, k38⟩ := hok
    rcases (show z.toInt = 0 ∨ z.toInt = 1 ∨ z.toInt = 2 ∨ z.toInt = 3 ∨ z.toInt = 4 ∨ z.toInt = 5 ∨ z.toInt = 6 ∨ z.toInt = 7 ∨ z.toInt = 8 ∨ z.toInt = 9 ∨ z.toInt = 10 ∨ z.toInt = 11 ∨ z.toInt = 12 ∨ z.toInt = 13 ∨ z.toInt = 14 ∨ z.toInt = 15 ∨ z.toInt = 16 ∨ z.toInt = 17 ∨ z.toInt = 18 ∨ z.toInt = 19 ∨ z.toInt = 20 ∨ z.toInt = 21 ∨ z.toInt = 22 ∨ z.toInt = 23 ∨ z.toInt = 24 ∨ z.toInt = 25 ∨ z.toInt = 26 ∨ z.toInt = 27 ∨ z.toInt = 28 ∨ z.toInt = 29 ∨ z.toInt = 30 ∨ z.toInt = 31 ∨ z.toInt = 32 ∨ z.toInt = 33 ∨ z.toInt = 34 ∨ z.toInt = 35 ∨ z.toInt = 36 ∨ z.toInt = 37 ∨ z.toInt = 38 ∨ (z.toInt < 0 ∨ 38 < z.toInt) by omega) with cz | cz | cz | cz | cz | cz | cz | cz | cz | cz | cz | cz | cz | cz | cz | cz | cz | cz | cz | cz | cz | cz | cz | cz | cz | cz | cz | cz | cz | cz | cz | cz | cz | cz | cz | cz | cz | cz | cz | cz
    · obtain rfl : z = 0 := Int32.toInt_inj.mp (cz.trans (by decide))
      refine lv_tableIn (tgt := 204) hx hb dL_law_33 (by decide) (by decide) rfl (by decide) ?_
      obtain ⟨y2, h2, hd⟩ := k0 S pl im0 im1 (xs (i + (1 : Int32)).toNatClampNeg) (xs (i + (2 : Int32)).toNatClampNeg) hI
      obtain ⟨y1, h1, hJ⟩ := hd
      exact lx_0 hx hb hml hown hts hX hXs hbl hbA hA hi hn hL hc hs hK hw hl y1 h1 (fun H locs hw => lm_0 hx hb hml hown hts hX hXs hbl hbA hA hi hn hL hc hs hK hw hl y2 h2 (fun H locs hw => tl _ _ _ _ cells slots H locs hJ (by omega) (by omega) hK hw))
    · obtain rfl : z = 1 := Int32.toInt_inj.mp (cz.trans (by decide))
      refine lv_tableIn (tgt := 237) hx hb dL_law_33 (by decide) (by decide) rfl (by decide) ?_
      obtain ⟨y2, h2, hd⟩ := k1 S pl im0 im1 (xs (i + (1 : Int32)).toNatClampNeg) (xs (i + (2 : Int32)).toNatClampNeg) hI
      obtain ⟨y1, h1, hJ⟩ := hd
      exact lx_1 hx hb hml hown hts hX hXs hbl hbA hA hi hn hL hc hs hK hw hl y1 h1 (fun H locs hw => lm_1 hx hb hml hown hts hX hXs hbl hbA hA hi hn hL hc hs hK hw hl y2 h2 (fun H locs hw => tl _ _ _ _ cells slots H locs hJ (by omega) (by omega) hK hw))
    · obtain rfl : z = 2 := Int32.toInt_inj.mp (cz.trans (by decide))
      refine lv_tableIn (tgt := 270) hx hb dL_law_33 (by decide) (by decide) rfl (by decide) ?_
      obtain ⟨y2, h2, hd⟩ := k2 S pl im0 im1 (xs (i + (1 : Int32)).toNatClampNeg) (xs (i + (2 : Int32)).toNatClampNeg) (xs (i + (3 : Int32)).toNatClampNeg) hI
      obtain ⟨y1, h1, hJ⟩ := hd
      exact lx_2 hx hb hml hown hts hX hXs hbl hbA hA hi hn hL hc hs hK hw hl y1 h1 (fun H locs hw => lm_2 hx hb hml hown hts hX hXs hbl hbA hA hi hn hL hc hs hK hw hl y2 h2 (fun H locs hw => tl _ _ _ _ cells slots H locs hJ (by omega) (by omega) hK hw))
    · obtain rfl : z = 3 := Int32.toInt_inj.mp (cz.trans (by decide))
      refine lv_tableIn (tgt := 313) hx hb dL_law_33 (by decide) (by decide) rfl (by decide) ?_
      obtain ⟨y2, h2, hd⟩ := k3 S pl im0 im1 (xs (i + (1 : Int32)).toNatClampNeg) (xs (i + (2 : Int32)).toNatClampNeg) (xs (i + (3 : Int32)).toNatClampNeg) hI
      obtain ⟨y1, h1, hJ⟩ := hd
      exact lx_3 hx hb hml hown hts hX hXs hbl hbA hA hi hn hL hc hs hK hw hl y1 h1 (fun H locs hw => lm_3 hx hb hml hown hts hX hXs hbl hbA hA hi hn hL hc hs hK hw hl y2 h2 (fun H locs hw => tl _ _ _ _ cells slots H locs hJ (by omega) (by omega) hK hw))
    · obtain rfl : z = 4 := Int32.toInt_inj.mp (cz.trans (by decide))
      refine lv_tableIn (tgt := 356) hx hb dL_law_33 (by decide) (by decide) rfl (by decide) ?_
      obtain ⟨y2, h2, hd⟩ := k4 S pl im0 im1 (xs (i + (1 : Int32)).toNatClampNeg) (xs (i + (2 : Int32)).toNatClampNeg) hI
      obtain ⟨y1, h1, hJ⟩ := hd
      exact lx_4 hx hb hml hown hts hX hXs hbl hbA hA hi hn hL hc hs hK hw hl y1 h1 (fun H locs hw => lm_4 hx hb hml hown hts hX hXs hbl hbA hA hi hn hL hc hs hK hw hl y2 h2 (fun H locs hw => tl _ _ _ _ cells slots H locs hJ (by omega) (by omega) hK hw))
    · obtain rfl : z = 5 := Int32.toInt_inj.mp (cz.trans (by decide))
      refine lv_tableIn (tgt := 389) hx hb dL_law_33 (by decide) (by decide) rfl (by decide) ?_
      obtain ⟨y2, h2, hd⟩ := k5 S pl im0 im1 (xs (i + (1 : Int32)).toNatClampNeg) (xs (i + (2 : Int32)).toNatClampNeg) hI
      obtain ⟨y1, h1, hJ⟩ := hd
      exact lx_5 hx hb hml hown hts hX hXs hbl hbA hA hi hn hL hc hs hK hw hl y1 h1 (fun H locs hw => lm_5 hx hb hml hown hts hX hXs hbl hbA hA hi hn hL hc hs hK hw hl y2 h2 (fun H locs hw => tl _ _ _ _ cells slots H locs hJ (by omega) (by omega) hK hw))
    · obtain rfl : z = 6 := Int32.toInt_inj.mp (cz.trans (by decide))
      refine lv_tableIn (tgt := 422) hx hb dL_law_33 (by decide) (by decide) rfl (by decide) ?_
      obtain ⟨y2, h2, hd⟩ := k6 S pl im0 im1 (xs (i + (1 : Int32)).toNatClampNeg) (xs (i + (2 : Int32)).toNatClampNeg) (xs (i + (3 : Int32)).toNatClampNeg) (xs (i + (4 : Int32)).toNatClampNeg) (xs (i + (5 : Int32)).toNatClampNeg) hI
      obtain ⟨y1, h1, hJ⟩ := hd
      exact lx_6 hx hb hml hown hts hX hXs hbl hbA hA hi hn hL hc hs hK hw hl y1 h1 (fun H locs hw => lm_6 hx hb hml hown hts hX hXs hbl hbA hA hi hn hL hc hs hK hw hl y2 h2 (fun H locs hw => tl _ _ _ _ cells slots H locs hJ (by omega) (by omega) hK hw))
    · obtain rfl : z = 7 := Int32.toInt_inj.mp (cz.trans (by decide))
      refine lv_tableIn (tgt := 485) hx hb dL_law_33 (by decide) (by decide) rfl (by decide) ?_
      obtain ⟨y2, h2, hd⟩ := k7 S pl im0 im1 (xs (i + (1 : Int32)).toNatClampNeg) hI
      obtain ⟨y1, h1, hJ⟩ := hd
      exact lx_7 hx hb hml hown hts hX hXs hbl hbA hA hi hn hL hc hs hK hw hl y1 h1 (fun H locs hw => lm_7 hx hb hml hown hts hX hXs hbl hbA hA hi hn hL hc hs hK hw hl y2 h2 (fun H locs hw => tl _ _ _ _ cells slots H locs hJ (by omega) (by omega) hK hw))
    · obtain rfl : z = 8 := Int32.toInt_inj.mp (cz.trans (by decide))
      refine lv_tableIn (tgt := 508) hx hb dL_law_33 (by decide) (by decide) rfl (by decide) ?_
      obtain ⟨y2, h2, hd⟩ := k8 S pl im0 im1 hI
      obtain ⟨y1, h1, hJ⟩ := hd
      exact lx_8 hx hb hml hown hts hX hXs hbl hbA hA hi hn hL hc hs hK hw hl y1 h1 (fun H locs hw => lm_8 hx hb hml hown hts hX hXs hbl hbA hA hi hn hL hc hs hK hw hl y2 h2 (fun H locs hw => tl _ _ _ _ cells slots H locs hJ (by omega) (by omega) hK hw))
    · obtain rfl : z = 9 := Int32.toInt_inj.mp (cz.trans (by decide))
      refine lv_tableIn (tgt := 521) hx hb dL_law_33 (by decide) (by decide) rfl (by decide) ?_
      obtain ⟨y2, h2, hd⟩ := k9 S pl im0 im1 hI
      obtain ⟨y1, h1, hJ⟩ := hd
      exact lx_9 hx hb hml hown hts hX hXs hbl hbA hA hi hn hL hc hs hK hw hl y1 h1 (fun H locs hw => lm_9 hx hb hml hown hts hX hXs hbl hbA hA hi hn hL hc hs hK hw hl y2 h2 (fun H locs hw => tl _ _ _ _ cells slots H locs hJ (by omega) (by omega) hK hw))
    · obtain rfl : z = 10 := Int32.toInt_inj.mp (cz.trans (by decide))
      refine lv_tableIn (tgt := 534) hx hb dL_law_33 (by decide) (by decide) rfl (by decide) ?_
      obtain ⟨y2, h2, hd⟩ := k10 S pl im0 im1 hI
      rcases hd with ⟨y1, h1, hJ⟩ | ⟨st9, h1, oc, hk, h2x, hf⟩
      · exact lx_10_R hx hb hml hown hts hX hXs hbl hbA hA hi hn hL hc hs hK hw hl y1 h1 (fun H locs hw => lm_10 hx hb hml hown hts hX hXs hbl hbA hA hi hn hL hc hs hK hw hl y2 h2 (fun H locs hw => tl _ _ _ _ cells slots H locs hJ (by omega) (by omega) hK hw))
      · have hcn : (cells + 8).ble 600000 = true := Nat.ble_eq_true_of_le (by omega)
        have hsn : (slots + 869).ble 7302250 = true := Nat.ble_eq_true_of_le (by omega)
        exact lx_10_new hx hb hml hown hts hX hXs hbl hbA hA hi hn hL hc hs hcn hsn hK hw hl st9 h1 oc hk h2x (fun x H locs hP hK hw => lm_10 hx hb hml hown hts hX hXs hbl hbA hA hi hn hL hcn hsn hK hw hl y2 h2 (fun H locs hw => tl _ _ _ _ (cells + 8) (slots + 869) H locs (hf x hP) (by omega) (by omega) hK hw))
    · obtain rfl : z = 11 := Int32.toInt_inj.mp (cz.trans (by decide))
      refine lv_tableIn (tgt := 547) hx hb dL_law_33 (by decide) (by decide) rfl (by decide) ?_
      obtain ⟨y2, h2, hd⟩ := k11 S pl im0 im1 hI
      obtain ⟨y1, h1, hJ⟩ := hd
      exact lx_11 hx hb hml hown hts hX hXs hbl hbA hA hi hn hL hc hs hK hw hl y1 h1 (fun H locs hw => lm_11 hx hb hml hown hts hX hXs hbl hbA hA hi hn hL hc hs hK hw hl y2 h2 (fun H locs hw => tl _ _ _ _ cells slots H locs hJ (by omega) (by omega) hK hw))
    · obtain rfl : z = 12 := Int32.toInt_inj.mp (cz.trans (by decide))
      refine lv_tableIn (tgt := 560) hx hb dL_law_33 (by decide) (by decide) rfl (by decide) ?_
      obtain ⟨y2, h2, hd⟩ := k12 S pl im0 im1 hI
      obtain ⟨y1, h1, hJ⟩ := hd
      exact lx_12 hx hb hml hown hts hX hXs hbl hbA hA hi hn hL hc hs hK hw hl y1 h1 (fun H locs hw => lm_12 hx hb hml hown hts hX hXs hbl hbA hA hi hn hL hc hs hK hw hl y2 h2 (fun H locs hw => tl _ _ _ _ cells slots H locs hJ (by omega) (by omega) hK hw))
    · obtain rfl : z = 13 := Int32.toInt_inj.mp (cz.trans (by decide))
      refine lv_tableIn (tgt := 573) hx hb dL_law_33 (by decide) (by decide) rfl (by decide) ?_
      obtain ⟨y2, h2, hd⟩ := k13 S pl im0 im1 hI
      obtain ⟨y1, h1, hJ⟩ := hd
      exact lx_13 hx hb hml hown hts hX hXs hbl hbA hA hi hn hL hc hs hK hw hl y1 h1 (fun H locs hw => lm_13 hx hb hml hown hts hX hXs hbl hbA hA hi hn hL hc hs hK hw hl y2 h2 (fun H locs hw => tl _ _ _ _ cells slots H locs hJ (by omega) (by omega) hK hw))
    · obtain rfl : z = 14 := Int32.toInt_inj.mp (cz.trans (by decide))
      refine lv_tableIn (tgt := 586) hx hb dL_law_33 (by decide) (by decide) rfl (by decide) ?_
      obtain ⟨y2, h2, hd⟩ := k14 S pl im0 im1 (xs (i + (1 : Int32)).toNatClampNeg) hI
      obtain ⟨y1, h1, hJ⟩ := hd
      exact lx_14 hx hb hml hown hts hX hXs hbl hbA hA hi hn hL hc hs hK hw hl y1 h1 (fun H locs hw => lm_14 hx hb hml hown hts hX hXs hbl hbA hA hi hn hL hc hs hK hw hl y2 h2 (fun H locs hw => tl _ _ _ _ cells slots H locs hJ (by omega) (by omega) hK hw))
    · obtain rfl : z = 15 := Int32.toInt_inj.mp (cz.trans (by decide))
      refine lv_tableIn (tgt := 609) hx hb dL_law_33 (by decide) (by decide) rfl (by decide) ?_
      obtain ⟨y2, h2, hd⟩ := k15 S pl im0 im1 (xs (i + (1 : Int32)).toNatClampNeg) hI
      obtain ⟨y1, h1, hJ⟩ := hd
      exact lx_15 hx hb hml hown hts hX hXs hbl hbA hA hi hn hL hc hs hK hw hl y1 h1 (fun H locs hw => lm_15 hx hb hml hown hts hX hXs hbl hbA hA hi hn hL hc hs hK hw hl y2 h2 (fun H locs hw => tl _ _ _ _ cells slots H locs hJ (by omega) (by omega) hK hw))
    · obtain rfl : z = 16 := Int32.toInt_inj.mp (cz.trans (by decide))
      refine lv_tableIn (tgt := 632) hx hb dL_law_33 (by decide) (by decide) rfl (by decide) ?_
      obtain ⟨y2, h2, hd⟩ := k16 S pl im0 im1 (xs (i + (1 : Int32)).toNatClampNeg) hI
      obtain ⟨y1, h1, hJ⟩ := hd
      exact lx_16 hx hb hml hown hts hX hXs hbl hbA hA hi hn hL hc hs hK hw hl y1 h1 (fun H locs hw => lm_16 hx hb hml hown hts hX hXs hbl hbA hA hi hn hL hc hs hK hw hl y2 h2 (fun H locs hw => tl _ _ _ _ cells slots H locs hJ (by omega) (by omega) hK hw))
    · obtain rfl : z = 17 := Int32.toInt_inj.mp (cz.trans (by decide))
      refine lv_tableIn (tgt := 655) hx hb dL_law_33 (by decide) (by decide) rfl (by decide) ?_
      obtain ⟨y2, h2, hd⟩ := k17 S pl im0 im1 (xs (i + (1 : Int32)).toNatClampNeg) hI
      obtain ⟨y1, h1, hJ⟩ := hd
      exact lx_17 hx hb hml hown hts hX hXs hbl hbA hA hi hn hL hc hs hK hw hl y1 h1 (fun H locs hw => lm_17 hx hb hml hown hts hX hXs hbl hbA hA hi hn hL hc hs hK hw hl y2 h2 (fun H locs hw => tl _ _ _ _ cells slots H locs hJ (by omega) (by omega) hK hw))
    · obtain rfl : z = 18 := Int32.toInt_inj.mp (cz.trans (by decide))
      refine lv_tableIn (tgt := 678) hx hb dL_law_33 (by decide) (by decide) rfl (by decide) ?_
      obtain ⟨y2, h2, hd⟩ := k18 S pl im0 im1 hI
      obtain ⟨y1, h1, hJ⟩ := hd
      exact lx_18 hx hb hml hown hts hX hXs hbl hbA hA hi hn hL hc hs hK hw hl y1 h1 (fun H locs hw => lm_18 hx hb hml hown hts hX hXs hbl hbA hA hi hn hL hc hs hK hw hl y2 h2 (fun H locs hw => tl _ _ _ _ cells slots H locs hJ (by omega) (by omega) hK hw))
    · obtain rfl : z = 19 := Int32.toInt_inj.mp (cz.trans (by decide))
      refine lv_tableIn (tgt := 691) hx hb dL_law_33 (by decide) (by decide) rfl (by decide) ?_
      obtain ⟨y2, h2, hd⟩ := k19 S pl im0 im1 hI
      obtain ⟨y1, h1, hJ⟩ := hd
      exact lx_19 hx hb hml hown hts hX hXs hbl hbA hA hi hn hL hc hs hK hw hl y1 h1 (fun H locs hw => lm_19 hx hb hml hown hts hX hXs hbl hbA hA hi hn hL hc hs hK hw hl y2 h2 (fun H locs hw => tl _ _ _ _ cells slots H locs hJ (by omega) (by omega) hK hw))
    · obtain rfl : z = 20 := Int32.toInt_inj.mp (cz.trans (by decide))
      refine lv_tableIn (tgt := 704) hx hb dL_law_33 (by decide) (by decide) rfl (by decide) ?_
      obtain ⟨y2, h2, hd⟩ := k20 S pl im0 im1 (xs (i + (1 : Int32)).toNatClampNeg) (xs (i + (2 : Int32)).toNatClampNeg) (xs (i + (3 : Int32)).toNatClampNeg) (xs (i + (4 : Int32)).toNatClampNeg) hI
      obtain ⟨y1, h1, hJ⟩ := hd
      exact lx_20 hx hb hml hown hts hX hXs hbl hbA hA hi hn hL hc hs hK hw hl y1 h1 (fun H locs hw => lm_20 hx hb hml hown hts hX hXs hbl hbA hA hi hn hL hc hs hK hw hl y2 h2 (fun H locs hw => tl _ _ _ _ cells slots H locs hJ (by omega) (by omega) hK hw))
    · obtain rfl : z = 21 := Int32.toInt_inj.mp (cz.trans (by decide))
      refine lv_tableIn (tgt := 757) hx hb dL_law_33 (by decide) (by decide) rfl (by decide) ?_
      obtain ⟨y2, h2, hd⟩ := k21 S pl im0 im1 (xs (i + (1 : Int32)).toNatClampNeg) (xs (i + (2 : Int32)).toNatClampNeg) hI
      obtain ⟨y1, h1, hJ⟩ := hd
      exact lx_21 hx hb hml hown hts hX hXs hbl hbA hA hi hn hL hc hs hK hw hl y1 h1 (fun H locs hw => lm_21 hx hb hml hown hts hX hXs hbl hbA hA hi hn hL hc hs hK hw hl y2 h2 (fun H locs hw => tl _ _ _ _ cells slots H locs hJ (by omega) (by omega) hK hw))
    · obtain rfl : z = 22 := Int32.toInt_inj.mp (cz.trans (by decide))
      refine lv_tableIn (tgt := 790) hx hb dL_law_33 (by decide) (by decide) rfl (by decide) ?_
      obtain ⟨y2, h2, hd⟩ := k22 S pl im0 im1 hI
      obtain ⟨y1, h1, hJ⟩ := hd
      exact lx_22 hx hb hml hown hts hX hXs hbl hbA hA hi hn hL hc hs hK hw hl y1 h1 (fun H locs hw => lm_22 hx hb hml hown hts hX hXs hbl hbA hA hi hn hL hc hs hK hw hl y2 h2 (fun H locs hw => tl _ _ _ _ cells slots H locs hJ (by omega) (by omega) hK hw))
    · obtain rfl : z = 23 := Int32.toInt_inj.mp (cz.trans (by decide))
      refine lv_tableIn (tgt := 803) hx hb dL_law_33 (by decide) (by decide) rfl (by decide) ?_
      obtain ⟨y2, h2, hd⟩ := k23 S pl im0 im1 hI
      obtain ⟨y1, h1, hJ⟩ := hd
      exact lx_23 hx hb hml hown hts hX hXs hbl hbA hA hi hn hL hc hs hK hw hl y1 h1 (fun H locs hw => lm_23 hx hb hml hown hts hX hXs hbl hbA hA hi hn hL hc hs hK hw hl y2 h2 (fun H locs hw => tl _ _ _ _ cells slots H locs hJ (by omega) (by omega) hK hw))
    · obtain rfl : z = 24 := Int32.toInt_inj.mp (cz.trans (by decide))
      refine lv_tableIn (tgt := 816) hx hb dL_law_33 (by decide) (by decide) rfl (by decide) ?_
      obtain ⟨y2, h2, hd⟩ := k24 S pl im0 im1 (xs (i + (1 : Int32)).toNatClampNeg) hI
      obtain ⟨y1, h1, hJ⟩ := hd
      exact lx_24 hx hb hml hown hts hX hXs hbl hbA hA hi hn hL hc hs hK hw hl y1 h1 (fun H locs hw => lm_24 hx hb hml hown hts hX hXs hbl hbA hA hi hn hL hc hs hK hw hl y2 h2 (fun H locs hw => tl _ _ _ _ cells slots H locs hJ (by omega) (by omega) hK hw))
    · obtain rfl : z = 25 := Int32.toInt_inj.mp (cz.trans (by decide))
      refine lv_tableIn (tgt := 839) hx hb dL_law_33 (by decide) (by decide) rfl (by decide) ?_
      obtain ⟨y2, h2, hd⟩ := k25 S pl im0 im1 (xs (i + (1 : Int32)).toNatClampNeg) hI
      obtain ⟨y1, h1, hJ⟩ := hd
      exact lx_25 hx hb hml hown hts hX hXs hbl hbA hA hi hn hL hc hs hK hw hl y1 h1 (fun H locs hw => lm_25 hx hb hml hown hts hX hXs hbl hbA hA hi hn hL hc hs hK hw hl y2 h2 (fun H locs hw => tl _ _ _ _ cells slots H locs hJ (by omega) (by omega) hK hw))
    · obtain rfl : z = 26 := Int32.toInt_inj.mp (cz.trans (by decide))
      refine lv_tableIn (tgt := 862) hx hb dL_law_33 (by decide) (by decide) rfl (by decide) ?_
      obtain ⟨y2, h2, hd⟩ := k26 S pl im0 im1 hI
      obtain ⟨y1, h1, hJ⟩ := hd
      exact lx_26 hx hb hml hown hts hX hXs hbl hbA hA hi hn hL hc hs hK hw hl y1 h1 (fun H locs hw => lm_26 hx hb hml hown hts hX hXs hbl hbA hA hi hn hL hc hs hK hw hl y2 h2 (fun H locs hw => tl _ _ _ _ cells slots H locs hJ (by omega) (by omega) hK hw))
    · obtain rfl : z = 27 := Int32.toInt_inj.mp (cz.trans (by decide))
      refine lv_tableIn (tgt := 875) hx hb dL_law_33 (by decide) (by decide) rfl (by decide) ?_
      obtain ⟨y2, h2, hd⟩ := k27 S pl im0 im1 (xs (i + (1 : Int32)).toNatClampNeg) hI
      obtain ⟨y1, h1, hJ⟩ := hd
      exact lx_27 hx hb hml hown hts hX hXs hbl hbA hA hi hn hL hc hs hK hw hl y1 h1 (fun H locs hw => lm_27 hx hb hml hown hts hX hXs hbl hbA hA hi hn hL hc hs hK hw hl y2 h2 (fun H locs hw => tl _ _ _ _ cells slots H locs hJ (by omega) (by omega) hK hw))
    · obtain rfl : z = 28 := Int32.toInt_inj.mp (cz.trans (by decide))
      refine lv_tableIn (tgt := 898) hx hb dL_law_33 (by decide) (by decide) rfl (by decide) ?_
      obtain ⟨y2, h2, hd⟩ := k28 S pl im0 im1 (xs (i + (1 : Int32)).toNatClampNeg) hI
      obtain ⟨y1, h1, hJ⟩ := hd
      exact lx_28 hx hb hml hown hts hX hXs hbl hbA hA hi hn hL hc hs hK hw hl y1 h1 (fun H locs hw => lm_28 hx hb hml hown hts hX hXs hbl hbA hA hi hn hL hc hs hK hw hl y2 h2 (fun H locs hw => tl _ _ _ _ cells slots H locs hJ (by omega) (by omega) hK hw))
    · obtain rfl : z = 29 := Int32.toInt_inj.mp (cz.trans (by decide))
      refine lv_tableIn (tgt := 921) hx hb dL_law_33 (by decide) (by decide) rfl (by decide) ?_
      obtain ⟨y2, h2, hd⟩ := k29 S pl im0 im1 (xs (i + (1 : Int32)).toNatClampNeg) (xs (i + (2 : Int32)).toNatClampNeg) hI
      obtain ⟨y1, h1, hJ⟩ := hd
      exact lx_29 hx hb hml hown hts hX hXs hbl hbA hA hi hn hL hc hs hK hw hl y1 h1 (fun H locs hw => lm_29 hx hb hml hown hts hX hXs hbl hbA hA hi hn hL hc hs hK hw hl y2 h2 (fun H locs hw => tl _ _ _ _ cells slots H locs hJ (by omega) (by omega) hK hw))
    · obtain rfl : z = 30 := Int32.toInt_inj.mp (cz.trans (by decide))
      refine lv_tableIn (tgt := 954) hx hb dL_law_33 (by decide) (by decide) rfl (by decide) ?_
      obtain ⟨y2, h2, hd⟩ := k30 S pl im0 im1 hI
      obtain ⟨y1, h1, hJ⟩ := hd
      exact lx_30 hx hb hml hown hts hX hXs hbl hbA hA hi hn hL hc hs hK hw hl y1 h1 (fun H locs hw => lm_30 hx hb hml hown hts hX hXs hbl hbA hA hi hn hL hc hs hK hw hl y2 h2 (fun H locs hw => tl _ _ _ _ cells slots H locs hJ (by omega) (by omega) hK hw))
    · obtain rfl : z = 31 := Int32.toInt_inj.mp (cz.trans (by decide))
      refine lv_tableIn (tgt := 967) hx hb dL_law_33 (by decide) (by decide) rfl (by decide) ?_
      obtain ⟨y2, h2, hd⟩ := k31 S pl im0 im1 (xs (i + (1 : Int32)).toNatClampNeg) (xs (i + (2 : Int32)).toNatClampNeg) hI
      obtain ⟨y1, h1, hJ⟩ := hd
      exact lx_31 hx hb hml hown hts hX hXs hbl hbA hA hi hn hL hc hs hK hw hl y1 h1 (fun H locs hw => lm_31 hx hb hml hown hts hX hXs hbl hbA hA hi hn hL hc hs hK hw hl y2 h2 (fun H locs hw => tl _ _ _ _ cells slots H locs hJ (by omega) (by omega) hK hw))
    · obtain rfl : z = 32 := Int32.toInt_inj.mp (cz.trans (by decide))
      refine lv_tableIn (tgt := 1000) hx hb dL_law_33 (by decide) (by decide) rfl (by decide) ?_
      obtain ⟨y2, h2, hd⟩ := k32 S pl im0 im1 (xs (i + (1 : Int32)).toNatClampNeg) (xs (i + (2 : Int32)).toNatClampNeg) hI
      obtain ⟨y1, h1, hJ⟩ := hd
      exact lx_32 hx hb hml hown hts hX hXs hbl hbA hA hi hn hL hc hs hK hw hl y1 h1 (fun H locs hw => lm_32 hx hb hml hown hts hX hXs hbl hbA hA hi hn hL hc hs hK hw hl y2 h2 (fun H locs hw => tl _ _ _ _ cells slots H locs hJ (by omega) (by omega) hK hw))
    · obtain rfl : z = 33 := Int32.toInt_inj.mp (cz.trans (by decide))
      refine lv_tableIn (tgt := 1033) hx hb dL_law_33 (by decide) (by decide) rfl (by decide) ?_
      obtain ⟨y2, h2, hd⟩ := k33 S pl im0 im1 (xs (i + (1 : Int32)).toNatClampNeg) (xs (i + (2 : Int32)).toNatClampNeg) hI
      obtain ⟨y1, h1, hJ⟩ := hd
      exact lx_33 hx hb hml hown hts hX hXs hbl hbA hA hi hn hL hc hs hK hw hl y1 h1 (fun H locs hw => lm_33 hx hb hml hown hts hX hXs hbl hbA hA hi hn hL hc hs hK hw hl y2 h2 (fun H locs hw => tl _ _ _ _ cells slots H locs hJ (by omega) (by omega) hK hw))
    · obtain rfl : z = 34 := Int32.toInt_inj.mp (cz.trans (by decide))
      refine lv_tableIn (tgt := 1066) hx hb dL_law_33 (by decide) (by decide) rfl (by decide) ?_
      obtain ⟨y2, h2, hd⟩ := k34 S pl im0 im1 (xs (i + (1 : Int32)).toNatClampNeg) (xs (i + (2 : Int32)).toNatClampNeg) hI
      obtain ⟨y1, h1, hJ⟩ := hd
      exact lx_34 hx hb hml hown hts hX hXs hbl hbA hA hi hn hL hc hs hK hw hl y1 h1 (fun H locs hw => lm_34 hx hb hml hown hts hX hXs hbl hbA hA hi hn hL hc hs hK hw hl y2 h2 (fun H locs hw => tl _ _ _ _ cells slots H locs hJ (by omega) (by omega) hK hw))
    · obtain rfl : z = 35 := Int32.toInt_inj.mp (cz.trans (by decide))
      refine lv_tableIn (tgt := 1099) hx hb dL_law_33 (by decide) (by decide) rfl (by decide) ?_
      obtain ⟨y2, h2, hd⟩ := k35 S pl im0 im1 (xs (i + (1 : Int32)).toNatClampNeg) hI
      rcases hd with ⟨y1, h1, hJ⟩ | ⟨r9, hr9, him, y1, h1, hJ⟩ | ⟨r9, hr9, him, y1, h1, hJ⟩ | ⟨hr9, him, hzn, h1, h2x, hf⟩ | ⟨hr9, him, hzn, h1, h2x, hf⟩
      · exact lx_35_R hx hb hml hown hts hX hXs hbl hbA hA hi hn hL hc hs hK hw hl y1 h1 (fun H locs hw => lm_35 hx hb hml hown hts hX hXs hbl hbA hA hi hn hL hc hs hK hw hl y2 h2 (fun H locs hw => tl _ _ _ _ cells slots H locs hJ (by omega) (by omega) hK hw))
      · subst hr9
        exact lx_35_O0 (im0 := none) hx hb hml hown hts hX hXs hbl hbA hA hi hn hL hc hs hK hw hl him y1 h1 (fun H locs hw => lm_35 (im0 := (some (r9.1, r9.2.1, r9.2.2.1, r9.2.2.2.1, r9.2.2.2.2.1, r9.2.2.2.2.2.1, y1.2.2.1, y1.2.2.2))) (im1 := im1) hx hb hml hown hts hX hXs hbl hbA hA hi hn hL hc hs hK hw hl y2 h2 (fun H locs hw => tl _ _ _ _ cells slots H locs hJ (by omega) (by omega) hK hw))
      · subst hr9
        exact lx_35_O1 (im1 := none) hx hb hml hown hts hX hXs hbl hbA hA hi hn hL hc hs hK hw hl him y1 h1 (fun H locs hw => lm_35 (im0 := im0) (im1 := (some (r9.1, r9.2.1, r9.2.2.1, r9.2.2.2.1, r9.2.2.2.2.1, r9.2.2.2.2.2.1, y1.2.2.1, y1.2.2.2))) hx hb hml hown hts hX hXs hbl hbA hA hi hn hL hc hs hK hw hl y2 h2 (fun H locs hw => tl _ _ _ _ cells slots H locs hJ (by omega) (by omega) hK hw))
      · subst hr9
        have hcn : (cells + 10).ble 600000 = true := Nat.ble_eq_true_of_le (by omega)
        have hsn : (slots + 92).ble 7302250 = true := Nat.ble_eq_true_of_le (by omega)
        exact lx_35_new0 (im0 := none) hx hb hml hown hts hX hXs hbl hbA hA hi hn hL hc hs hcn hsn hK hw hl him hzn h1 h2x (fun x H locs hP hK hw => lm_35 hx hb hml hown hts hX hXs hbl hbA hA hi hn hL hcn hsn hK hw hl y2 h2 (fun H locs hw => tl _ _ _ _ (cells + 10) (slots + 92) H locs (hf x hP) (by omega) (by omega) hK hw))
      · subst hr9
        have hcn : (cells + 10).ble 600000 = true := Nat.ble_eq_true_of_le (by omega)
        have hsn : (slots + 92).ble 7302250 = true := Nat.ble_eq_true_of_le (by omega)
        exact lx_35_new1 (im1 := none) hx hb hml hown hts hX hXs hbl hbA hA hi hn hL hc hs hcn hsn hK hw hl him hzn h1 h2x (fun x H locs hP hK hw => lm_35 hx hb hml hown hts hX hXs hbl hbA hA hi hn hL hcn hsn hK hw hl y2 h2 (fun H locs hw => tl _ _ _ _ (cells + 10) (slots + 92) H locs (hf x hP) (by omega) (by omega) hK hw))
    · obtain rfl : z = 36 := Int32.toInt_inj.mp (cz.trans (by decide))
      refine lv_tableIn (tgt := 1122) hx hb dL_law_33 (by decide) (by decide) rfl (by decide) ?_
      obtain ⟨y2, h2, hd⟩ := k36 S pl im0 im1 (xs (i + (1 : Int32)).toNatClampNeg) hI
      rcases hd with ⟨him, y1, h1, hJ⟩ | ⟨r9, hr9, him, y1, h1, hJ⟩ | ⟨r9, hr9, him, y1, h1, hJ⟩
      · exact lx_36_N hx hb hml hown hts hX hXs hbl hbA hA hi hn hL hc hs hK hw hl him y1 h1 (fun H locs hw => lm_36 hx hb hml hown hts hX hXs hbl hbA hA hi hn hL hc hs hK hw hl y2 h2 (fun H locs hw => tl _ _ _ _ cells slots H locs hJ (by omega) (by omega) hK hw))
      · subst hr9
        exact lx_36_O0 (im0 := none) hx hb hml hown hts hX hXs hbl hbA hA hi hn hL hc hs hK hw hl him y1 h1 (fun H locs hw => lm_36 (im0 := (some r9)) (im1 := im1) hx hb hml hown hts hX hXs hbl hbA hA hi hn hL hc hs hK hw hl y2 h2 (fun H locs hw => tl _ _ _ _ cells slots H locs hJ (by omega) (by omega) hK hw))
      · subst hr9
        exact lx_36_O1 (im1 := none) hx hb hml hown hts hX hXs hbl hbA hA hi hn hL hc hs hK hw hl him y1 h1 (fun H locs hw => lm_36 (im0 := im0) (im1 := (some r9)) hx hb hml hown hts hX hXs hbl hbA hA hi hn hL hc hs hK hw hl y2 h2 (fun H locs hw => tl _ _ _ _ cells slots H locs hJ (by omega) (by omega) hK hw))
    · obtain rfl : z = 37 := Int32.toInt_inj.mp (cz.trans (by decide))
      refine lv_tableIn (tgt := 1145) hx hb dL_law_33 (by decide) (by decide) rfl (by decide) ?_
      obtain ⟨y2, h2, hd⟩ := k37 S pl im0 im1 (xs (i + (1 : Int32)).toNatClampNeg) hI
      obtain ⟨y1, h1, hJ⟩ := hd
      exact lx_37 hx hb hml hown hts hX hXs hbl hbA hA hi hn hL hc hs hK hw hl y1 h1 (fun H locs hw => lm_37 hx hb hml hown hts hX hXs hbl hbA hA hi hn hL hc hs hK hw hl y2 h2 (fun H locs hw => tl _ _ _ _ cells slots H locs hJ (by omega) (by omega) hK hw))
    · obtain rfl : z = 38 := Int32.toInt_inj.mp (cz.trans (by decide))
      refine lv_tableIn (tgt := 1168) hx hb dL_law_33 (by decide) (by decide) rfl (by decide) ?_
      obtain ⟨y2, h2, hd⟩ := k38 S pl im0 im1 hI
      obtain ⟨y1, h1, hcmp, hJ⟩ := hd
      exact lx_38 hx hb hml hown hts hX hXs hbl hbA hA hi hn hL hc hs hK hw hl y1 h1 (fun H locs hw => lm_38 hx hb hml hown hts hX hXs hbl hbA hA hi hn hL hc hs hK hw hl y2 h2 hcmp (fun H locs hw => tl _ _ _ _ cells slots H locs hJ (by omega) (by omega) hK hw))
    · refine lv_tableOut (tgt := 1181) hx hb dL_law_33 cz (by decide) ?_
      exact tl _ _ _ _ cells slots _ _ hI (by omega) (by omega) hK hw
