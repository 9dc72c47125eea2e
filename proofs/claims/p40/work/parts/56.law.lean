set_option maxHeartbeats 4000000 in
set_option maxRecDepth 100000 in
theorem lx_0 {p : Program} {l : Launch} {e : Env} {s : State} {m : MethodId} {below : List Frame} {meth : Method} {c : Code} {b L : Nat} {xs : Nat → Int32} {A : Nat → Prop} {dC : Nat → ClassId} {dI : Nat → Nat → Nat} {Q : State → Prop} {H : Heap} {locs : List Loc} {ls : Array Slot} {cells slots : Nat} {h : Nat → Nat} {q : Nat → Nat → Nat} {k : Nat → Nat → ClassId} {S : Nat → Ob} {pl : List CR} {im0 im1 : Option IR} {i : Int32} {n : Nat} (hx : p.tables.exec = Jvm.exec) (hb : c.code = code) (hml : c.maxLocals = 4) (hown : s.vm.findClass RL = some m.cls) (hts : ∀ w ∈ gt, w.before #[Value.ref b] s = true) (hX : wX s ∧ wT dI A s) (hXs : va_X b L xs s s.heap) (hbl : b < s.heap.size) (hbA : ¬ A b) (hA : ∀ q, s.heap.size ≤ q → A q) (hi : i.toInt = (n : Int)) (hn : n + 6 ≤ L) (hL : L ≤ 3072) (hc : cells.ble 600000 = true) (hs : slots.ble 7302250 = true) (hK : va_K (dC, dI) vwCl (Jt (LT k pl im0 im1)) s) (hw : Wd dC dI A s.heap (LW h q k S pl im0 im1) H locs) (hl : lv_has ls 4 [(0, .ref b), (1, .ref (h 0)), (2, .ref (h 14)), (3, .int i)]) (y1 : Int32 × Ob × Ob × Ob × Ob) (h1 : f_X8_person (S 0) (S 4) (S 5) (S 11) (xs (i + (1 : Int32)).toNatClampNeg) (xs (i + (2 : Int32)).toNatClampNeg) = some y1) (kk : ∀ (H : Heap) (locs : List Loc), Wd dC dI A s.heap (LW h q k (fset (fset (fset (fset S 0 y1.2.1) 4 y1.2.2.1) 5 y1.2.2.2.1) 11 y1.2.2.2.2) pl im0 im1) H locs → W p l e room_1 s m #[Value.ref b] below meth c H locs cells slots Q (F0 m 219 ls [])) : W p l e room_1 s m #[Value.ref b] below meth c H locs cells slots Q (F0 m 204 ls []) := by
  refine lv_aload_n hx hb dL_law_204 rfl (lv_at hl 1 rfl) ?_
  refine lv_aload_n hx hb dL_law_205 rfl (lv_at hl 0 rfl) ?_
  refine lv_iload_n hx hb dL_law_206 rfl (lv_at hl 3 rfl) ?_
  refine lv_iconst (v := 1) hx hb dL_law_207 (by decide) ?_
  refine lv_iadd hx hb dL_law_208 ?_
  refine va_sld hx hb hXs hbl hbA hw.2.2 (law_in hi hn hL (j := 1) (by decide) (by decide)) dL_law_209 ?_
  refine lv_aload_n hx hb dL_law_210 rfl (lv_at hl 0 rfl) ?_
  refine lv_iload_n hx hb dL_law_211 rfl (lv_at hl 3 rfl) ?_
  refine lv_iconst (v := 2) hx hb dL_law_212 (by decide) ?_
  refine lv_iadd hx hb dL_law_213 ?_
  refine va_sld hx hb hXs hbl hbA hw.2.2 (law_in hi hn hL (j := 2) (by decide) (by decide)) dL_law_214 ?_
  refine xj_i (xrV (As := [.int (xs (i + (1 : Int32)).toNatClampNeg), .int (xs (i + (2 : Int32)).toNatClampNeg)]) (rest := []) ⟨hx, hb, hml, hown, hts⟩ (m_X8_person l dC dI _ (h 0) (h 1) (h 3) (h 4) (h 6) (h 7) (h 8) (h 10) (h 11) (h 12) (h 13) (h 5) (q 0) (k 0) (q 4) (k 4) (q 5) (k 5) (q 11) (k 11) (S 0) (S 4) (S 5) (S 11) (xs (i + (1 : Int32)).toNatClampNeg) (xs (i + (2 : Int32)).toNatClampNeg) y1 h1) kw497 kw494 kw495 kw496 kw110 hd_X8_person ⟨rfl, rfl⟩ rfl rfl ⟨hc, hs⟩ hX hK hw [0, 4, 5, 11] (by decide) rfl rfl rfl rfl rfl hl.1 rfl rfl dL_law_215) hw hA [0, 4, 5, 11] (by decide) rfl rfl (fun H locs hw => ?_)
  have hw : Wd dC dI A s.heap (LW h q k (fset (fset (fset (fset S 0 y1.2.1) 4 y1.2.2.1) 5 y1.2.2.2.1) 11 y1.2.2.2.2) pl im0 im1) H locs := hw
  refine lv_pop hx hb dL_law_218 rfl ?_
  exact kk H locs hw

set_option maxHeartbeats 4000000 in
set_option maxRecDepth 100000 in
theorem lm_0 {p : Program} {l : Launch} {e : Env} {s : State} {m : MethodId} {below : List Frame} {meth : Method} {c : Code} {b L : Nat} {xs : Nat → Int32} {A : Nat → Prop} {dC : Nat → ClassId} {dI : Nat → Nat → Nat} {Q : State → Prop} {H : Heap} {locs : List Loc} {ls : Array Slot} {cells slots : Nat} {h : Nat → Nat} {q : Nat → Nat → Nat} {k : Nat → Nat → ClassId} {S : Nat → Ob} {pl : List CR} {im0 im1 : Option IR} {i : Int32} {n : Nat} (hx : p.tables.exec = Jvm.exec) (hb : c.code = code) (hml : c.maxLocals = 4) (hown : s.vm.findClass RL = some m.cls) (hts : ∀ w ∈ gt, w.before #[Value.ref b] s = true) (hX : wX s ∧ wT dI A s) (hXs : va_X b L xs s s.heap) (hbl : b < s.heap.size) (hbA : ¬ A b) (hA : ∀ q, s.heap.size ≤ q → A q) (hi : i.toInt = (n : Int)) (hn : n + 6 ≤ L) (hL : L ≤ 3072) (hc : cells.ble 600000 = true) (hs : slots.ble 7302250 = true) (hK : va_K (dC, dI) vwCl (Jt (LT k pl im0 im1)) s) (hw : Wd dC dI A s.heap (LW h q k S pl im0 im1) H locs) (hl : lv_has ls 4 [(0, .ref b), (1, .ref (h 0)), (2, .ref (h 14)), (3, .int i)]) (y2 : Int32 × Ob) (h2 : f_X9_person (S 14) (xs (i + (1 : Int32)).toNatClampNeg) (xs (i + (2 : Int32)).toNatClampNeg) = some y2) (kk : ∀ (H : Heap) (locs : List Loc), Wd dC dI A s.heap (LW h q k (fset S 14 y2.2) pl im0 im1) H locs → W p l e room_1 s m #[Value.ref b] below meth c H locs cells slots Q (F0 m 1181 ls [])) : W p l e room_1 s m #[Value.ref b] below meth c H locs cells slots Q (F0 m 219 ls []) := by
  refine lv_aload_n hx hb dL_law_219 rfl (lv_at hl 2 rfl) ?_
  refine lv_aload_n hx hb dL_law_220 rfl (lv_at hl 0 rfl) ?_
  refine lv_iload_n hx hb dL_law_221 rfl (lv_at hl 3 rfl) ?_
  refine lv_iconst (v := 1) hx hb dL_law_222 (by decide) ?_
  refine lv_iadd hx hb dL_law_223 ?_
  refine va_sld hx hb hXs hbl hbA hw.2.2 (law_in hi hn hL (j := 1) (by decide) (by decide)) dL_law_224 ?_
  refine lv_aload_n hx hb dL_law_225 rfl (lv_at hl 0 rfl) ?_
  refine lv_iload_n hx hb dL_law_226 rfl (lv_at hl 3 rfl) ?_
  refine lv_iconst (v := 2) hx hb dL_law_227 (by decide) ?_
  refine lv_iadd hx hb dL_law_228 ?_
  refine va_sld hx hb hXs hbl hbA hw.2.2 (law_in hi hn hL (j := 2) (by decide) (by decide)) dL_law_229 ?_
  refine xj_i (xrV (As := [.int (xs (i + (1 : Int32)).toNatClampNeg), .int (xs (i + (2 : Int32)).toNatClampNeg)]) (rest := []) ⟨hx, hb, hml, hown, hts⟩ (m_X9_person l dC dI _ (h 14) (q 14) (k 14) (S 14) (xs (i + (1 : Int32)).toNatClampNeg) (xs (i + (2 : Int32)).toNatClampNeg) y2 h2) kw1397 kw1394 kw1395 kw1396 kw120 hd_X9_person ⟨rfl, rfl⟩ rfl rfl ⟨hc, hs⟩ hX hK hw [19] (by decide) rfl rfl rfl rfl rfl hl.1 rfl rfl dL_law_230) hw hA [19] (by decide) rfl rfl (fun H locs hw => ?_)
  have hw : Wd dC dI A s.heap (LW h q k (fset S 14 y2.2) pl im0 im1) H locs := hw
  refine lv_pop hx hb dL_law_233 rfl ?_
  refine lv_goto (tgt := 1181) hx hb dL_law_234 (by decide) ?_
  exact kk H locs hw

set_option maxHeartbeats 4000000 in
set_option maxRecDepth 100000 in
theorem lx_1 {p : Program} {l : Launch} {e : Env} {s : State} {m : MethodId} {below : List Frame} {meth : Method} {c : Code} {b L : Nat} {xs : Nat → Int32} {A : Nat → Prop} {dC : Nat → ClassId} {dI : Nat → Nat → Nat} {Q : State → Prop} {H : Heap} {locs : List Loc} {ls : Array Slot} {cells slots : Nat} {h : Nat → Nat} {q : Nat → Nat → Nat} {k : Nat → Nat → ClassId} {S : Nat → Ob} {pl : List CR} {im0 im1 : Option IR} {i : Int32} {n : Nat} (hx : p.tables.exec = Jvm.exec) (hb : c.code = code) (hml : c.maxLocals = 4) (hown : s.vm.findClass RL = some m.cls) (hts : ∀ w ∈ gt, w.before #[Value.ref b] s = true) (hX : wX s ∧ wT dI A s) (hXs : va_X b L xs s s.heap) (hbl : b < s.heap.size) (hbA : ¬ A b) (hA : ∀ q, s.heap.size ≤ q → A q) (hi : i.toInt = (n : Int)) (hn : n + 6 ≤ L) (hL : L ≤ 3072) (hc : cells.ble 600000 = true) (hs : slots.ble 7302250 = true) (hK : va_K (dC, dI) vwCl (Jt (LT k pl im0 im1)) s) (hw : Wd dC dI A s.heap (LW h q k S pl im0 im1) H locs) (hl : lv_has ls 4 [(0, .ref b), (1, .ref (h 0)), (2, .ref (h 14)), (3, .int i)]) (y1 : Int32 × Ob) (h1 : f_X8_of (S 0) (S 3) (S 4) (S 5) (S 6) pl (xs (i + (1 : Int32)).toNatClampNeg) (xs (i + (2 : Int32)).toNatClampNeg) = some y1) (kk : ∀ (H : Heap) (locs : List Loc), Wd dC dI A s.heap (LW h q k (fset S 3 y1.2) pl im0 im1) H locs → W p l e room_1 s m #[Value.ref b] below meth c H locs cells slots Q (F0 m 252 ls [])) : W p l e room_1 s m #[Value.ref b] below meth c H locs cells slots Q (F0 m 237 ls []) := by
  refine lv_aload_n hx hb dL_law_237 rfl (lv_at hl 1 rfl) ?_
  refine lv_aload_n hx hb dL_law_238 rfl (lv_at hl 0 rfl) ?_
  refine lv_iload_n hx hb dL_law_239 rfl (lv_at hl 3 rfl) ?_
  refine lv_iconst (v := 1) hx hb dL_law_240 (by decide) ?_
  refine lv_iadd hx hb dL_law_241 ?_
  refine va_sld hx hb hXs hbl hbA hw.2.2 (law_in hi hn hL (j := 1) (by decide) (by decide)) dL_law_242 ?_
  refine lv_aload_n hx hb dL_law_243 rfl (lv_at hl 0 rfl) ?_
  refine lv_iload_n hx hb dL_law_244 rfl (lv_at hl 3 rfl) ?_
  refine lv_iconst (v := 2) hx hb dL_law_245 (by decide) ?_
  refine lv_iadd hx hb dL_law_246 ?_
  refine va_sld hx hb hXs hbl hbA hw.2.2 (law_in hi hn hL (j := 2) (by decide) (by decide)) dL_law_247 ?_
  refine xj_i (xrV (As := [.int (xs (i + (1 : Int32)).toNatClampNeg), .int (xs (i + (2 : Int32)).toNatClampNeg)]) (rest := []) ⟨hx, hb, hml, hown, hts⟩ (m_X8_of l dC dI _ (h 0) (h 1) (h 3) (h 4) (h 6) (h 7) (h 8) (h 10) (h 11) (h 12) (h 13) (h 5) (q 0) (k 0) (q 3) (k 3) (q 4) (k 4) (q 5) (k 5) (q 6) (k 6) (S 0) (S 3) (S 4) (S 5) (S 6) pl (xs (i + (1 : Int32)).toNatClampNeg) (xs (i + (2 : Int32)).toNatClampNeg) y1 h1) kw524 kw521 kw522 kw523 kw110 hd_X8_of ⟨rfl, rfl⟩ rfl rfl ⟨hc, hs⟩ hX hK hw [0, 3, 4, 5, 6, 14] (by decide) rfl rfl rfl rfl rfl hl.1 rfl rfl dL_law_248) hw hA [0, 3, 4, 5, 6, 14] (by decide) rfl rfl (fun H locs hw => ?_)
  have hw : Wd dC dI A s.heap (LW h q k (fset S 3 y1.2) pl im0 im1) H locs := hw
  refine lv_pop hx hb dL_law_251 rfl ?_
  exact kk H locs hw

set_option maxHeartbeats 4000000 in
set_option maxRecDepth 100000 in
theorem lm_1 {p : Program} {l : Launch} {e : Env} {s : State} {m : MethodId} {below : List Frame} {meth : Method} {c : Code} {b L : Nat} {xs : Nat → Int32} {A : Nat → Prop} {dC : Nat → ClassId} {dI : Nat → Nat → Nat} {Q : State → Prop} {H : Heap} {locs : List Loc} {ls : Array Slot} {cells slots : Nat} {h : Nat → Nat} {q : Nat → Nat → Nat} {k : Nat → Nat → ClassId} {S : Nat → Ob} {pl : List CR} {im0 im1 : Option IR} {i : Int32} {n : Nat} (hx : p.tables.exec = Jvm.exec) (hb : c.code = code) (hml : c.maxLocals = 4) (hown : s.vm.findClass RL = some m.cls) (hts : ∀ w ∈ gt, w.before #[Value.ref b] s = true) (hX : wX s ∧ wT dI A s) (hXs : va_X b L xs s s.heap) (hbl : b < s.heap.size) (hbA : ¬ A b) (hA : ∀ q, s.heap.size ≤ q → A q) (hi : i.toInt = (n : Int)) (hn : n + 6 ≤ L) (hL : L ≤ 3072) (hc : cells.ble 600000 = true) (hs : slots.ble 7302250 = true) (hK : va_K (dC, dI) vwCl (Jt (LT k pl im0 im1)) s) (hw : Wd dC dI A s.heap (LW h q k S pl im0 im1) H locs) (hl : lv_has ls 4 [(0, .ref b), (1, .ref (h 0)), (2, .ref (h 14)), (3, .int i)]) (y2 : Int32 × Ob) (h2 : f_X9_of (S 14) (xs (i + (1 : Int32)).toNatClampNeg) (xs (i + (2 : Int32)).toNatClampNeg) = some y2) (kk : ∀ (H : Heap) (locs : List Loc), Wd dC dI A s.heap (LW h q k (fset S 14 y2.2) pl im0 im1) H locs → W p l e room_1 s m #[Value.ref b] below meth c H locs cells slots Q (F0 m 1181 ls [])) : W p l e room_1 s m #[Value.ref b] below meth c H locs cells slots Q (F0 m 252 ls []) := by
  refine lv_aload_n hx hb dL_law_252 rfl (lv_at hl 2 rfl) ?_
  refine lv_aload_n hx hb dL_law_253 rfl (lv_at hl 0 rfl) ?_
  refine lv_iload_n hx hb dL_law_254 rfl (lv_at hl 3 rfl) ?_
  refine lv_iconst (v := 1) hx hb dL_law_255 (by decide) ?_
  refine lv_iadd hx hb dL_law_256 ?_
  refine va_sld hx hb hXs hbl hbA hw.2.2 (law_in hi hn hL (j := 1) (by decide) (by decide)) dL_law_257 ?_
  refine lv_aload_n hx hb dL_law_258 rfl (lv_at hl 0 rfl) ?_
  refine lv_iload_n hx hb dL_law_259 rfl (lv_at hl 3 rfl) ?_
  refine lv_iconst (v := 2) hx hb dL_law_260 (by decide) ?_
  refine lv_iadd hx hb dL_law_261 ?_
  refine va_sld hx hb hXs hbl hbA hw.2.2 (law_in hi hn hL (j := 2) (by decide) (by decide)) dL_law_262 ?_
  refine xj_i (xrV (As := [.int (xs (i + (1 : Int32)).toNatClampNeg), .int (xs (i + (2 : Int32)).toNatClampNeg)]) (rest := []) ⟨hx, hb, hml, hown, hts⟩ (m_X9_of l dC dI _ (h 14) (q 14) (k 14) (S 14) (xs (i + (1 : Int32)).toNatClampNeg) (xs (i + (2 : Int32)).toNatClampNeg) y2 h2) kw1406 kw1403 kw1404 kw1405 kw120 hd_X9_of ⟨rfl, rfl⟩ rfl rfl ⟨hc, hs⟩ hX hK hw [19] (by decide) rfl rfl rfl rfl rfl hl.1 rfl rfl dL_law_263) hw hA [19] (by decide) rfl rfl (fun H locs hw => ?_)
  have hw : Wd dC dI A s.heap (LW h q k (fset S 14 y2.2) pl im0 im1) H locs := hw
  refine lv_pop hx hb dL_law_266 rfl ?_
  refine lv_goto (tgt := 1181) hx hb dL_law_267 (by decide) ?_
  exact kk H locs hw

set_option maxHeartbeats 4000000 in
set_option maxRecDepth 100000 in
theorem lx_2 {p : Program} {l : Launch} {e : Env} {s : State} {m : MethodId} {below : List Frame} {meth : Method} {c : Code} {b L : Nat} {xs : Nat → Int32} {A : Nat → Prop} {dC : Nat → ClassId} {dI : Nat → Nat → Nat} {Q : State → Prop} {H : Heap} {locs : List Loc} {ls : Array Slot} {cells slots : Nat} {h : Nat → Nat} {q : Nat → Nat → Nat} {k : Nat → Nat → ClassId} {S : Nat → Ob} {pl : List CR} {im0 im1 : Option IR} {i : Int32} {n : Nat} (hx : p.tables.exec = Jvm.exec) (hb : c.code = code) (hml : c.maxLocals = 4) (hown : s.vm.findClass RL = some m.cls) (hts : ∀ w ∈ gt, w.before #[Value.ref b] s = true) (hX : wX s ∧ wT dI A s) (hXs : va_X b L xs s s.heap) (hbl : b < s.heap.size) (hbA : ¬ A b) (hA : ∀ q, s.heap.size ≤ q → A q) (hi : i.toInt = (n : Int)) (hn : n + 6 ≤ L) (hL : L ≤ 3072) (hc : cells.ble 600000 = true) (hs : slots.ble 7302250 = true) (hK : va_K (dC, dI) vwCl (Jt (LT k pl im0 im1)) s) (hw : Wd dC dI A s.heap (LW h q k S pl im0 im1) H locs) (hl : lv_has ls 4 [(0, .ref b), (1, .ref (h 0)), (2, .ref (h 14)), (3, .int i)]) (y1 : Int32 × Ob × Ob) (h1 : f_X8_strength (S 0) (S 4) (xs (i + (1 : Int32)).toNatClampNeg) (xs (i + (2 : Int32)).toNatClampNeg) (xs (i + (3 : Int32)).toNatClampNeg) = some y1) (kk : ∀ (H : Heap) (locs : List Loc), Wd dC dI A s.heap (LW h q k (fset (fset S 0 y1.2.1) 4 y1.2.2) pl im0 im1) H locs → W p l e room_1 s m #[Value.ref b] below meth c H locs cells slots Q (F0 m 290 ls [])) : W p l e room_1 s m #[Value.ref b] below meth c H locs cells slots Q (F0 m 270 ls []) := by
  refine lv_aload_n hx hb dL_law_270 rfl (lv_at hl 1 rfl) ?_
  refine lv_aload_n hx hb dL_law_271 rfl (lv_at hl 0 rfl) ?_
  refine lv_iload_n hx hb dL_law_272 rfl (lv_at hl 3 rfl) ?_
  refine lv_iconst (v := 1) hx hb dL_law_273 (by decide) ?_
  refine lv_iadd hx hb dL_law_274 ?_
  refine va_sld hx hb hXs hbl hbA hw.2.2 (law_in hi hn hL (j := 1) (by decide) (by decide)) dL_law_275 ?_
  refine lv_aload_n hx hb dL_law_276 rfl (lv_at hl 0 rfl) ?_
  refine lv_iload_n hx hb dL_law_277 rfl (lv_at hl 3 rfl) ?_
  refine lv_iconst (v := 2) hx hb dL_law_278 (by decide) ?_
  refine lv_iadd hx hb dL_law_279 ?_
  refine va_sld hx hb hXs hbl hbA hw.2.2 (law_in hi hn hL (j := 2) (by decide) (by decide)) dL_law_280 ?_
  refine lv_aload_n hx hb dL_law_281 rfl (lv_at hl 0 rfl) ?_
  refine lv_iload_n hx hb dL_law_282 rfl (lv_at hl 3 rfl) ?_
  refine lv_iconst (v := 3) hx hb dL_law_283 (by decide) ?_
  refine lv_iadd hx hb dL_law_284 ?_
  refine va_sld hx hb hXs hbl hbA hw.2.2 (law_in hi hn hL (j := 3) (by decide) (by decide)) dL_law_285 ?_
  refine xj_i (xrV (As := [.int (xs (i + (1 : Int32)).toNatClampNeg), .int (xs (i + (2 : Int32)).toNatClampNeg), .int (xs (i + (3 : Int32)).toNatClampNeg)]) (rest := []) ⟨hx, hb, hml, hown, hts⟩ (m_X8_strength l dC dI _ (h 0) (h 1) (h 3) (h 4) (h 6) (h 7) (h 8) (h 10) (h 11) (h 12) (h 13) (h 5) (q 0) (k 0) (q 4) (k 4) (S 0) (S 4) (xs (i + (1 : Int32)).toNatClampNeg) (xs (i + (2 : Int32)).toNatClampNeg) (xs (i + (3 : Int32)).toNatClampNeg) y1 h1) kw593 kw590 kw591 kw592 kw110 hd_X8_strength ⟨rfl, rfl⟩ rfl rfl ⟨hc, hs⟩ hX hK hw [0, 4] (by decide) rfl rfl rfl rfl rfl hl.1 rfl rfl dL_law_286) hw hA [0, 4] (by decide) rfl rfl (fun H locs hw => ?_)
  have hw : Wd dC dI A s.heap (LW h q k (fset (fset S 0 y1.2.1) 4 y1.2.2) pl im0 im1) H locs := hw
  refine lv_pop hx hb dL_law_289 rfl ?_
  exact kk H locs hw

set_option maxHeartbeats 4000000 in
set_option maxRecDepth 100000 in
theorem lm_2 {p : Program} {l : Launch} {e : Env} {s : State} {m : MethodId} {below : List Frame} {meth : Method} {c : Code} {b L : Nat} {xs : Nat → Int32} {A : Nat → Prop} {dC : Nat → ClassId} {dI : Nat → Nat → Nat} {Q : State → Prop} {H : Heap} {locs : List Loc} {ls : Array Slot} {cells slots : Nat} {h : Nat → Nat} {q : Nat → Nat → Nat} {k : Nat → Nat → ClassId} {S : Nat → Ob} {pl : List CR} {im0 im1 : Option IR} {i : Int32} {n : Nat} (hx : p.tables.exec = Jvm.exec) (hb : c.code = code) (hml : c.maxLocals = 4) (hown : s.vm.findClass RL = some m.cls) (hts : ∀ w ∈ gt, w.before #[Value.ref b] s = true) (hX : wX s ∧ wT dI A s) (hXs : va_X b L xs s s.heap) (hbl : b < s.heap.size) (hbA : ¬ A b) (hA : ∀ q, s.heap.size ≤ q → A q) (hi : i.toInt = (n : Int)) (hn : n + 6 ≤ L) (hL : L ≤ 3072) (hc : cells.ble 600000 = true) (hs : slots.ble 7302250 = true) (hK : va_K (dC, dI) vwCl (Jt (LT k pl im0 im1)) s) (hw : Wd dC dI A s.heap (LW h q k S pl im0 im1) H locs) (hl : lv_has ls 4 [(0, .ref b), (1, .ref (h 0)), (2, .ref (h 14)), (3, .int i)]) (y2 : Int32 × Ob) (h2 : f_X9_strength (S 14) (xs (i + (1 : Int32)).toNatClampNeg) (xs (i + (2 : Int32)).toNatClampNeg) (xs (i + (3 : Int32)).toNatClampNeg) = some y2) (kk : ∀ (H : Heap) (locs : List Loc), Wd dC dI A s.heap (LW h q k (fset S 14 y2.2) pl im0 im1) H locs → W p l e room_1 s m #[Value.ref b] below meth c H locs cells slots Q (F0 m 1181 ls [])) : W p l e room_1 s m #[Value.ref b] below meth c H locs cells slots Q (F0 m 290 ls []) := by
  refine lv_aload_n hx hb dL_law_290 rfl (lv_at hl 2 rfl) ?_
  refine lv_aload_n hx hb dL_law_291 rfl (lv_at hl 0 rfl) ?_
  refine lv_iload_n hx hb dL_law_292 rfl (lv_at hl 3 rfl) ?_
  refine lv_iconst (v := 1) hx hb dL_law_293 (by decide) ?_
  refine lv_iadd hx hb dL_law_294 ?_
  refine va_sld hx hb hXs hbl hbA hw.2.2 (law_in hi hn hL (j := 1) (by decide) (by decide)) dL_law_295 ?_
  refine lv_aload_n hx hb dL_law_296 rfl (lv_at hl 0 rfl) ?_
  refine lv_iload_n hx hb dL_law_297 rfl (lv_at hl 3 rfl) ?_
  refine lv_iconst (v := 2) hx hb dL_law_298 (by decide) ?_
  refine lv_iadd hx hb dL_law_299 ?_
  refine va_sld hx hb hXs hbl hbA hw.2.2 (law_in hi hn hL (j := 2) (by decide) (by decide)) dL_law_300 ?_
  refine lv_aload_n hx hb dL_law_301 rfl (lv_at hl 0 rfl) ?_
  refine lv_iload_n hx hb dL_law_302 rfl (lv_at hl 3 rfl) ?_
  refine lv_iconst (v := 3) hx hb dL_law_303 (by decide) ?_
  refine lv_iadd hx hb dL_law_304 ?_
  refine va_sld hx hb hXs hbl hbA hw.2.2 (law_in hi hn hL (j := 3) (by decide) (by decide)) dL_law_305 ?_
  refine xj_i (xrV (As := [.int (xs (i + (1 : Int32)).toNatClampNeg), .int (xs (i + (2 : Int32)).toNatClampNeg), .int (xs (i + (3 : Int32)).toNatClampNeg)]) (rest := []) ⟨hx, hb, hml, hown, hts⟩ (m_X9_strength l dC dI _ (h 14) (q 14) (k 14) (S 14) (xs (i + (1 : Int32)).toNatClampNeg) (xs (i + (2 : Int32)).toNatClampNeg) (xs (i + (3 : Int32)).toNatClampNeg) y2 h2) kw1441 kw1438 kw1439 kw1440 kw120 hd_X9_strength ⟨rfl, rfl⟩ rfl rfl ⟨hc, hs⟩ hX hK hw [19] (by decide) rfl rfl rfl rfl rfl hl.1 rfl rfl dL_law_306) hw hA [19] (by decide) rfl rfl (fun H locs hw => ?_)
  have hw : Wd dC dI A s.heap (LW h q k (fset S 14 y2.2) pl im0 im1) H locs := hw
  refine lv_pop hx hb dL_law_309 rfl ?_
  refine lv_goto (tgt := 1181) hx hb dL_law_310 (by decide) ?_
  exact kk H locs hw

set_option maxHeartbeats 4000000 in
set_option maxRecDepth 100000 in
theorem lx_3 {p : Program} {l : Launch} {e : Env} {s : State} {m : MethodId} {below : List Frame} {meth : Method} {c : Code} {b L : Nat} {xs : Nat → Int32} {A : Nat → Prop} {dC : Nat → ClassId} {dI : Nat → Nat → Nat} {Q : State → Prop} {H : Heap} {locs : List Loc} {ls : Array Slot} {cells slots : Nat} {h : Nat → Nat} {q : Nat → Nat → Nat} {k : Nat → Nat → ClassId} {S : Nat → Ob} {pl : List CR} {im0 im1 : Option IR} {i : Int32} {n : Nat} (hx : p.tables.exec = Jvm.exec) (hb : c.code = code) (hml : c.maxLocals = 4) (hown : s.vm.findClass RL = some m.cls) (hts : ∀ w ∈ gt, w.before #[Value.ref b] s = true) (hX : wX s ∧ wT dI A s) (hXs : va_X b L xs s s.heap) (hbl : b < s.heap.size) (hbA : ¬ A b) (hA : ∀ q, s.heap.size ≤ q → A q) (hi : i.toInt = (n : Int)) (hn : n + 6 ≤ L) (hL : L ≤ 3072) (hc : cells.ble 600000 = true) (hs : slots.ble 7302250 = true) (hK : va_K (dC, dI) vwCl (Jt (LT k pl im0 im1)) s) (hw : Wd dC dI A s.heap (LW h q k S pl im0 im1) H locs) (hl : lv_has ls 4 [(0, .ref b), (1, .ref (h 0)), (2, .ref (h 14)), (3, .int i)]) (y1 : Int32 × Ob × Ob) (h1 : f_X8_beats (S 0) (S 4) (xs (i + (1 : Int32)).toNatClampNeg) (xs (i + (2 : Int32)).toNatClampNeg) (xs (i + (3 : Int32)).toNatClampNeg) = some y1) (kk : ∀ (H : Heap) (locs : List Loc), Wd dC dI A s.heap (LW h q k (fset (fset S 0 y1.2.1) 4 y1.2.2) pl im0 im1) H locs → W p l e room_1 s m #[Value.ref b] below meth c H locs cells slots Q (F0 m 333 ls [])) : W p l e room_1 s m #[Value.ref b] below meth c H locs cells slots Q (F0 m 313 ls []) := by
  refine lv_aload_n hx hb dL_law_313 rfl (lv_at hl 1 rfl) ?_
  refine lv_aload_n hx hb dL_law_314 rfl (lv_at hl 0 rfl) ?_
  refine lv_iload_n hx hb dL_law_315 rfl (lv_at hl 3 rfl) ?_
  refine lv_iconst (v := 1) hx hb dL_law_316 (by decide) ?_
  refine lv_iadd hx hb dL_law_317 ?_
  refine va_sld hx hb hXs hbl hbA hw.2.2 (law_in hi hn hL (j := 1) (by decide) (by decide)) dL_law_318 ?_
  refine lv_aload_n hx hb dL_law_319 rfl (lv_at hl 0 rfl) ?_
  refine lv_iload_n hx hb dL_law_320 rfl (lv_at hl 3 rfl) ?_
  refine lv_iconst (v := 2) hx hb dL_law_321 (by decide) ?_
  refine lv_iadd hx hb dL_law_322 ?_
  refine va_sld hx hb hXs hbl hbA hw.2.2 (law_in hi hn hL (j := 2) (by decide) (by decide)) dL_law_323 ?_
  refine lv_aload_n hx hb dL_law_324 rfl (lv_at hl 0 rfl) ?_
  refine lv_iload_n hx hb dL_law_325 rfl (lv_at hl 3 rfl) ?_
  refine lv_iconst (v := 3) hx hb dL_law_326 (by decide) ?_
  refine lv_iadd hx hb dL_law_327 ?_
  refine va_sld hx hb hXs hbl hbA hw.2.2 (law_in hi hn hL (j := 3) (by decide) (by decide)) dL_law_328 ?_
  refine xj_i (xrV (As := [.int (xs (i + (1 : Int32)).toNatClampNeg), .int (xs (i + (2 : Int32)).toNatClampNeg), .int (xs (i + (3 : Int32)).toNatClampNeg)]) (rest := []) ⟨hx, hb, hml, hown, hts⟩ (m_X8_beats l dC dI _ (h 0) (h 1) (h 3) (h 4) (h 6) (h 7) (h 8) (h 10) (h 11) (h 12) (h 13) (h 5) (q 0) (k 0) (q 4) (k 4) (S 0) (S 4) (xs (i + (1 : Int32)).toNatClampNeg) (xs (i + (2 : Int32)).toNatClampNeg) (xs (i + (3 : Int32)).toNatClampNeg) y1 h1) kw597 kw594 kw595 kw596 kw110 hd_X8_beats ⟨rfl, rfl⟩ rfl rfl ⟨hc, hs⟩ hX hK hw [0, 4] (by decide) rfl rfl rfl rfl rfl hl.1 rfl rfl dL_law_329) hw hA [0, 4] (by decide) rfl rfl (fun H locs hw => ?_)
  have hw : Wd dC dI A s.heap (LW h q k (fset (fset S 0 y1.2.1) 4 y1.2.2) pl im0 im1) H locs := hw
  refine lv_pop hx hb dL_law_332 rfl ?_
  exact kk H locs hw

set_option maxHeartbeats 4000000 in
set_option maxRecDepth 100000 in
theorem lm_3 {p : Program} {l : Launch} {e : Env} {s : State} {m : MethodId} {below : List Frame} {meth : Method} {c : Code} {b L : Nat} {xs : Nat → Int32} {A : Nat → Prop} {dC : Nat → ClassId} {dI : Nat → Nat → Nat} {Q : State → Prop} {H : Heap} {locs : List Loc} {ls : Array Slot} {cells slots : Nat} {h : Nat → Nat} {q : Nat → Nat → Nat} {k : Nat → Nat → ClassId} {S : Nat → Ob} {pl : List CR} {im0 im1 : Option IR} {i : Int32} {n : Nat} (hx : p.tables.exec = Jvm.exec) (hb : c.code = code) (hml : c.maxLocals = 4) (hown : s.vm.findClass RL = some m.cls) (hts : ∀ w ∈ gt, w.before #[Value.ref b] s = true) (hX : wX s ∧ wT dI A s) (hXs : va_X b L xs s s.heap) (hbl : b < s.heap.size) (hbA : ¬ A b) (hA : ∀ q, s.heap.size ≤ q → A q) (hi : i.toInt = (n : Int)) (hn : n + 6 ≤ L) (hL : L ≤ 3072) (hc : cells.ble 600000 = true) (hs : slots.ble 7302250 = true) (hK : va_K (dC, dI) vwCl (Jt (LT k pl im0 im1)) s) (hw : Wd dC dI A s.heap (LW h q k S pl im0 im1) H locs) (hl : lv_has ls 4 [(0, .ref b), (1, .ref (h 0)), (2, .ref (h 14)), (3, .int i)]) (y2 : Int32 × Ob) (h2 : f_X9_beats (S 14) (xs (i + (1 : Int32)).toNatClampNeg) (xs (i + (2 : Int32)).toNatClampNeg) (xs (i + (3 : Int32)).toNatClampNeg) = some y2) (kk : ∀ (H : Heap) (locs : List Loc), Wd dC dI A s.heap (LW h q k (fset S 14 y2.2) pl im0 im1) H locs → W p l e room_1 s m #[Value.ref b] below meth c H locs cells slots Q (F0 m 1181 ls [])) : W p l e room_1 s m #[Value.ref b] below meth c H locs cells slots Q (F0 m 333 ls []) := by
  refine lv_aload_n hx hb dL_law_333 rfl (lv_at hl 2 rfl) ?_
  refine lv_aload_n hx hb dL_law_334 rfl (lv_at hl 0 rfl) ?_
  refine lv_iload_n hx hb dL_law_335 rfl (lv_at hl 3 rfl) ?_
  refine lv_iconst (v := 1) hx hb dL_law_336 (by decide) ?_
  refine lv_iadd hx hb dL_law_337 ?_
  refine va_sld hx hb hXs hbl hbA hw.2.2 (law_in hi hn hL (j := 1) (by decide) (by decide)) dL_law_338 ?_
  refine lv_aload_n hx hb dL_law_339 rfl (lv_at hl 0 rfl) ?_
  refine lv_iload_n hx hb dL_law_340 rfl (lv_at hl 3 rfl) ?_
  refine lv_iconst (v := 2) hx hb dL_law_341 (by decide) ?_
  refine lv_iadd hx hb dL_law_342 ?_
  refine va_sld hx hb hXs hbl hbA hw.2.2 (law_in hi hn hL (j := 2) (by decide) (by decide)) dL_law_343 ?_
  refine lv_aload_n hx hb dL_law_344 rfl (lv_at hl 0 rfl) ?_
  refine lv_iload_n hx hb dL_law_345 rfl (lv_at hl 3 rfl) ?_
  refine lv_iconst (v := 3) hx hb dL_law_346 (by decide) ?_
  refine lv_iadd hx hb dL_law_347 ?_
  refine va_sld hx hb hXs hbl hbA hw.2.2 (law_in hi hn hL (j := 3) (by decide) (by decide)) dL_law_348 ?_
  refine xj_i (xrV (As := [.int (xs (i + (1 : Int32)).toNatClampNeg), .int (xs (i + (2 : Int32)).toNatClampNeg), .int (xs (i + (3 : Int32)).toNatClampNeg)]) (rest := []) ⟨hx, hb, hml, hown, hts⟩ (m_X9_beats l dC dI _ (h 14) (q 14) (k 14) (S 14) (xs (i + (1 : Int32)).toNatClampNeg) (xs (i + (2 : Int32)).toNatClampNeg) (xs (i + (3 : Int32)).toNatClampNeg) y2 h2) kw1453 kw1450 kw1451 kw1452 kw120 hd_X9_beats ⟨rfl, rfl⟩ rfl rfl ⟨hc, hs⟩ hX hK hw [19] (by decide) rfl rfl rfl rfl rfl hl.1 rfl rfl dL_law_349) hw hA [19] (by decide) rfl rfl (fun H locs hw => ?_)
  have hw : Wd dC dI A s.heap (LW h q k (fset S 14 y2.2) pl im0 im1) H locs := hw
  refine lv_pop hx hb dL_law_352 rfl ?_
  refine lv_goto (tgt := 1181) hx hb dL_law_353 (by decide) ?_
  exact kk H locs hw

set_option maxHeartbeats 4000000 in
set_option maxRecDepth 100000 in
theorem lx_4 {p : Program} {l : Launch} {e : Env} {s : State} {m : MethodId} {below : List Frame} {meth : Method} {c : Code} {b L : Nat} {xs : Nat → Int32} {A : Nat → Prop} {dC : Nat → ClassId} {dI : Nat → Nat → Nat} {Q : State → Prop} {H : Heap} {locs : List Loc} {ls : Array Slot} {cells slots : Nat} {h : Nat → Nat} {q : Nat → Nat → Nat} {k : Nat → Nat → ClassId} {S : Nat → Ob} {pl : List CR} {im0 im1 : Option IR} {i : Int32} {n : Nat} (hx : p.tables.exec = Jvm.exec) (hb : c.code = code) (hml : c.maxLocals = 4) (hown : s.vm.findClass RL = some m.cls) (hts : ∀ w ∈ gt, w.before #[Value.ref b] s = true) (hX : wX s ∧ wT dI A s) (hXs : va_X b L xs s s.heap) (hbl : b < s.heap.size) (hbA : ¬ A b) (hA : ∀ q, s.heap.size ≤ q → A q) (hi : i.toInt = (n : Int)) (hn : n + 6 ≤ L) (hL : L ≤ 3072) (hc : cells.ble 600000 = true) (hs : slots.ble 7302250 = true) (hK : va_K (dC, dI) vwCl (Jt (LT k pl im0 im1)) s) (hw : Wd dC dI A s.heap (LW h q k S pl im0 im1) H locs) (hl : lv_has ls 4 [(0, .ref b), (1, .ref (h 0)), (2, .ref (h 14)), (3, .int i)]) (y1 : Int32 × Ob × Ob) (h1 : f_X8_placed (S 0) (S 3) (S 4) (S 5) (S 6) pl (xs (i + (1 : Int32)).toNatClampNeg) (xs (i + (2 : Int32)).toNatClampNeg) = some y1) (kk : ∀ (H : Heap) (locs : List Loc), Wd dC dI A s.heap (LW h q k (fset (fset S 3 y1.2.1) 6 y1.2.2) pl im0 im1) H locs → W p l e room_1 s m #[Value.ref b] below meth c H locs cells slots Q (F0 m 371 ls [])) : W p l e room_1 s m #[Value.ref b] below meth c H locs cells slots Q (F0 m 356 ls []) := by
  refine lv_aload_n hx hb dL_law_356 rfl (lv_at hl 1 rfl) ?_
  refine lv_aload_n hx hb dL_law_357 rfl (lv_at hl 0 rfl) ?_
  refine lv_iload_n hx hb dL_law_358 rfl (lv_at hl 3 rfl) ?_
  refine lv_iconst (v := 1) hx hb dL_law_359 (by decide) ?_
  refine lv_iadd hx hb dL_law_360 ?_
  refine va_sld hx hb hXs hbl hbA hw.2.2 (law_in hi hn hL (j := 1) (by decide) (by decide)) dL_law_361 ?_
  refine lv_aload_n hx hb dL_law_362 rfl (lv_at hl 0 rfl) ?_
  refine lv_iload_n hx hb dL_law_363 rfl (lv_at hl 3 rfl) ?_
  refine lv_iconst (v := 2) hx hb dL_law_364 (by decide) ?_
  refine lv_iadd hx hb dL_law_365 ?_
  refine va_sld hx hb hXs hbl hbA hw.2.2 (law_in hi hn hL (j := 2) (by decide) (by decide)) dL_law_366 ?_
  refine xj_i (xrV (As := [.int (xs (i + (1 : Int32)).toNatClampNeg), .int (xs (i + (2 : Int32)).toNatClampNeg)]) (rest := []) ⟨hx, hb, hml, hown, hts⟩ (m_X8_placed l dC dI _ (h 0) (h 1) (h 3) (h 4) (h 6) (h 7) (h 8) (h 10) (h 11) (h 12) (h 13) (h 5) (q 0) (k 0) (q 3) (k 3) (q 4) (k 4) (q 5) (k 5) (q 6) (k 6) (S 0) (S 3) (S 4) (S 5) (S 6) pl (xs (i + (1 : Int32)).toNatClampNeg) (xs (i + (2 : Int32)).toNatClampNeg) y1 h1) kw601 kw598 kw599 kw600 kw110 hd_X8_placed ⟨rfl, rfl⟩ rfl rfl ⟨hc, hs⟩ hX hK hw [0, 3, 4, 5, 6, 14] (by decide) rfl rfl rfl rfl rfl hl.1 rfl rfl dL_law_367) hw hA [0, 3, 4, 5, 6, 14] (by decide) rfl rfl (fun H locs hw => ?_)
  have hw : Wd dC dI A s.heap (LW h q k (fset (fset S 3 y1.2.1) 6 y1.2.2) pl im0 im1) H locs := hw
  refine lv_pop hx hb dL_law_370 rfl ?_
  exact kk H locs hw

set_option maxHeartbeats 4000000 in
set_option maxRecDepth 100000 in
theorem lm_4 {p : Program} {l : Launch} {e : Env} {s : State} {m : MethodId} {below : List Frame} {meth : Method} {c : Code} {b L : Nat} {xs : Nat → Int32} {A : Nat → Prop} {dC : Nat → ClassId} {dI : Nat → Nat → Nat} {Q : State → Prop} {H : Heap} {locs : List Loc} {ls : Array Slot} {cells slots : Nat} {h : Nat → Nat} {q : Nat → Nat → Nat} {k : Nat → Nat → ClassId} {S : Nat → Ob} {pl : List CR} {im0 im1 : Option IR} {i : Int32} {n : Nat} (hx : p.tables.exec = Jvm.exec) (hb : c.code = code) (hml : c.maxLocals = 4) (hown : s.vm.findClass RL = some m.cls) (hts : ∀ w ∈ gt, w.before #[Value.ref b] s = true) (hX : wX s ∧ wT dI A s) (hXs : va_X b L xs s s.heap) (hbl : b < s.heap.size) (hbA : ¬ A b) (hA : ∀ q, s.heap.size ≤ q → A q) (hi : i.toInt = (n : Int)) (hn : n + 6 ≤ L) (hL : L ≤ 3072) (hc : cells.ble 600000 = true) (hs : slots.ble 7302250 = true) (hK : va_K (dC, dI) vwCl (Jt (LT k pl im0 im1)) s) (hw : Wd dC dI A s.heap (LW h q k S pl im0 im1) H locs) (hl : lv_has ls 4 [(0, .ref b), (1, .ref (h 0)), (2, .ref (h 14)), (3, .int i)]) (y2 : Int32 × Ob) (h2 : f_X9_placed (S 14) (xs (i + (1 : Int32)).toNatClampNeg) (xs (i + (2 : Int32)).toNatClampNeg) = some y2) (kk : ∀ (H : Heap) (locs : List Loc), Wd dC dI A s.heap (LW h q k (fset S 14 y2.2) pl im0 im1) H locs → W p l e room_1 s m #[Value.ref b] below meth c H locs cells slots Q (F0 m 1181 ls [])) : W p l e room_1 s m #[Value.ref b] below meth c H locs cells slots Q (F0 m 371 ls []) := by
  refine lv_aload_n hx hb dL_law_371 rfl (lv_at hl 2 rfl) ?_
  refine lv_aload_n hx hb dL_law_372 rfl (lv_at hl 0 rfl) ?_
  refine lv_iload_n hx hb dL_law_373 rfl (lv_at hl 3 rfl) ?_
  refine lv_iconst (v := 1) hx hb dL_law_374 (by decide) ?_
  refine lv_iadd hx hb dL_law_375 ?_
  refine va_sld hx hb hXs hbl hbA hw.2.2 (law_in hi hn hL (j := 1) (by decide) (by decide)) dL_law_376 ?_
  refine lv_aload_n hx hb dL_law_377 rfl (lv_at hl 0 rfl) ?_
  refine lv_iload_n hx hb dL_law_378 rfl (lv_at hl 3 rfl) ?_
  refine lv_iconst (v := 2) hx hb dL_law_379 (by decide) ?_
  refine lv_iadd hx hb dL_law_380 ?_
  refine va_sld hx hb hXs hbl hbA hw.2.2 (law_in hi hn hL (j := 2) (by decide) (by decide)) dL_law_381 ?_
  refine xj_i (xrV (As := [.int (xs (i + (1 : Int32)).toNatClampNeg), .int (xs (i + (2 : Int32)).toNatClampNeg)]) (rest := []) ⟨hx, hb, hml, hown, hts⟩ (m_X9_placed l dC dI _ (h 14) (q 14) (k 14) (S 14) (xs (i + (1 : Int32)).toNatClampNeg) (xs (i + (2 : Int32)).toNatClampNeg) y2 h2) kw1457 kw1454 kw1455 kw1456 kw120 hd_X9_placed ⟨rfl, rfl⟩ rfl rfl ⟨hc, hs⟩ hX hK hw [19] (by decide) rfl rfl rfl rfl rfl hl.1 rfl rfl dL_law_382) hw hA [19] (by decide) rfl rfl (fun H locs hw => ?_)
  have hw : Wd dC dI A s.heap (LW h q k (fset S 14 y2.2) pl im0 im1) H locs := hw
  refine lv_pop hx hb dL_law_385 rfl ?_
  refine lv_goto (tgt := 1181) hx hb dL_law_386 (by decide) ?_
  exact kk H locs hw

set_option maxHeartbeats 4000000 in
set_option maxRecDepth 100000 in
theorem lx_5 {p : Program} {l : Launch} {e : Env} {s : State} {m : MethodId} {below : List Frame} {meth : Method} {c : Code} {b L : Nat} {xs : Nat → Int32} {A : Nat → Prop} {dC : Nat → ClassId} {dI : Nat → Nat → Nat} {Q : State → Prop} {H : Heap} {locs : List Loc} {ls : Array Slot} {cells slots : Nat} {h : Nat → Nat} {q : Nat → Nat → Nat} {k : Nat → Nat → ClassId} {S : Nat → Ob} {pl : List CR} {im0 im1 : Option IR} {i : Int32} {n : Nat} (hx : p.tables.exec = Jvm.exec) (hb : c.code = code) (hml : c.maxLocals = 4) (hown : s.vm.findClass RL = some m.cls) (hts : ∀ w ∈ gt, w.before #[Value.ref b] s = true) (hX : wX s ∧ wT dI A s) (hXs : va_X b L xs s s.heap) (hbl : b < s.heap.size) (hbA : ¬ A b) (hA : ∀ q, s.heap.size ≤ q → A q) (hi : i.toInt = (n : Int)) (hn : n + 6 ≤ L) (hL : L ≤ 3072) (hc : cells.ble 600000 = true) (hs : slots.ble 7302250 = true) (hK : va_K (dC, dI) vwCl (Jt (LT k pl im0 im1)) s) (hw : Wd dC dI A s.heap (LW h q k S pl im0 im1) H locs) (hl : lv_has ls 4 [(0, .ref b), (1, .ref (h 0)), (2, .ref (h 14)), (3, .int i)]) (y1 : Int32 × Ob × Ob × Ob × Ob) (h1 : f_X8_terms (S 0) (S 4) (S 5) (S 11) (xs (i + (1 : Int32)).toNatClampNeg) (xs (i + (2 : Int32)).toNatClampNeg) = some y1) (kk : ∀ (H : Heap) (locs : List Loc), Wd dC dI A s.heap (LW h q k (fset (fset (fset (fset S 0 y1.2.1) 4 y1.2.2.1) 5 y1.2.2.2.1) 11 y1.2.2.2.2) pl im0 im1) H locs → W p l e room_1 s m #[Value.ref b] below meth c H locs cells slots Q (F0 m 404 ls [])) : W p l e room_1 s m #[Value.ref b] below meth c H locs cells slots Q (F0 m 389 ls []) := by
  refine lv_aload_n hx hb dL_law_389 rfl (lv_at hl 1 rfl) ?_
  refine lv_aload_n hx hb dL_law_390 rfl (lv_at hl 0 rfl) ?_
  refine lv_iload_n hx hb dL_law_391 rfl (lv_at hl 3 rfl) ?_
  refine lv_iconst (v := 1) hx hb dL_law_392 (by decide) ?_
  refine lv_iadd hx hb dL_law_393 ?_
  refine va_sld hx hb hXs hbl hbA hw.2.2 (law_in hi hn hL (j := 1) (by decide) (by decide)) dL_law_394 ?_
  refine lv_aload_n hx hb dL_law_395 rfl (lv_at hl 0 rfl) ?_
  refine lv_iload_n hx hb dL_law_396 rfl (lv_at hl 3 rfl) ?_
  refine lv_iconst (v := 2) hx hb dL_law_397 (by decide) ?_
  refine lv_iadd hx hb dL_law_398 ?_
  refine va_sld hx hb hXs hbl hbA hw.2.2 (law_in hi hn hL (j := 2) (by decide) (by decide)) dL_law_399 ?_
  refine xj_i (xrV (As := [.int (xs (i + (1 : Int32)).toNatClampNeg), .int (xs (i + (2 : Int32)).toNatClampNeg)]) (rest := []) ⟨hx, hb, hml, hown, hts⟩ (m_X8_terms l dC dI _ (h 0) (h 1) (h 3) (h 4) (h 6) (h 7) (h 8) (h 10) (h 11) (h 12) (h 13) (h 5) (q 0) (k 0) (q 4) (k 4) (q 5) (k 5) (q 11) (k 11) (S 0) (S 4) (S 5) (S 11) (xs (i + (1 : Int32)).toNatClampNeg) (xs (i + (2 : Int32)).toNatClampNeg) y1 h1) kw619 kw616 kw617 kw618 kw110 hd_X8_terms ⟨rfl, rfl⟩ rfl rfl ⟨hc, hs⟩ hX hK hw [0, 4, 5, 11] (by decide) rfl rfl rfl rfl rfl hl.1 rfl rfl dL_law_400) hw hA [0, 4, 5, 11] (by decide) rfl rfl (fun H locs hw => ?_)
  have hw : Wd dC dI A s.heap (LW h q k (fset (fset (fset (fset S 0 y1.2.1) 4 y1.2.2.1) 5 y1.2.2.2.1) 11 y1.2.2.2.2) pl im0 im1) H locs := hw
  refine lv_pop hx hb dL_law_403 rfl ?_
  exact kk H locs hw

set_option maxHeartbeats 4000000 in
set_option maxRecDepth 100000 in
theorem lm_5 {p : Program} {l : Launch} {e : Env} {s : State} {m : MethodId} {below : List Frame} {meth : Method} {c : Code} {b L : Nat} {xs : Nat → Int32} {A : Nat → Prop} {dC : Nat → ClassId} {dI : Nat → Nat → Nat} {Q : State → Prop} {H : Heap} {locs : List Loc} {ls : Array Slot} {cells slots : Nat} {h : Nat → Nat} {q : Nat → Nat → Nat} {k : Nat → Nat → ClassId} {S : Nat → Ob} {pl : List CR} {im0 im1 : Option IR} {i : Int32} {n : Nat} (hx : p.tables.exec = Jvm.exec) (hb : c.code = code) (hml : c.maxLocals = 4) (hown : s.vm.findClass RL = some m.cls) (hts : ∀ w ∈ gt, w.before #[Value.ref b] s = true) (hX : wX s ∧ wT dI A s) (hXs : va_X b L xs s s.heap) (hbl : b < s.heap.size) (hbA : ¬ A b) (hA : ∀ q, s.heap.size ≤ q → A q) (hi : i.toInt = (n : Int)) (hn : n + 6 ≤ L) (hL : L ≤ 3072) (hc : cells.ble 600000 = true) (hs : slots.ble 7302250 = true) (hK : va_K (dC, dI) vwCl (Jt (LT k pl im0 im1)) s) (hw : Wd dC dI A s.heap (LW h q k S pl im0 im1) H locs) (hl : lv_has ls 4 [(0, .ref b), (1, .ref (h 0)), (2, .ref (h 14)), (3, .int i)]) (y2 : Int32 × Ob) (h2 : f_X9_terms (S 14) (xs (i + (1 : Int32)).toNatClampNeg) (xs (i + (2 : Int32)).toNatClampNeg) = some y2) (kk : ∀ (H : Heap) (locs : List Loc), Wd dC dI A s.heap (LW h q k (fset S 14 y2.2) pl im0 im1) H locs → W p l e room_1 s m #[Value.ref b] below meth c H locs cells slots Q (F0 m 1181 ls [])) : W p l e room_1 s m #[Value.ref b] below meth c H locs cells slots Q (F0 m 404 ls []) := by
  refine lv_aload_n hx hb dL_law_404 rfl (lv_at hl 2 rfl) ?_
  refine lv_aload_n hx hb dL_law_405 rfl (lv_at hl 0 rfl) ?_
  refine lv_iload_n hx hb dL_law_406 rfl (lv_at hl 3 rfl) ?_
  refine lv_iconst (v := 1) hx hb dL_law_407 (by decide) ?_
  refine lv_iadd hx hb dL_law_408 ?_
  refine va_sld hx hb hXs hbl hbA hw.2.2 (law_in hi hn hL (j := 1) (by decide) (by decide)) dL_law_409 ?_
  refine lv_aload_n hx hb dL_law_410 rfl (lv_at hl 0 rfl) ?_
  refine lv_iload_n hx hb dL_law_411 rfl (lv_at hl 3 rfl) ?_
  refine lv_iconst (v := 2) hx hb dL_law_412 (by decide) ?_
  refine lv_iadd hx hb dL_law_413 ?_
  refine va_sld hx hb hXs hbl hbA hw.2.2 (law_in hi hn hL (j := 2) (by decide) (by decide)) dL_law_414 ?_
  refine xj_i (xrV (As := [.int (xs (i + (1 : Int32)).toNatClampNeg), .int (xs (i + (2 : Int32)).toNatClampNeg)]) (rest := []) ⟨hx, hb, hml, hown, hts⟩ (m_X9_terms l dC dI _ (h 14) (q 14) (k 14) (S 14) (xs (i + (1 : Int32)).toNatClampNeg) (xs (i + (2 : Int32)).toNatClampNeg) y2 h2) kw1466 kw1463 kw1464 kw1465 kw120 hd_X9_terms ⟨rfl, rfl⟩ rfl rfl ⟨hc, hs⟩ hX hK hw [19] (by decide) rfl rfl rfl rfl rfl hl.1 rfl rfl dL_law_415) hw hA [19] (by decide) rfl rfl (fun H locs hw => ?_)
  have hw : Wd dC dI A s.heap (LW h q k (fset S 14 y2.2) pl im0 im1) H locs := hw
  refine lv_pop hx hb dL_law_418 rfl ?_
  refine lv_goto (tgt := 1181) hx hb dL_law_419 (by decide) ?_
  exact kk H locs hw

set_option maxHeartbeats 4000000 in
set_option maxRecDepth 100000 in
theorem lx_6 {p : Program} {l : Launch} {e : Env} {s : State} {m : MethodId} {below : List Frame} {meth : Method} {c : Code} {b L : Nat} {xs : Nat → Int32} {A : Nat → Prop} {dC : Nat → ClassId} {dI : Nat → Nat → Nat} {Q : State → Prop} {H : Heap} {locs : List Loc} {ls : Array Slot} {cells slots : Nat} {h : Nat → Nat} {q : Nat → Nat → Nat} {k : Nat → Nat → ClassId} {S : Nat → Ob} {pl : List CR} {im0 im1 : Option IR} {i : Int32} {n : Nat} (hx : p.tables.exec = Jvm.exec) (hb : c.code = code) (hml : c.maxLocals = 4) (hown : s.vm.findClass RL = some m.cls) (hts : ∀ w ∈ gt, w.before #[Value.ref b] s = true) (hX : wX s ∧ wT dI A s) (hXs : va_X b L xs s s.heap) (hbl : b < s.heap.size) (hbA : ¬ A b) (hA : ∀ q, s.heap.size ≤ q → A q) (hi : i.toInt = (n : Int)) (hn : n + 6 ≤ L) (hL : L ≤ 3072) (hc : cells.ble 600000 = true) (hs : slots.ble 7302250 = true) (hK : va_K (dC, dI) vwCl (Jt (LT k pl im0 im1)) s) (hw : Wd dC dI A s.heap (LW h q k S pl im0 im1) H locs) (hl : lv_has ls 4 [(0, .ref b), (1, .ref (h 0)), (2, .ref (h 14)), (3, .int i)]) (y1 : Int32 × Ob) (h1 : f_X8_feed (S 0) (S 1) (xs (i + (1 : Int32)).toNatClampNeg) (xs (i + (2 : Int32)).toNatClampNeg) (xs (i + (3 : Int32)).toNatClampNeg) (xs (i + (4 : Int32)).toNatClampNeg) (xs (i + (5 : Int32)).toNatClampNeg) = some y1) (kk : ∀ (H : Heap) (locs : List Loc), Wd dC dI A s.heap (LW h q k (fset S 1 y1.2) pl im0 im1) H locs → W p l e room_1 s m #[Value.ref b] below meth c H locs cells slots Q (F0 m 452 ls [])) : W p l e room_1 s m #[Value.ref b] below meth c H locs cells slots Q (F0 m 422 ls []) := by
  refine lv_aload_n hx hb dL_law_422 rfl (lv_at hl 1 rfl) ?_
  refine lv_aload_n hx hb dL_law_423 rfl (lv_at hl 0 rfl) ?_
  refine lv_iload_n hx hb dL_law_424 rfl (lv_at hl 3 rfl) ?_
  refine lv_iconst (v := 1) hx hb dL_law_425 (by decide) ?_
  refine lv_iadd hx hb dL_law_426 ?_
  refine va_sld hx hb hXs hbl hbA hw.2.2 (law_in hi hn hL (j := 1) (by decide) (by decide)) dL_law_427 ?_
  refine lv_aload_n hx hb dL_law_428 rfl (lv_at hl 0 rfl) ?_
  refine lv_iload_n hx hb dL_law_429 rfl (lv_at hl 3 rfl) ?_
  refine lv_iconst (v := 2) hx hb dL_law_430 (by decide) ?_
  refine lv_iadd hx hb dL_law_431 ?_
  refine va_sld hx hb hXs hbl hbA hw.2.2 (law_in hi hn hL (j := 2) (by decide) (by decide)) dL_law_432 ?_
  refine lv_aload_n hx hb dL_law_433 rfl (lv_at hl 0 rfl) ?_
  refine lv_iload_n hx hb dL_law_434 rfl (lv_at hl 3 rfl) ?_
  refine lv_iconst (v := 3) hx hb dL_law_435 (by decide) ?_
  refine lv_iadd hx hb dL_law_436 ?_
  refine va_sld hx hb hXs hbl hbA hw.2.2 (law_in hi hn hL (j := 3) (by decide) (by decide)) dL_law_437 ?_
  refine lv_aload_n hx hb dL_law_438 rfl (lv_at hl 0 rfl) ?_
  refine lv_iload_n hx hb dL_law_439 rfl (lv_at hl 3 rfl) ?_
  refine lv_iconst (v := 4) hx hb dL_law_440 (by decide) ?_
  refine lv_iadd hx hb dL_law_441 ?_
  refine va_sld hx hb hXs hbl hbA hw.2.2 (law_in hi hn hL (j := 4) (by decide) (by decide)) dL_law_442 ?_
  refine lv_aload_n hx hb dL_law_443 rfl (lv_at hl 0 rfl) ?_
  refine lv_iload_n hx hb dL_law_444 rfl (lv_at hl 3 rfl) ?_
  refine lv_iconst (v := 5) hx hb dL_law_445 (by decide) ?_
  refine lv_iadd hx hb dL_law_446 ?_
  refine va_sld hx hb hXs hbl hbA hw.2.2 (law_in hi hn hL (j := 5) (by decide) (by decide)) dL_law_447 ?_
  refine xj_i (xrV (As := [.int (xs (i + (1 : Int32)).toNatClampNeg), .int (xs (i + (2 : Int32)).toNatClampNeg), .int (xs (i + (3 : Int32)).toNatClampNeg), .int (xs (i + (4 : Int32)).toNatClampNeg), .int (xs (i + (5 : Int32)).toNatClampNeg)]) (rest := []) ⟨hx, hb, hml, hown, hts⟩ (m_X8_feed l dC dI _ (h 0) (h 1) (h 3) (h 4) (h 6) (h 7) (h 8) (h 10) (h 11) (h 12) (h 13) (h 2) (q 0) (k 0) (q 1) (k 1) (S 0) (S 1) (xs (i + (1 : Int32)).toNatClampNeg) (xs (i + (2 : Int32)).toNatClampNeg) (xs (i + (3 : Int32)).toNatClampNeg) (xs (i + (4 : Int32)).toNatClampNeg) (xs (i + (5 : Int32)).toNatClampNeg) y1 h1) kw631 kw628 kw629 kw630 kw110 hd_X8_feed ⟨rfl, rfl⟩ rfl rfl ⟨hc, hs⟩ hX hK hw [0, 1] (by decide) rfl rfl rfl rfl rfl hl.1 rfl rfl dL_law_448) hw hA [0, 1] (by decide) rfl rfl (fun H locs hw => ?_)
  have hw : Wd dC dI A s.heap (LW h q k (fset S 1 y1.2) pl im0 im1) H locs := hw
  refine lv_pop hx hb dL_law_451 rfl ?_
  exact kk H locs hw

set_option maxHeartbeats 4000000 in
set_option maxRecDepth 100000 in
theorem lm_6 {p : Program} {l : Launch} {e : Env} {s : State} {m : MethodId} {below : List Frame} {meth : Method} {c : Code} {b L : Nat} {xs : Nat → Int32} {A : Nat → Prop} {dC : Nat → ClassId} {dI : Nat → Nat → Nat} {Q : State → Prop} {H : Heap} {locs : List Loc} {ls : Array Slot} {cells slots : Nat} {h : Nat → Nat} {q : Nat → Nat → Nat} {k : Nat → Nat → ClassId} {S : Nat → Ob} {pl : List CR} {im0 im1 : Option IR} {i : Int32} {n : Nat} (hx : p.tables.exec = Jvm.exec) (hb : c.code = code) (hml : c.maxLocals = 4) (hown : s.vm.findClass RL = some m.cls) (hts : ∀ w ∈ gt, w.before #[Value.ref b] s = true) (hX : wX s ∧ wT dI A s) (hXs : va_X b L xs s s.heap) (hbl : b < s.heap.size) (hbA : ¬ A b) (hA : ∀ q, s.heap.size ≤ q → A q) (hi : i.toInt = (n : Int)) (hn : n + 6 ≤ L) (hL : L ≤ 3072) (hc : cells.ble 600000 = true) (hs : slots.ble 7302250 = true) (hK : va_K (dC, dI) vwCl (Jt (LT k pl im0 im1)) s) (hw : Wd dC dI A s.heap (LW h q k S pl im0 im1) H locs) (hl : lv_has ls 4 [(0, .ref b), (1, .ref (h 0)), (2, .ref (h 14)), (3, .int i)]) (y2 : Int32 × Ob) (h2 : f_X9_feed (S 14) (xs (i + (1 : Int32)).toNatClampNeg) (xs (i + (2 : Int32)).toNatClampNeg) (xs (i + (3 : Int32)).toNatClampNeg) (xs (i + (4 : Int32)).toNatClampNeg) (xs (i + (5 : Int32)).toNatClampNeg) = some y2) (kk : ∀ (H : Heap) (locs : List Loc), Wd dC dI A s.heap (LW h q k (fset S 14 y2.2) pl im0 im1) H locs → W p l e room_1 s m #[Value.ref b] below meth c H locs cells slots Q (F0 m 1181 ls [])) : W p l e room_1 s m #[Value.ref b] below meth c H locs cells slots Q (F0 m 452 ls []) := by
  refine lv_aload_n hx hb dL_law_452 rfl (lv_at hl 2 rfl) ?_
  refine lv_aload_n hx hb dL_law_453 rfl (lv_at hl 0 rfl) ?_
  refine lv_iload_n hx hb dL_law_454 rfl (lv_at hl 3 rfl) ?_
  refine lv_iconst (v := 1) hx hb dL_law_455 (by decide) ?_
  refine lv_iadd hx hb dL_law_456 ?_
  refine va_sld hx hb hXs hbl hbA hw.2.2 (law_in hi hn hL (j := 1) (by decide) (by decide)) dL_law_457 ?_
  refine lv_aload_n hx hb dL_law_458 rfl (lv_at hl 0 rfl) ?_
  refine lv_iload_n hx hb dL_law_459 rfl (lv_at hl 3 rfl) ?_
  refine lv_iconst (v := 2) hx hb dL_law_460 (by decide) ?_
  refine lv_iadd hx hb dL_law_461 ?_
  refine va_sld hx hb hXs hbl hbA hw.2.2 (law_in hi hn hL (j := 2) (by decide) (by decide)) dL_law_462 ?_
  refine lv_aload_n hx hb dL_law_463 rfl (lv_at hl 0 rfl) ?_
  refine lv_iload_n hx hb dL_law_464 rfl (lv_at hl 3 rfl) ?_
  refine lv_iconst (v := 3) hx hb dL_law_465 (by decide) ?_
  refine lv_iadd hx hb dL_law_466 ?_
  refine va_sld hx hb hXs hbl hbA hw.2.2 (law_in hi hn hL (j := 3) (by decide) (by decide)) dL_law_467 ?_
  refine lv_aload_n hx hb dL_law_468 rfl (lv_at hl 0 rfl) ?_
  refine lv_iload_n hx hb dL_law_469 rfl (lv_at hl 3 rfl) ?_
  refine lv_iconst (v := 4) hx hb dL_law_470 (by decide) ?_
  refine lv_iadd hx hb dL_law_471 ?_
  refine va_sld hx hb hXs hbl hbA hw.2.2 (law_in hi hn hL (j := 4) (by decide) (by decide)) dL_law_472 ?_
  refine lv_aload_n hx hb dL_law_473 rfl (lv_at hl 0 rfl) ?_
  refine lv_iload_n hx hb dL_law_474 rfl (lv_at hl 3 rfl) ?_
  refine lv_iconst (v := 5) hx hb dL_law_475 (by decide) ?_
  refine lv_iadd hx hb dL_law_476 ?_
  refine va_sld hx hb hXs hbl hbA hw.2.2 (law_in hi hn hL (j := 5) (by decide) (by decide)) dL_law_477 ?_
  refine xj_i (xrV (As := [.int (xs (i + (1 : Int32)).toNatClampNeg), .int (xs (i + (2 : Int32)).toNatClampNeg), .int (xs (i + (3 : Int32)).toNatClampNeg), .int (xs (i + (4 : Int32)).toNatClampNeg), .int (xs (i + (5 : Int32)).toNatClampNeg)]) (rest := []) ⟨hx, hb, hml, hown, hts⟩ (m_X9_feed l dC dI _ (h 14) (q 14) (k 14) (S 14) (xs (i + (1 : Int32)).toNatClampNeg) (xs (i + (2 : Int32)).toNatClampNeg) (xs (i + (3 : Int32)).toNatClampNeg) (xs (i + (4 : Int32)).toNatClampNeg) (xs (i + (5 : Int32)).toNatClampNeg) y2 h2) kw1484 kw1481 kw1482 kw1483 kw120 hd_X9_feed ⟨rfl, rfl⟩ rfl rfl ⟨hc, hs⟩ hX hK hw [19] (by decide) rfl rfl rfl rfl rfl hl.1 rfl rfl dL_law_478) hw hA [19] (by decide) rfl rfl (fun H locs hw => ?_)
  have hw : Wd dC dI A s.heap (LW h q k (fset S 14 y2.2) pl im0 im1) H locs := hw
  refine lv_pop hx hb dL_law_481 rfl ?_
  refine lv_goto (tgt := 1181) hx hb dL_law_482 (by decide) ?_
  exact kk H locs hw

set_option maxHeartbeats 4000000 in
set_option maxRecDepth 100000 in
theorem lx_7 {p : Program} {l : Launch} {e : Env} {s : State} {m : MethodId} {below : List Frame} {meth : Method} {c : Code} {b L : Nat} {xs : Nat → Int32} {A : Nat → Prop} {dC : Nat → ClassId} {dI : Nat → Nat → Nat} {Q : State → Prop} {H : Heap} {locs : List Loc} {ls : Array Slot} {cells slots : Nat} {h : Nat → Nat} {q : Nat → Nat → Nat} {k : Nat → Nat → ClassId} {S : Nat → Ob} {pl : List CR} {im0 im1 : Option IR} {i : Int32} {n : Nat} (hx : p.tables.exec = Jvm.exec) (hb : c.code = code) (hml : c.maxLocals = 4) (hown : s.vm.findClass RL = some m.cls) (hts : ∀ w ∈ gt, w.before #[Value.ref b] s = true) (hX : wX s ∧ wT dI A s) (hXs : va_X b L xs s s.heap) (hbl : b < s.heap.size) (hbA : ¬ A b) (hA : ∀ q, s.heap.size ≤ q → A q) (hi : i.toInt = (n : Int)) (hn : n + 6 ≤ L) (hL : L ≤ 3072) (hc : cells.ble 600000 = true) (hs : slots.ble 7302250 = true) (hK : va_K (dC, dI) vwCl (Jt (LT k pl im0 im1)) s) (hw : Wd dC dI A s.heap (LW h q k S pl im0 im1) H locs) (hl : lv_has ls 4 [(0, .ref b), (1, .ref (h 0)), (2, .ref (h 14)), (3, .int i)]) (y1 : Int32 × Ob) (h1 : f_X8_end (S 0) (S 1) (xs (i + (1 : Int32)).toNatClampNeg) = some y1) (kk : ∀ (H : Heap) (locs : List Loc), Wd dC dI A s.heap (LW h q k (fset S 1 y1.2) pl im0 im1) H locs → W p l e room_1 s m #[Value.ref b] below meth c H locs cells slots Q (F0 m 495 ls [])) : W p l e room_1 s m #[Value.ref b] below meth c H locs cells slots Q (F0 m 485 ls []) := by
  refine lv_aload_n hx hb dL_law_485 rfl (lv_at hl 1 rfl) ?_
  refine lv_aload_n hx hb dL_law_486 rfl (lv_at hl 0 rfl) ?_
  refine lv_iload_n hx hb dL_law_487 rfl (lv_at hl 3 rfl) ?_
  refine lv_iconst (v := 1) hx hb dL_law_488 (by decide) ?_
  refine lv_iadd hx hb dL_law_489 ?_
  refine va_sld hx hb hXs hbl hbA hw.2.2 (law_in hi hn hL (j := 1) (by decide) (by decide)) dL_law_490 ?_
  refine xj_i (xrV (As := [.int (xs (i + (1 : Int32)).toNatClampNeg)]) (rest := []) ⟨hx, hb, hml, hown, hts⟩ (m_X8_end l dC dI _ (h 0) (h 1) (h 3) (h 4) (h 6) (h 7) (h 8) (h 10) (h 11) (h 12) (h 13) (h 2) (q 0) (k 0) (q 1) (k 1) (S 0) (S 1) (xs (i + (1 : Int32)).toNatClampNeg) y1 h1) kw643 kw640 kw641 kw642 kw110 hd_X8_end ⟨rfl, rfl⟩ rfl rfl ⟨hc, hs⟩ hX hK hw [0, 1] (by decide) rfl rfl rfl rfl rfl hl.1 rfl rfl dL_law_491) hw hA [0, 1] (by decide) rfl rfl (fun H locs hw => ?_)
  have hw : Wd dC dI A s.heap (LW h q k (fset S 1 y1.2) pl im0 im1) H locs := hw
  refine lv_pop hx hb dL_law_494 rfl ?_
  exact kk H locs hw

set_option maxHeartbeats 4000000 in
set_option maxRecDepth 100000 in
theorem lm_7 {p : Program} {l : Launch} {e : Env} {s : State} {m : MethodId} {below : List Frame} {meth : Method} {c : Code} {b L : Nat} {xs : Nat → Int32} {A : Nat → Prop} {dC : Nat → ClassId} {dI : Nat → Nat → Nat} {Q : State → Prop} {H : Heap} {locs : List Loc} {ls : Array Slot} {cells slots : Nat} {h : Nat → Nat} {q : Nat → Nat → Nat} {k : Nat → Nat → ClassId} {S : Nat → Ob} {pl : List CR} {im0 im1 : Option IR} {i : Int32} {n : Nat} (hx : p.tables.exec = Jvm.exec) (hb : c.code = code) (hml : c.maxLocals = 4) (hown : s.vm.findClass RL = some m.cls) (hts : ∀ w ∈ gt, w.before #[Value.ref b] s = true) (hX : wX s ∧ wT dI A s) (hXs : va_X b L xs s s.heap) (hbl : b < s.heap.size) (hbA : ¬ A b) (hA : ∀ q, s.heap.size ≤ q → A q) (hi : i.toInt = (n : Int)) (hn : n + 6 ≤ L) (hL : L ≤ 3072) (hc : cells.ble 600000 = true) (hs : slots.ble 7302250 = true) (hK : va_K (dC, dI) vwCl (Jt (LT k pl im0 im1)) s) (hw : Wd dC dI A s.heap (LW h q k S pl im0 im1) H locs) (hl : lv_has ls 4 [(0, .ref b), (1, .ref (h 0)), (2, .ref (h 14)), (3, .int i)]) (y2 : Int32 × Ob) (h2 : f_X9_end (S 14) (xs (i + (1 : Int32)).toNatClampNeg) = some y2) (kk : ∀ (H : Heap) (locs : List Loc), Wd dC dI A s.heap (LW h q k (fset S 14 y2.2) pl im0 im1) H locs → W p l e room_1 s m #[Value.ref b] below meth c H locs cells slots Q (F0 m 1181 ls [])) : W p l e room_1 s m #[Value.ref b] below meth c H locs cells slots Q (F0 m 495 ls []) := by
  refine lv_aload_n hx hb dL_law_495 rfl (lv_at hl 2 rfl) ?_
  refine lv_aload_n hx hb dL_law_496 rfl (lv_at hl 0 rfl) ?_
  refine lv_iload_n hx hb dL_law_497 rfl (lv_at hl 3 rfl) ?_
  refine lv_iconst (v := 1) hx hb dL_law_498 (by decide) ?_
  refine lv_iadd hx hb dL_law_499 ?_
  refine va_sld hx hb hXs hbl hbA hw.2.2 (law_in hi hn hL (j := 1) (by decide) (by decide)) dL_law_500 ?_
  refine xj_i (xrV (As := [.int (xs (i + (1 : Int32)).toNatClampNeg)]) (rest := []) ⟨hx, hb, hml, hown, hts⟩ (m_X9_end l dC dI _ (h 14) (q 14) (k 14) (S 14) (xs (i + (1 : Int32)).toNatClampNeg) y2 h2) kw1492 kw1489 kw1490 kw1491 kw120 hd_X9_end ⟨rfl, rfl⟩ rfl rfl ⟨hc, hs⟩ hX hK hw [19] (by decide) rfl rfl rfl rfl rfl hl.1 rfl rfl dL_law_501) hw hA [19] (by decide) rfl rfl (fun H locs hw => ?_)
  have hw : Wd dC dI A s.heap (LW h q k (fset S 14 y2.2) pl im0 im1) H locs := hw
  refine lv_pop hx hb dL_law_504 rfl ?_
  refine lv_goto (tgt := 1181) hx hb dL_law_505 (by decide) ?_
  exact kk H locs hw

set_option maxHeartbeats 4000000 in
set_option maxRecDepth 100000 in
theorem lx_8 {p : Program} {l : Launch} {e : Env} {s : State} {m : MethodId} {below : List Frame} {meth : Method} {c : Code} {b L : Nat} {xs : Nat → Int32} {A : Nat → Prop} {dC : Nat → ClassId} {dI : Nat → Nat → Nat} {Q : State → Prop} {H : Heap} {locs : List Loc} {ls : Array Slot} {cells slots : Nat} {h : Nat → Nat} {q : Nat → Nat → Nat} {k : Nat → Nat → ClassId} {S : Nat → Ob} {pl : List CR} {im0 im1 : Option IR} {i : Int32} {n : Nat} (hx : p.tables.exec = Jvm.exec) (hb : c.code = code) (hml : c.maxLocals = 4) (hown : s.vm.findClass RL = some m.cls) (hts : ∀ w ∈ gt, w.before #[Value.ref b] s = true) (hX : wX s ∧ wT dI A s) (hXs : va_X b L xs s s.heap) (hbl : b < s.heap.size) (hbA : ¬ A b) (hA : ∀ q, s.heap.size ≤ q → A q) (hi : i.toInt = (n : Int)) (hn : n + 6 ≤ L) (hL : L ≤ 3072) (hc : cells.ble 600000 = true) (hs : slots.ble 7302250 = true) (hK : va_K (dC, dI) vwCl (Jt (LT k pl im0 im1)) s) (hw : Wd dC dI A s.heap (LW h q k S pl im0 im1) H locs) (hl : lv_has ls 4 [(0, .ref b), (1, .ref (h 0)), (2, .ref (h 14)), (3, .int i)]) (y1 : Int32 × Ob × Ob × Ob) (h1 : f_X8_row (S 0) (S 1) (S 4) = some y1) (kk : ∀ (H : Heap) (locs : List Loc), Wd dC dI A s.heap (LW h q k (fset (fset (fset S 0 y1.2.1) 1 y1.2.2.1) 4 y1.2.2.2) pl im0 im1) H locs → W p l e room_1 s m #[Value.ref b] below meth c H locs cells slots Q (F0 m 513 ls [])) : W p l e room_1 s m #[Value.ref b] below meth c H locs cells slots Q (F0 m 508 ls []) := by
  refine lv_aload_n hx hb dL_law_508 rfl (lv_at hl 1 rfl) ?_
  refine xj_i (xrV (As := []) (rest := []) ⟨hx, hb, hml, hown, hts⟩ (m_X8_row l dC dI _ (h 0) (h 1) (h 3) (h 4) (h 6) (h 7) (h 8) (h 10) (h 11) (h 12) (h 13) (h 2) (h 5) (q 0) (k 0) (q 1) (k 1) (q 4) (k 4) (S 0) (S 1) (S 4) y1 h1) kw647 kw644 kw645 kw646 kw110 hd_X8_row ⟨rfl, rfl⟩ rfl rfl ⟨hc, hs⟩ hX hK hw [0, 1, 4] (by decide) rfl rfl rfl rfl rfl hl.1 rfl rfl dL_law_509) hw hA [0, 1, 4] (by decide) rfl rfl (fun H locs hw => ?_)
  have hw : Wd dC dI A s.heap (LW h q k (fset (fset (fset S 0 y1.2.1) 1 y1.2.2.1) 4 y1.2.2.2) pl im0 im1) H locs := hw
  refine lv_pop hx hb dL_law_512 rfl ?_
  exact kk H locs hw

set_option maxHeartbeats 4000000 in
set_option maxRecDepth 100000 in
theorem lm_8 {p : Program} {l : Launch} {e : Env} {s : State} {m : MethodId} {below : List Frame} {meth : Method} {c : Code} {b L : Nat} {xs : Nat → Int32} {A : Nat → Prop} {dC : Nat → ClassId} {dI : Nat → Nat → Nat} {Q : State → Prop} {H : Heap} {locs : List Loc} {ls : Array Slot} {cells slots : Nat} {h : Nat → Nat} {q : Nat → Nat → Nat} {k : Nat → Nat → ClassId} {S : Nat → Ob} {pl : List CR} {im0 im1 : Option IR} {i : Int32} {n : Nat} (hx : p.tables.exec = Jvm.exec) (hb : c.code = code) (hml : c.maxLocals = 4) (hown : s.vm.findClass RL = some m.cls) (hts : ∀ w ∈ gt, w.before #[Value.ref b] s = true) (hX : wX s ∧ wT dI A s) (hXs : va_X b L xs s s.heap) (hbl : b < s.heap.size) (hbA : ¬ A b) (hA : ∀ q, s.heap.size ≤ q → A q) (hi : i.toInt = (n : Int)) (hn : n + 6 ≤ L) (hL : L ≤ 3072) (hc : cells.ble 600000 = true) (hs : slots.ble 7302250 = true) (hK : va_K (dC, dI) vwCl (Jt (LT k pl im0 im1)) s) (hw : Wd dC dI A s.heap (LW h q k S pl im0 im1) H locs) (hl : lv_has ls 4 [(0, .ref b), (1, .ref (h 0)), (2, .ref (h 14)), (3, .int i)]) (y2 : Int32 × Ob) (h2 : f_X9_row (S 14) = some y2) (kk : ∀ (H : Heap) (locs : List Loc), Wd dC dI A s.heap (LW h q k (fset S 14 y2.2) pl im0 im1) H locs → W p l e room_1 s m #[Value.ref b] below meth c H locs cells slots Q (F0 m 1181 ls [])) : W p l e room_1 s m #[Value.ref b] below meth c H locs cells slots Q (F0 m 513 ls []) := by
  refine lv_aload_n hx hb dL_law_513 rfl (lv_at hl 2 rfl) ?_
  refine xj_i (xrV (As := []) (rest := []) ⟨hx, hb, hml, hown, hts⟩ (m_X9_row l dC dI _ (h 14) (q 14) (k 14) (S 14) y2 h2) kw1472 kw1469 kw1470 kw1471 kw120 hd_X9_row ⟨rfl, rfl⟩ rfl rfl ⟨hc, hs⟩ hX hK hw [19] (by decide) rfl rfl rfl rfl rfl hl.1 rfl rfl dL_law_514) hw hA [19] (by decide) rfl rfl (fun H locs hw => ?_)
  have hw : Wd dC dI A s.heap (LW h q k (fset S 14 y2.2) pl im0 im1) H locs := hw
  refine lv_pop hx hb dL_law_517 rfl ?_
  refine lv_goto (tgt := 1181) hx hb dL_law_518 (by decide) ?_
  exact kk H locs hw

set_option maxHeartbeats 4000000 in
set_option maxRecDepth 100000 in
theorem lx_9 {p : Program} {l : Launch} {e : Env} {s : State} {m : MethodId} {below : List Frame} {meth : Method} {c : Code} {b L : Nat} {xs : Nat → Int32} {A : Nat → Prop} {dC : Nat → ClassId} {dI : Nat → Nat → Nat} {Q : State → Prop} {H : Heap} {locs : List Loc} {ls : Array Slot} {cells slots : Nat} {h : Nat → Nat} {q : Nat → Nat → Nat} {k : Nat → Nat → ClassId} {S : Nat → Ob} {pl : List CR} {im0 im1 : Option IR} {i : Int32} {n : Nat} (hx : p.tables.exec = Jvm.exec) (hb : c.code = code) (hml : c.maxLocals = 4) (hown : s.vm.findClass RL = some m.cls) (hts : ∀ w ∈ gt, w.before #[Value.ref b] s = true) (hX : wX s ∧ wT dI A s) (hXs : va_X b L xs s s.heap) (hbl : b < s.heap.size) (hbA : ¬ A b) (hA : ∀ q, s.heap.size ≤ q → A q) (hi : i.toInt = (n : Int)) (hn : n + 6 ≤ L) (hL : L ≤ 3072) (hc : cells.ble 600000 = true) (hs : slots.ble 7302250 = true) (hK : va_K (dC, dI) vwCl (Jt (LT k pl im0 im1)) s) (hw : Wd dC dI A s.heap (LW h q k S pl im0 im1) H locs) (hl : lv_has ls 4 [(0, .ref b), (1, .ref (h 0)), (2, .ref (h 14)), (3, .int i)]) (y1 : Int32) (h1 : f_X8_blots (S 0) = some y1) (kk : ∀ (H : Heap) (locs : List Loc), Wd dC dI A s.heap (LW h q k S pl im0 im1) H locs → W p l e room_1 s m #[Value.ref b] below meth c H locs cells slots Q (F0 m 526 ls [])) : W p l e room_1 s m #[Value.ref b] below meth c H locs cells slots Q (F0 m 521 ls []) := by
  refine lv_aload_n hx hb dL_law_521 rfl (lv_at hl 1 rfl) ?_
  refine xj_i (xrV (As := []) (rest := []) ⟨hx, hb, hml, hown, hts⟩ (m_X8_blots l dC dI _ (h 0) (h 1) (h 3) (h 4) (h 6) (h 7) (h 8) (h 10) (h 11) (h 12) (h 13) (q 0) (k 0) (S 0) y1 h1) kw659 kw656 kw657 kw658 kw110 hd_X8_blots ⟨rfl, rfl⟩ rfl rfl ⟨hc, hs⟩ hX hK hw [0] (by decide) rfl rfl rfl rfl rfl hl.1 rfl rfl dL_law_522) hw hA [0] (by decide) rfl rfl (fun H locs hw => ?_)
  have hw : Wd dC dI A s.heap (LW h q k S pl im0 im1) H locs := hw
  refine lv_pop hx hb dL_law_525 rfl ?_
  exact kk H locs hw

set_option maxHeartbeats 4000000 in
set_option maxRecDepth 100000 in
theorem lm_9 {p : Program} {l : Launch} {e : Env} {s : State} {m : MethodId} {below : List Frame} {meth : Method} {c : Code} {b L : Nat} {xs : Nat → Int32} {A : Nat → Prop} {dC : Nat → ClassId} {dI : Nat → Nat → Nat} {Q : State → Prop} {H : Heap} {locs : List Loc} {ls : Array Slot} {cells slots : Nat} {h : Nat → Nat} {q : Nat → Nat → Nat} {k : Nat → Nat → ClassId} {S : Nat → Ob} {pl : List CR} {im0 im1 : Option IR} {i : Int32} {n : Nat} (hx : p.tables.exec = Jvm.exec) (hb : c.code = code) (hml : c.maxLocals = 4) (hown : s.vm.findClass RL = some m.cls) (hts : ∀ w ∈ gt, w.before #[Value.ref b] s = true) (hX : wX s ∧ wT dI A s) (hXs : va_X b L xs s s.heap) (hbl : b < s.heap.size) (hbA : ¬ A b) (hA : ∀ q, s.heap.size ≤ q → A q) (hi : i.toInt = (n : Int)) (hn : n + 6 ≤ L) (hL : L ≤ 3072) (hc : cells.ble 600000 = true) (hs : slots.ble 7302250 = true) (hK : va_K (dC, dI) vwCl (Jt (LT k pl im0 im1)) s) (hw : Wd dC dI A s.heap (LW h q k S pl im0 im1) H locs) (hl : lv_has ls 4 [(0, .ref b), (1, .ref (h 0)), (2, .ref (h 14)), (3, .int i)]) (y2 : Int32 × Ob) (h2 : f_X9_blots (S 14) = some y2) (kk : ∀ (H : Heap) (locs : List Loc), Wd dC dI A s.heap (LW h q k (fset S 14 y2.2) pl im0 im1) H locs → W p l e room_1 s m #[Value.ref b] below meth c H locs cells slots Q (F0 m 1181 ls [])) : W p l e room_1 s m #[Value.ref b] below meth c H locs cells slots Q (F0 m 526 ls []) := by
  refine lv_aload_n hx hb dL_law_526 rfl (lv_at hl 2 rfl) ?_
  refine xj_i (xrV (As := []) (rest := []) ⟨hx, hb, hml, hown, hts⟩ (m_X9_blots l dC dI _ (h 14) (q 14) (k 14) (S 14) y2 h2) kw1480 kw1477 kw1478 kw1479 kw120 hd_X9_blots ⟨rfl, rfl⟩ rfl rfl ⟨hc, hs⟩ hX hK hw [19] (by decide) rfl rfl rfl rfl rfl hl.1 rfl rfl dL_law_527) hw hA [19] (by decide) rfl rfl (fun H locs hw => ?_)
  have hw : Wd dC dI A s.heap (LW h q k (fset S 14 y2.2) pl im0 im1) H locs := hw
  refine lv_pop hx hb dL_law_530 rfl ?_
  refine lv_goto (tgt := 1181) hx hb dL_law_531 (by decide) ?_
  exact kk H locs hw

set_option maxHeartbeats 4000000 in
set_option maxRecDepth 100000 in
theorem lx_10_R {p : Program} {l : Launch} {e : Env} {s : State} {m : MethodId} {below : List Frame} {meth : Method} {c : Code} {b L : Nat} {xs : Nat → Int32} {A : Nat → Prop} {dC : Nat → ClassId} {dI : Nat → Nat → Nat} {Q : State → Prop} {H : Heap} {locs : List Loc} {ls : Array Slot} {cells slots : Nat} {h : Nat → Nat} {q : Nat → Nat → Nat} {k : Nat → Nat → ClassId} {S : Nat → Ob} {pl : List CR} {im0 im1 : Option IR} {i : Int32} {n : Nat} (hx : p.tables.exec = Jvm.exec) (hb : c.code = code) (hml : c.maxLocals = 4) (hown : s.vm.findClass RL = some m.cls) (hts : ∀ w ∈ gt, w.before #[Value.ref b] s = true) (hX : wX s ∧ wT dI A s) (hXs : va_X b L xs s s.heap) (hbl : b < s.heap.size) (hbA : ¬ A b) (hA : ∀ q, s.heap.size ≤ q → A q) (hi : i.toInt = (n : Int)) (hn : n + 6 ≤ L) (hL : L ≤ 3072) (hc : cells.ble 600000 = true) (hs : slots.ble 7302250 = true) (hK : va_K (dC, dI) vwCl (Jt (LT k pl im0 im1)) s) (hw : Wd dC dI A s.heap (LW h q k S pl im0 im1) H locs) (hl : lv_has ls 4 [(0, .ref b), (1, .ref (h 0)), (2, .ref (h 14)), (3, .int i)]) (y1 : Int32 × Ob × Ob × Ob) (h1 : f_X8_law_R 12 400 (S 0) (S 1) (S 2) (S 4) = some y1) (kk : ∀ (H : Heap) (locs : List Loc), Wd dC dI A s.heap (LW h q k (fset (fset (fset S 0 y1.2.1) 1 y1.2.2.1) 2 y1.2.2.2) pl im0 im1) H locs → W p l e room_1 s m #[Value.ref b] below meth c H locs cells slots Q (F0 m 539 ls [])) : W p l e room_1 s m #[Value.ref b] below meth c H locs cells slots Q (F0 m 534 ls []) := by
  refine lv_aload_n hx hb dL_law_534 rfl (lv_at hl 1 rfl) ?_
  refine xj_i (xrV (As := []) (rest := []) ⟨hx, hb, hml, hown, hts⟩ (m_X8_law_R l dC dI _ (h 0) (h 1) (h 3) (h 4) (h 6) (h 7) (h 8) (h 10) (h 11) (h 12) (h 13) (h 2) (h 5) (q 0) (k 0) (q 1) (k 1) (q 2) (k 2) (q 4) (k 4) 12 400 (S 0) (S 1) (S 2) (S 4) y1 h1) kw663 kw660 kw661 kw662 kw110 hd_X8_law ⟨rfl, rfl⟩ rfl rfl ⟨hc, hs⟩ hX hK hw [0, 1, 2, 4] (by decide) rfl rfl rfl rfl rfl hl.1 rfl rfl dL_law_535) hw hA [0, 1, 2, 4] (by decide) rfl rfl (fun H locs hw => ?_)
  have hw : Wd dC dI A s.heap (LW h q k (fset (fset (fset S 0 y1.2.1) 1 y1.2.2.1) 2 y1.2.2.2) pl im0 im1) H locs := hw
  refine lv_pop hx hb dL_law_538 rfl ?_
  exact kk H locs hw

set_option maxHeartbeats 4000000 in
set_option maxRecDepth 100000 in
theorem lx_10_new {p : Program} {l : Launch} {e : Env} {s : State} {m : MethodId} {below : List Frame} {meth : Method} {c : Code} {b L : Nat} {xs : Nat → Int32} {A : Nat → Prop} {dC : Nat → ClassId} {dI : Nat → Nat → Nat} {Q : State → Prop} {H : Heap} {locs : List Loc} {ls : Array Slot} {cells slots : Nat} {h : Nat → Nat} {q : Nat → Nat → Nat} {k : Nat → Nat → ClassId} {S : Nat → Ob} {pl : List CR} {im0 im1 : Option IR} {i : Int32} {n : Nat} (hx : p.tables.exec = Jvm.exec) (hb : c.code = code) (hml : c.maxLocals = 4) (hown : s.vm.findClass RL = some m.cls) (hts : ∀ w ∈ gt, w.before #[Value.ref b] s = true) (hX : wX s ∧ wT dI A s) (hXs : va_X b L xs s s.heap) (hbl : b < s.heap.size) (hbA : ¬ A b) (hA : ∀ q, s.heap.size ≤ q → A q) (hi : i.toInt = (n : Int)) (hn : n + 6 ≤ L) (hL : L ≤ 3072) (hc : cells.ble 600000 = true) (hs : slots.ble 7302250 = true) (hc9 : (cells + 8).ble 600000 = true) (hs9 : (slots + 869).ble 7302250 = true) (hK : va_K (dC, dI) vwCl (Jt (LT k pl im0 im1)) s) (hw : Wd dC dI A s.heap (LW h q k S pl im0 im1) H locs) (hl : lv_has ls 4 [(0, .ref b), (1, .ref (h 0)), (2, .ref (h 14)), (3, .int i)]) (st9 : Ob × Ob × Ob × Ob) (h1 : f_X8_law_a 12 400 (S 0) (S 1) (S 2) (S 4) = some st9) (oc : Ob) (hk : f_X0_kept 12 400 st9.2.2.1 = some oc) (h2 : ∀ (a : Nat) (q : Nat → Nat) (k : Nat → ClassId), (∀ c ∈ pl, c.1 ≠ a) → ∃ y, f_X8_law_b (pl ++ [(a, q, k, (gI st9.2.2.1 7).toNatClampNeg, (gI st9.2.2.1 8).toNatClampNeg, oc)]) st9.1 st9.2.2.2 (some a) = some y) (kk : ∀ (x : Nat × (Nat → Nat) × (Nat → ClassId) × Int32 × Ob × Ob) (H : Heap) (locs : List Loc), (fun x => (∀ c ∈ pl, c.1 ≠ x.1) ∧ f_X8_law_b (pl ++ [(x.1, x.2.1, x.2.2.1, (gI st9.2.2.1 7).toNatClampNeg, (gI st9.2.2.1 8).toNatClampNeg, oc)]) st9.1 st9.2.2.2 (some x.1) = some x.2.2.2) x → va_K (dC, dI) vwCl (Jt (LT k (pl ++ [(x.1, x.2.1, x.2.2.1, (gI st9.2.2.1 7).toNatClampNeg, (gI st9.2.2.1 8).toNatClampNeg, oc)]) im0 im1)) s → Wd dC dI A s.heap (LW h q k (fset (fset (fset (fset S 0 x.2.2.2.2.1) 1 st9.2.1) 2 st9.2.2.1) 4 x.2.2.2.2.2) (pl ++ [(x.1, x.2.1, x.2.2.1, (gI st9.2.2.1 7).toNatClampNeg, (gI st9.2.2.1 8).toNatClampNeg, oc)]) im0 im1) H locs → W p l e room_1 s m #[Value.ref b] below meth c H locs (cells + 8) (slots + 869) Q (F0 m 539 ls [])) : W p l e room_1 s m #[Value.ref b] below meth c H locs cells slots Q (F0 m 534 ls []) := by
  refine lv_aload_n hx hb dL_law_534 rfl (lv_at hl 1 rfl) ?_
  refine xjn_i (X := Nat × (Nat → Nat) × (Nat → ClassId) × Int32 × Ob × Ob) (v := fun x => x.2.2.2.1) (P := (fun x => (∀ c ∈ pl, c.1 ≠ x.1) ∧ f_X8_law_b (pl ++ [(x.1, x.2.1, x.2.2.1, (gI st9.2.2.1 7).toNatClampNeg, (gI st9.2.2.1 8).toNatClampNeg, oc)]) st9.1 st9.2.2.2 (some x.1) = some x.2.2.2)) (L1 := (fun x => [wX8 (h 0) (h 1) (h 3) (h 4) (h 6) (h 7) (h 8) (h 10) (h 11) (h 12) (h 13) (q 0) (k 0) x.2.2.2.2.1, wX6 (h 1) (h 2) (q 1) (k 1) st9.2.1, wX0 (h 2) 12 400 (q 2) (k 2) st9.2.2.1, wX2 (h 4) (h 5) (q 4) (k 4) x.2.2.2.2.2, wPL (pl ++ [(x.1, x.2.1, x.2.2.1, (gI st9.2.2.1 7).toNatClampNeg, (gI st9.2.2.1 8).toNatClampNeg, oc)])])) (T1 := (fun x => [tX8 (k 0), tX6 (k 1), tX0 (k 2), tX2 (k 4), tPL (pl ++ [(x.1, x.2.1, x.2.2.1, (gI st9.2.2.1 7).toNatClampNeg, (gI st9.2.2.1 8).toNatClampNeg, oc)])])) (xrVn (As := []) (rest := []) ⟨hx, hb, hml, hown, hts⟩ (m_X8_law_new l dC dI _ (h 0) (h 1) (h 3) (h 4) (h 6) (h 7) (h 8) (h 10) (h 11) (h 12) (h 13) (h 2) (h 5) (q 0) (k 0) (q 1) (k 1) (q 2) (k 2) (q 4) (k 4) 12 400 (S 0) (S 1) (S 2) (S 4) pl st9 h1 oc hk h2) kw663 kw660 kw661 kw662 kw110 hd_X8_law ⟨rfl, rfl⟩ rfl rfl ⟨hc9, hs9⟩ hX hK hw [0, 1, 2, 4, 14] (by decide) rfl rfl rfl rfl rfl hl.1 rfl rfl dL_law_535) hK hw hA [0, 1, 2, 4, 14] (by decide) rfl (fun _ => rfl) (fun x H locs hP hK hw => ?_)
  have hw : Wd dC dI A s.heap (LW h q k (fset (fset (fset (fset S 0 x.2.2.2.2.1) 1 st9.2.1) 2 st9.2.2.1) 4 x.2.2.2.2.2) (pl ++ [(x.1, x.2.1, x.2.2.1, (gI st9.2.2.1 7).toNatClampNeg, (gI st9.2.2.1 8).toNatClampNeg, oc)]) im0 im1) H locs := hw
  have hK : va_K (dC, dI) vwCl (Jt (LT k (pl ++ [(x.1, x.2.1, x.2.2.1, (gI st9.2.2.1 7).toNatClampNeg, (gI st9.2.2.1 8).toNatClampNeg, oc)]) im0 im1)) s := hK
  refine lv_pop hx hb dL_law_538 rfl ?_
  exact kk x H locs hP hK hw

set_option maxHeartbeats 4000000 in
set_option maxRecDepth 100000 in
theorem lm_10 {p : Program} {l : Launch} {e : Env} {s : State} {m : MethodId} {below : List Frame} {meth : Method} {c : Code} {b L : Nat} {xs : Nat → Int32} {A : Nat → Prop} {dC : Nat → ClassId} {dI : Nat → Nat → Nat} {Q : State → Prop} {H : Heap} {locs : List Loc} {ls : Array Slot} {cells slots : Nat} {h : Nat → Nat} {q : Nat → Nat → Nat} {k : Nat → Nat → ClassId} {S : Nat → Ob} {pl : List CR} {im0 im1 : Option IR} {i : Int32} {n : Nat} (hx : p.tables.exec = Jvm.exec) (hb : c.code = code) (hml : c.maxLocals = 4) (hown : s.vm.findClass RL = some m.cls) (hts : ∀ w ∈ gt, w.before #[Value.ref b] s = true) (hX : wX s ∧ wT dI A s) (hXs : va_X b L xs s s.heap) (hbl : b < s.heap.size) (hbA : ¬ A b) (hA : ∀ q, s.heap.size ≤ q → A q) (hi : i.toInt = (n : Int)) (hn : n + 6 ≤ L) (hL : L ≤ 3072) (hc : cells.ble 600000 = true) (hs : slots.ble 7302250 = true) (hK : va_K (dC, dI) vwCl (Jt (LT k pl im0 im1)) s) (hw : Wd dC dI A s.heap (LW h q k S pl im0 im1) H locs) (hl : lv_has ls 4 [(0, .ref b), (1, .ref (h 0)), (2, .ref (h 14)), (3, .int i)]) (y2 : Int32 × Ob) (h2 : f_X9_law (S 14) = some y2) (kk : ∀ (H : Heap) (locs : List Loc), Wd dC dI A s.heap (LW h q k (fset S 14 y2.2) pl im0 im1) H locs → W p l e room_1 s m #[Value.ref b] below meth c H locs cells slots Q (F0 m 1181 ls [])) : W p l e room_1 s m #[Value.ref b] below meth c H locs cells slots Q (F0 m 539 ls []) := by
  refine lv_aload_n hx hb dL_law_539 rfl (lv_at hl 2 rfl) ?_
  refine xj_i (xrV (As := []) (rest := []) ⟨hx, hb, hml, hown, hts⟩ (m_X9_law l dC dI _ (h 14) (q 14) (k 14) (S 14) y2 h2) kw1500 kw1497 kw1498 kw1499 kw120 hd_X9_law ⟨rfl, rfl⟩ rfl rfl ⟨hc, hs⟩ hX hK hw [19] (by decide) rfl rfl rfl rfl rfl hl.1 rfl rfl dL_law_540) hw hA [19] (by decide) rfl rfl (fun H locs hw => ?_)
  have hw : Wd dC dI A s.heap (LW h q k (fset S 14 y2.2) pl im0 im1) H locs := hw
  refine lv_pop hx hb dL_law_543 rfl ?_
  refine lv_goto (tgt := 1181) hx hb dL_law_544 (by decide) ?_
  exact kk H locs hw

set_option maxHeartbeats 4000000 in
set_option maxRecDepth 100000 in
theorem lx_11 {p : Program} {l : Launch} {e : Env} {s : State} {m : MethodId} {below : List Frame} {meth : Method} {c : Code} {b L : Nat} {xs : Nat → Int32} {A : Nat → Prop} {dC : Nat → ClassId} {dI : Nat → Nat → Nat} {Q : State → Prop} {H : Heap} {locs : List Loc} {ls : Array Slot} {cells slots : Nat} {h : Nat → Nat} {q : Nat → Nat → Nat} {k : Nat → Nat → ClassId} {S : Nat → Ob} {pl : List CR} {im0 im1 : Option IR} {i : Int32} {n : Nat} (hx : p.tables.exec = Jvm.exec) (hb : c.code = code) (hml : c.maxLocals = 4) (hown : s.vm.findClass RL = some m.cls) (hts : ∀ w ∈ gt, w.before #[Value.ref b] s = true) (hX : wX s ∧ wT dI A s) (hXs : va_X b L xs s s.heap) (hbl : b < s.heap.size) (hbA : ¬ A b) (hA : ∀ q, s.heap.size ≤ q → A q) (hi : i.toInt = (n : Int)) (hn : n + 6 ≤ L) (hL : L ≤ 3072) (hc : cells.ble 600000 = true) (hs : slots.ble 7302250 = true) (hK : va_K (dC, dI) vwCl (Jt (LT k pl im0 im1)) s) (hw : Wd dC dI A s.heap (LW h q k S pl im0 im1) H locs) (hl : lv_has ls 4 [(0, .ref b), (1, .ref (h 0)), (2, .ref (h 14)), (3, .int i)]) (y1 : Int32 × Ob × Ob × Ob × Ob × Ob × Ob × Ob × Ob × Ob) (h1 : f_X8_orders 12 400 (S 0) (S 1) (S 2) (S 3) (S 4) (S 5) (S 6) (S 11) (S 12) (S 13) pl = some y1) (kk : ∀ (H : Heap) (locs : List Loc), Wd dC dI A s.heap (LW h q k (fset (fset (fset (fset (fset (fset (fset (fset (fset S 0 y1.2.1) 1 y1.2.2.1) 2 y1.2.2.2.1) 3 y1.2.2.2.2.1) 5 y1.2.2.2.2.2.1) 6 y1.2.2.2.2.2.2.1) 11 y1.2.2.2.2.2.2.2.1) 12 y1.2.2.2.2.2.2.2.2.1) 13 y1.2.2.2.2.2.2.2.2.2) pl im0 im1) H locs → W p l e room_1 s m #[Value.ref b] below meth c H locs cells slots Q (F0 m 552 ls [])) : W p l e room_1 s m #[Value.ref b] below meth c H locs cells slots Q (F0 m 547 ls []) := by
  refine lv_aload_n hx hb dL_law_547 rfl (lv_at hl 1 rfl) ?_
  refine xj_i (xrV (As := []) (rest := []) ⟨hx, hb, hml, hown, hts⟩ (m_X8_orders l dC dI _ (h 0) (h 1) (h 3) (h 4) (h 6) (h 7) (h 8) (h 10) (h 11) (h 12) (h 13) (h 2) (h 5) (q 0) (k 0) (q 1) (k 1) (q 2) (k 2) (q 3) (k 3) (q 4) (k 4) (q 5) (k 5) (q 6) (k 6) (q 11) (k 11) (q 12) (k 12) (q 13) (k 13) 12 400 (S 0) (S 1) (S 2) (S 3) (S 4) (S 5) (S 6) (S 11) (S 12) (S 13) pl y1 h1) kw821 kw818 kw819 kw820 kw110 hd_X8_orders ⟨rfl, rfl⟩ rfl rfl ⟨hc, hs⟩ hX hK hw [0, 1, 2, 3, 4, 5, 6, 11, 12, 13, 14] (by decide) rfl rfl rfl rfl rfl hl.1 rfl rfl dL_law_548) hw hA [0, 1, 2, 3, 4, 5, 6, 11, 12, 13, 14] (by decide) rfl rfl (fun H locs hw => ?_)
  have hw : Wd dC dI A s.heap (LW h q k (fset (fset (fset (fset (fset (fset (fset (fset (fset S 0 y1.2.1) 1 y1.2.2.1) 2 y1.2.2.2.1) 3 y1.2.2.2.2.1) 5 y1.2.2.2.2.2.1) 6 y1.2.2.2.2.2.2.1) 11 y1.2.2.2.2.2.2.2.1) 12 y1.2.2.2.2.2.2.2.2.1) 13 y1.2.2.2.2.2.2.2.2.2) pl im0 im1) H locs := hw
  refine lv_pop hx hb dL_law_551 rfl ?_
  exact kk H locs hw

set_option maxHeartbeats 4000000 in
set_option maxRecDepth 100000 in
theorem lm_11 {p : Program} {l : Launch} {e : Env} {s : State} {m : MethodId} {below : List Frame} {meth : Method} {c : Code} {b L : Nat} {xs : Nat → Int32} {A : Nat → Prop} {dC : Nat → ClassId} {dI : Nat → Nat → Nat} {Q : State → Prop} {H : Heap} {locs : List Loc} {ls : Array Slot} {cells slots : Nat} {h : Nat → Nat} {q : Nat → Nat → Nat} {k : Nat → Nat → ClassId} {S : Nat → Ob} {pl : List CR} {im0 im1 : Option IR} {i : Int32} {n : Nat} (hx : p.tables.exec = Jvm.exec) (hb : c.code = code) (hml : c.maxLocals = 4) (hown : s.vm.findClass RL = some m.cls) (hts : ∀ w ∈ gt, w.before #[Value.ref b] s = true) (hX : wX s ∧ wT dI A s) (hXs : va_X b L xs s s.heap) (hbl : b < s.heap.size) (hbA : ¬ A b) (hA : ∀ q, s.heap.size ≤ q → A q) (hi : i.toInt = (n : Int)) (hn : n + 6 ≤ L) (hL : L ≤ 3072) (hc : cells.ble 600000 = true) (hs : slots.ble 7302250 = true) (hK : va_K (dC, dI) vwCl (Jt (LT k pl im0 im1)) s) (hw : Wd dC dI A s.heap (LW h q k S pl im0 im1) H locs) (hl : lv_has ls 4 [(0, .ref b), (1, .ref (h 0)), (2, .ref (h 14)), (3, .int i)]) (y2 : Int32 × Ob) (h2 : f_X9_orders (S 14) = some y2) (kk : ∀ (H : Heap) (locs : List Loc), Wd dC dI A s.heap (LW h q k (fset S 14 y2.2) pl im0 im1) H locs → W p l e room_1 s m #[Value.ref b] below meth c H locs cells slots Q (F0 m 1181 ls [])) : W p l e room_1 s m #[Value.ref b] below meth c H locs cells slots Q (F0 m 552 ls []) := by
  refine lv_aload_n hx hb dL_law_552 rfl (lv_at hl 2 rfl) ?_
  refine xj_i (xrV (As := []) (rest := []) ⟨hx, hb, hml, hown, hts⟩ (m_X9_orders l dC dI _ (h 14) (q 14) (k 14) (S 14) y2 h2) kw1799 kw1796 kw1797 kw1798 kw120 hd_X9_orders ⟨rfl, rfl⟩ rfl rfl ⟨hc, hs⟩ hX hK hw [19] (by decide) rfl rfl rfl rfl rfl hl.1 rfl rfl dL_law_553) hw hA [19] (by decide) rfl rfl (fun H locs hw => ?_)
  have hw : Wd dC dI A s.heap (LW h q k (fset S 14 y2.2) pl im0 im1) H locs := hw
  refine lv_pop hx hb dL_law_556 rfl ?_
  refine lv_goto (tgt := 1181) hx hb dL_law_557 (by decide) ?_
  exact kk H locs hw

set_option maxHeartbeats 4000000 in
set_option maxRecDepth 100000 in
theorem lx_12 {p : Program} {l : Launch} {e : Env} {s : State} {m : MethodId} {below : List Frame} {meth : Method} {c : Code} {b L : Nat} {xs : Nat → Int32} {A : Nat → Prop} {dC : Nat → ClassId} {dI : Nat → Nat → Nat} {Q : State → Prop} {H : Heap} {locs : List Loc} {ls : Array Slot} {cells slots : Nat} {h : Nat → Nat} {q : Nat → Nat → Nat} {k : Nat → Nat → ClassId} {S : Nat → Ob} {pl : List CR} {im0 im1 : Option IR} {i : Int32} {n : Nat} (hx : p.tables.exec = Jvm.exec) (hb : c.code = code) (hml : c.maxLocals = 4) (hown : s.vm.findClass RL = some m.cls) (hts : ∀ w ∈ gt, w.before #[Value.ref b] s = true) (hX : wX s ∧ wT dI A s) (hXs : va_X b L xs s s.heap) (hbl : b < s.heap.size) (hbA : ¬ A b) (hA : ∀ q, s.heap.size ≤ q → A q) (hi : i.toInt = (n : Int)) (hn : n + 6 ≤ L) (hL : L ≤ 3072) (hc : cells.ble 600000 = true) (hs : slots.ble 7302250 = true) (hK : va_K (dC, dI) vwCl (Jt (LT k pl im0 im1)) s) (hw : Wd dC dI A s.heap (LW h q k S pl im0 im1) H locs) (hl : lv_has ls 4 [(0, .ref b), (1, .ref (h 0)), (2, .ref (h 14)), (3, .int i)]) (y1 : Int32) (h1 : f_X8_fault (S 0) (S 1) = some y1) (kk : ∀ (H : Heap) (locs : List Loc), Wd dC dI A s.heap (LW h q k S pl im0 im1) H locs → W p l e room_1 s m #[Value.ref b] below meth c H locs cells slots Q (F0 m 565 ls [])) : W p l e room_1 s m #[Value.ref b] below meth c H locs cells slots Q (F0 m 560 ls []) := by
  refine lv_aload_n hx hb dL_law_560 rfl (lv_at hl 1 rfl) ?_
  refine xj_i (xrV (As := []) (rest := []) ⟨hx, hb, hml, hown, hts⟩ (m_X8_fault l dC dI _ (h 0) (h 1) (h 3) (h 4) (h 6) (h 7) (h 8) (h 10) (h 11) (h 12) (h 13) (h 2) (q 0) (k 0) (q 1) (k 1) (S 0) (S 1) y1 h1) kw901 kw898 kw899 kw900 kw110 hd_X8_fault ⟨rfl, rfl⟩ rfl rfl ⟨hc, hs⟩ hX hK hw [0, 1] (by decide) rfl rfl rfl rfl rfl hl.1 rfl rfl dL_law_561) hw hA [0, 1] (by decide) rfl rfl (fun H locs hw => ?_)
  have hw : Wd dC dI A s.heap (LW h q k S pl im0 im1) H locs := hw
  refine lv_pop hx hb dL_law_564 rfl ?_
  exact kk H locs hw

set_option maxHeartbeats 4000000 in
set_option maxRecDepth 100000 in
theorem lm_12 {p : Program} {l : Launch} {e : Env} {s : State} {m : MethodId} {below : List Frame} {meth : Method} {c : Code} {b L : Nat} {xs : Nat → Int32} {A : Nat → Prop} {dC : Nat → ClassId} {dI : Nat → Nat → Nat} {Q : State → Prop} {H : Heap} {locs : List Loc} {ls : Array Slot} {cells slots : Nat} {h : Nat → Nat} {q : Nat → Nat → Nat} {k : Nat → Nat → ClassId} {S : Nat → Ob} {pl : List CR} {im0 im1 : Option IR} {i : Int32} {n : Nat} (hx : p.tables.exec = Jvm.exec) (hb : c.code = code) (hml : c.maxLocals = 4) (hown : s.vm.findClass RL = some m.cls) (hts : ∀ w ∈ gt, w.before #[Value.ref b] s = true) (hX : wX s ∧ wT dI A s) (hXs : va_X b L xs s s.heap) (hbl : b < s.heap.size) (hbA : ¬ A b) (hA : ∀ q, s.heap.size ≤ q → A q) (hi : i.toInt = (n : Int)) (hn : n + 6 ≤ L) (hL : L ≤ 3072) (hc : cells.ble 600000 = true) (hs : slots.ble 7302250 = true) (hK : va_K (dC, dI) vwCl (Jt (LT k pl im0 im1)) s) (hw : Wd dC dI A s.heap (LW h q k S pl im0 im1) H locs) (hl : lv_has ls 4 [(0, .ref b), (1, .ref (h 0)), (2, .ref (h 14)), (3, .int i)]) (y2 : Int32 × Ob) (h2 : f_X9_fault (S 14) = some y2) (kk : ∀ (H : Heap) (locs : List Loc), Wd dC dI A s.heap (LW h q k (fset S 14 y2.2) pl im0 im1) H locs → W p l e room_1 s m #[Value.ref b] below meth c H locs cells slots Q (F0 m 1181 ls [])) : W p l e room_1 s m #[Value.ref b] below meth c H locs cells slots Q (F0 m 565 ls []) := by
  refine lv_aload_n hx hb dL_law_565 rfl (lv_at hl 2 rfl) ?_
  refine xj_i (xrV (As := []) (rest := []) ⟨hx, hb, hml, hown, hts⟩ (m_X9_fault l dC dI _ (h 14) (q 14) (k 14) (S 14) y2 h2) kw1496 kw1493 kw1494 kw1495 kw120 hd_X9_fault ⟨rfl, rfl⟩ rfl rfl ⟨hc, hs⟩ hX hK hw [19] (by decide) rfl rfl rfl rfl rfl hl.1 rfl rfl dL_law_566) hw hA [19] (by decide) rfl rfl (fun H locs hw => ?_)
  have hw : Wd dC dI A s.heap (LW h q k (fset S 14 y2.2) pl im0 im1) H locs := hw
  refine lv_pop hx hb dL_law_569 rfl ?_
  refine lv_goto (tgt := 1181) hx hb dL_law_570 (by decide) ?_
  exact kk H locs hw

set_option maxHeartbeats 4000000 in
set_option maxRecDepth 100000 in
theorem lx_13 {p : Program} {l : Launch} {e : Env} {s : State} {m : MethodId} {below : List Frame} {meth : Method} {c : Code} {b L : Nat} {xs : Nat → Int32} {A : Nat → Prop} {dC : Nat → ClassId} {dI : Nat → Nat → Nat} {Q : State → Prop} {H : Heap} {locs : List Loc} {ls : Array Slot} {cells slots : Nat} {h : Nat → Nat} {q : Nat → Nat → Nat} {k : Nat → Nat → ClassId} {S : Nat → Ob} {pl : List CR} {im0 im1 : Option IR} {i : Int32} {n : Nat} (hx : p.tables.exec = Jvm.exec) (hb : c.code = code) (hml : c.maxLocals = 4) (hown : s.vm.findClass RL = some m.cls) (hts : ∀ w ∈ gt, w.before #[Value.ref b] s = true) (hX : wX s ∧ wT dI A s) (hXs : va_X b L xs s s.heap) (hbl : b < s.heap.size) (hbA : ¬ A b) (hA : ∀ q, s.heap.size ≤ q → A q) (hi : i.toInt = (n : Int)) (hn : n + 6 ≤ L) (hL : L ≤ 3072) (hc : cells.ble 600000 = true) (hs : slots.ble 7302250 = true) (hK : va_K (dC, dI) vwCl (Jt (LT k pl im0 im1)) s) (hw : Wd dC dI A s.heap (LW h q k S pl im0 im1) H locs) (hl : lv_has ls 4 [(0, .ref b), (1, .ref (h 0)), (2, .ref (h 14)), (3, .int i)]) (y1 : Int32) (h1 : f_X8_stopped (S 0) = some y1) (kk : ∀ (H : Heap) (locs : List Loc), Wd dC dI A s.heap (LW h q k S pl im0 im1) H locs → W p l e room_1 s m #[Value.ref b] below meth c H locs cells slots Q (F0 m 578 ls [])) : W p l e room_1 s m #[Value.ref b] below meth c H locs cells slots Q (F0 m 573 ls []) := by
  refine lv_aload_n hx hb dL_law_573 rfl (lv_at hl 1 rfl) ?_
  refine xj_i (xrV (As := []) (rest := []) ⟨hx, hb, hml, hown, hts⟩ (m_X8_stopped l dC dI _ (h 0) (h 1) (h 3) (h 4) (h 6) (h 7) (h 8) (h 10) (h 11) (h 12) (h 13) (q 0) (k 0) (S 0) y1 h1) kw905 kw902 kw903 kw904 kw110 hd_X8_stopped ⟨rfl, rfl⟩ rfl rfl ⟨hc, hs⟩ hX hK hw [0] (by decide) rfl rfl rfl rfl rfl hl.1 rfl rfl dL_law_574) hw hA [0] (by decide) rfl rfl (fun H locs hw => ?_)
  have hw : Wd dC dI A s.heap (LW h q k S pl im0 im1) H locs := hw
  refine lv_pop hx hb dL_law_577 rfl ?_
  exact kk H locs hw

set_option maxHeartbeats 4000000 in
set_option maxRecDepth 100000 in
theorem lm_13 {p : Program} {l : Launch} {e : Env} {s : State} {m : MethodId} {below : List Frame} {meth : Method} {c : Code} {b L : Nat} {xs : Nat → Int32} {A : Nat → Prop} {dC : Nat → ClassId} {dI : Nat → Nat → Nat} {Q : State → Prop} {H : Heap} {locs : List Loc} {ls : Array Slot} {cells slots : Nat} {h : Nat → Nat} {q : Nat → Nat → Nat} {k : Nat → Nat → ClassId} {S : Nat → Ob} {pl : List CR} {im0 im1 : Option IR} {i : Int32} {n : Nat} (hx : p.tables.exec = Jvm.exec) (hb : c.code = code) (hml : c.maxLocals = 4) (hown : s.vm.findClass RL = some m.cls) (hts : ∀ w ∈ gt, w.before #[Value.ref b] s = true) (hX : wX s ∧ wT dI A s) (hXs : va_X b L xs s s.heap) (hbl : b < s.heap.size) (hbA : ¬ A b) (hA : ∀ q, s.heap.size ≤ q → A q) (hi : i.toInt = (n : Int)) (hn : n + 6 ≤ L) (hL : L ≤ 3072) (hc : cells.ble 600000 = true) (hs : slots.ble 7302250 = true) (hK : va_K (dC, dI) vwCl (Jt (LT k pl im0 im1)) s) (hw : Wd dC dI A s.heap (LW h q k S pl im0 im1) H locs) (hl : lv_has ls 4 [(0, .ref b), (1, .ref (h 0)), (2, .ref (h 14)), (3, .int i)]) (y2 : Int32 × Ob) (h2 : f_X9_stopped (S 14) = some y2) (kk : ∀ (H : Heap) (locs : List Loc), Wd dC dI A s.heap (LW h q k (fset S 14 y2.2) pl im0 im1) H locs → W p l e room_1 s m #[Value.ref b] below meth c H locs cells slots Q (F0 m 1181 ls [])) : W p l e room_1 s m #[Value.ref b] below meth c H locs cells slots Q (F0 m 578 ls []) := by
  refine lv_aload_n hx hb dL_law_578 rfl (lv_at hl 2 rfl) ?_
  refine xj_i (xrV (As := []) (rest := []) ⟨hx, hb, hml, hown, hts⟩ (m_X9_stopped l dC dI _ (h 14) (q 14) (k 14) (S 14) y2 h2) kw1836 kw1833 kw1834 kw1835 kw120 hd_X9_stopped ⟨rfl, rfl⟩ rfl rfl ⟨hc, hs⟩ hX hK hw [19] (by decide) rfl rfl rfl rfl rfl hl.1 rfl rfl dL_law_579) hw hA [19] (by decide) rfl rfl (fun H locs hw => ?_)
  have hw : Wd dC dI A s.heap (LW h q k (fset S 14 y2.2) pl im0 im1) H locs := hw
  refine lv_pop hx hb dL_law_582 rfl ?_
  refine lv_goto (tgt := 1181) hx hb dL_law_583 (by decide) ?_
  exact kk H locs hw

set_option maxHeartbeats 4000000 in
set_option maxRecDepth 100000 in
theorem lx_14 {p : Program} {l : Launch} {e : Env} {s : State} {m : MethodId} {below : List Frame} {meth : Method} {c : Code} {b L : Nat} {xs : Nat → Int32} {A : Nat → Prop} {dC : Nat → ClassId} {dI : Nat → Nat → Nat} {Q : State → Prop} {H : Heap} {locs : List Loc} {ls : Array Slot} {cells slots : Nat} {h : Nat → Nat} {q : Nat → Nat → Nat} {k : Nat → Nat → ClassId} {S : Nat → Ob} {pl : List CR} {im0 im1 : Option IR} {i : Int32} {n : Nat} (hx : p.tables.exec = Jvm.exec) (hb : c.code = code) (hml : c.maxLocals = 4) (hown : s.vm.findClass RL = some m.cls) (hts : ∀ w ∈ gt, w.before #[Value.ref b] s = true) (hX : wX s ∧ wT dI A s) (hXs : va_X b L xs s s.heap) (hbl : b < s.heap.size) (hbA : ¬ A b) (hA : ∀ q, s.heap.size ≤ q → A q) (hi : i.toInt = (n : Int)) (hn : n + 6 ≤ L) (hL : L ≤ 3072) (hc : cells.ble 600000 = true) (hs : slots.ble 7302250 = true) (hK : va_K (dC, dI) vwCl (Jt (LT k pl im0 im1)) s) (hw : Wd dC dI A s.heap (LW h q k S pl im0 im1) H locs) (hl : lv_has ls 4 [(0, .ref b), (1, .ref (h 0)), (2, .ref (h 14)), (3, .int i)]) (y1 : Int32 × Ob × Ob) (h1 : f_X8_force (S 0) (S 4) (xs (i + (1 : Int32)).toNatClampNeg) = some y1) (kk : ∀ (H : Heap) (locs : List Loc), Wd dC dI A s.heap (LW h q k (fset (fset S 0 y1.2.1) 4 y1.2.2) pl im0 im1) H locs → W p l e room_1 s m #[Value.ref b] below meth c H locs cells slots Q (F0 m 596 ls [])) : W p l e room_1 s m #[Value.ref b] below meth c H locs cells slots Q (F0 m 586 ls []) := by
  refine lv_aload_n hx hb dL_law_586 rfl (lv_at hl 1 rfl) ?_
  refine lv_aload_n hx hb dL_law_587 rfl (lv_at hl 0 rfl) ?_
  refine lv_iload_n hx hb dL_law_588 rfl (lv_at hl 3 rfl) ?_
  refine lv_iconst (v := 1) hx hb dL_law_589 (by decide) ?_
  refine lv_iadd hx hb dL_law_590 ?_
  refine va_sld hx hb hXs hbl hbA hw.2.2 (law_in hi hn hL (j := 1) (by decide) (by decide)) dL_law_591 ?_
  refine xj_i (xrV (As := [.int (xs (i + (1 : Int32)).toNatClampNeg)]) (rest := []) ⟨hx, hb, hml, hown, hts⟩ (m_X8_force l dC dI _ (h 0) (h 1) (h 3) (h 4) (h 6) (h 7) (h 8) (h 10) (h 11) (h 12) (h 13) (h 5) (q 0) (k 0) (q 4) (k 4) (S 0) (S 4) (xs (i + (1 : Int32)).toNatClampNeg) y1 h1) kw909 kw906 kw907 kw908 kw110 hd_X8_force ⟨rfl, rfl⟩ rfl rfl ⟨hc, hs⟩ hX hK hw [0, 4] (by decide) rfl rfl rfl rfl rfl hl.1 rfl rfl dL_law_592) hw hA [0, 4] (by decide) rfl rfl (fun H locs hw => ?_)
  have hw : Wd dC dI A s.heap (LW h q k (fset (fset S 0 y1.2.1) 4 y1.2.2) pl im0 im1) H locs := hw
  refine lv_pop hx hb dL_law_595 rfl ?_
  exact kk H locs hw

set_option maxHeartbeats 4000000 in
set_option maxRecDepth 100000 in
theorem lm_14 {p : Program} {l : Launch} {e : Env} {s : State} {m : MethodId} {below : List Frame} {meth : Method} {c : Code} {b L : Nat} {xs : Nat → Int32} {A : Nat → Prop} {dC : Nat → ClassId} {dI : Nat → Nat → Nat} {Q : State → Prop} {H : Heap} {locs : List Loc} {ls : Array Slot} {cells slots : Nat} {h : Nat → Nat} {q : Nat → Nat → Nat} {k : Nat → Nat → ClassId} {S : Nat → Ob} {pl : List CR} {im0 im1 : Option IR} {i : Int32} {n : Nat} (hx : p.tables.exec = Jvm.exec) (hb : c.code = code) (hml : c.maxLocals = 4) (hown : s.vm.findClass RL = some m.cls) (hts : ∀ w ∈ gt, w.before #[Value.ref b] s = true) (hX : wX s ∧ wT dI A s) (hXs : va_X b L xs s s.heap) (hbl : b < s.heap.size) (hbA : ¬ A b) (hA : ∀ q, s.heap.size ≤ q → A q) (hi : i.toInt = (n : Int)) (hn : n + 6 ≤ L) (hL : L ≤ 3072) (hc : cells.ble 600000 = true) (hs : slots.ble 7302250 = true) (hK : va_K (dC, dI) vwCl (Jt (LT k pl im0 im1)) s) (hw : Wd dC dI A s.heap (LW h q k S pl im0 im1) H locs) (hl : lv_has ls 4 [(0, .ref b), (1, .ref (h 0)), (2, .ref (h 14)), (3, .int i)]) (y2 : Int32 × Ob) (h2 : f_X9_force (S 14) (xs (i + (1 : Int32)).toNatClampNeg) = some y2) (kk : ∀ (H : Heap) (locs : List Loc), Wd dC dI A s.heap (LW h q k (fset S 14 y2.2) pl im0 im1) H locs → W p l e room_1 s m #[Value.ref b] below meth c H locs cells slots Q (F0 m 1181 ls [])) : W p l e room_1 s m #[Value.ref b] below meth c H locs cells slots Q (F0 m 596 ls []) := by
  refine lv_aload_n hx hb dL_law_596 rfl (lv_at hl 2 rfl) ?_
  refine lv_aload_n hx hb dL_law_597 rfl (lv_at hl 0 rfl) ?_
  refine lv_iload_n hx hb dL_law_598 rfl (lv_at hl 3 rfl) ?_
  refine lv_iconst (v := 1) hx hb dL_law_599 (by decide) ?_
  refine lv_iadd hx hb dL_law_600 ?_
  refine va_sld hx hb hXs hbl hbA hw.2.2 (law_in hi hn hL (j := 1) (by decide) (by decide)) dL_law_601 ?_
  refine xj_i (xrV (As := [.int (xs (i + (1 : Int32)).toNatClampNeg)]) (rest := []) ⟨hx, hb, hml, hown, hts⟩ (m_X9_force l dC dI _ (h 14) (q 14) (k 14) (S 14) (xs (i + (1 : Int32)).toNatClampNeg) y2 h2) kw1619 kw1616 kw1617 kw1618 kw120 hd_X9_force ⟨rfl, rfl⟩ rfl rfl ⟨hc, hs⟩ hX hK hw [19] (by decide) rfl rfl rfl rfl rfl hl.1 rfl rfl dL_law_602) hw hA [19] (by decide) rfl rfl (fun H locs hw => ?_)
  have hw : Wd dC dI A s.heap (LW h q k (fset S 14 y2.2) pl im0 im1) H locs := hw
  refine lv_pop hx hb dL_law_605 rfl ?_
  refine lv_goto (tgt := 1181) hx hb dL_law_606 (by decide) ?_
  exact kk H locs hw

set_option maxHeartbeats 4000000 in
set_option maxRecDepth 100000 in
theorem lx_15 {p : Program} {l : Launch} {e : Env} {s : State} {m : MethodId} {below : List Frame} {meth : Method} {c : Code} {b L : Nat} {xs : Nat → Int32} {A : Nat → Prop} {dC : Nat → ClassId} {dI : Nat → Nat → Nat} {Q : State → Prop} {H : Heap} {locs : List Loc} {ls : Array Slot} {cells slots : Nat} {h : Nat → Nat} {q : Nat → Nat → Nat} {k : Nat → Nat → ClassId} {S : Nat → Ob} {pl : List CR} {im0 im1 : Option IR} {i : Int32} {n : Nat} (hx : p.tables.exec = Jvm.exec) (hb : c.code = code) (hml : c.maxLocals = 4) (hown : s.vm.findClass RL = some m.cls) (hts : ∀ w ∈ gt, w.before #[Value.ref b] s = true) (hX : wX s ∧ wT dI A s) (hXs : va_X b L xs s s.heap) (hbl : b < s.heap.size) (hbA : ¬ A b) (hA : ∀ q, s.heap.size ≤ q → A q) (hi : i.toInt = (n : Int)) (hn : n + 6 ≤ L) (hL : L ≤ 3072) (hc : cells.ble 600000 = true) (hs : slots.ble 7302250 = true) (hK : va_K (dC, dI) vwCl (Jt (LT k pl im0 im1)) s) (hw : Wd dC dI A s.heap (LW h q k S pl im0 im1) H locs) (hl : lv_has ls 4 [(0, .ref b), (1, .ref (h 0)), (2, .ref (h 14)), (3, .int i)]) (y1 : Int32 × Ob × Ob × Ob × Ob × Ob) (h1 : f_X8_race (S 0) (S 3) (S 4) (S 5) (S 6) (S 11) pl (xs (i + (1 : Int32)).toNatClampNeg) = some y1) (kk : ∀ (H : Heap) (locs : List Loc), Wd dC dI A s.heap (LW h q k (fset (fset (fset (fset (fset S 0 y1.2.1) 3 y1.2.2.1) 5 y1.2.2.2.1) 6 y1.2.2.2.2.1) 11 y1.2.2.2.2.2) pl im0 im1) H locs → W p l e room_1 s m #[Value.ref b] below meth c H locs cells slots Q (F0 m 619 ls [])) : W p l e room_1 s m #[Value.ref b] below meth c H locs cells slots Q (F0 m 609 ls []) := by
  refine lv_aload_n hx hb dL_law_609 rfl (lv_at hl 1 rfl) ?_
  refine lv_aload_n hx hb dL_law_610 rfl (lv_at hl 0 rfl) ?_
  refine lv_iload_n hx hb dL_law_611 rfl (lv_at hl 3 rfl) ?_
  refine lv_iconst (v := 1) hx hb dL_law_612 (by decide) ?_
  refine lv_iadd hx hb dL_law_613 ?_
  refine va_sld hx hb hXs hbl hbA hw.2.2 (law_in hi hn hL (j := 1) (by decide) (by decide)) dL_law_614 ?_
  refine xj_i (xrV (As := [.int (xs (i + (1 : Int32)).toNatClampNeg)]) (rest := []) ⟨hx, hb, hml, hown, hts⟩ (m_X8_race l dC dI _ (h 0) (h 1) (h 3) (h 4) (h 6) (h 7) (h 8) (h 10) (h 11) (h 12) (h 13) (h 5) (q 0) (k 0) (q 3) (k 3) (q 4) (k 4) (q 5) (k 5) (q 6) (k 6) (q 11) (k 11) (S 0) (S 3) (S 4) (S 5) (S 6) (S 11) pl (xs (i + (1 : Int32)).toNatClampNeg) y1 h1) kw914 kw911 kw912 kw913 kw110 hd_X8_race ⟨rfl, rfl⟩ rfl rfl ⟨hc, hs⟩ hX hK hw [0, 3, 4, 5, 6, 11, 14] (by decide) rfl rfl rfl rfl rfl hl.1 rfl rfl dL_law_615) hw hA [0, 3, 4, 5, 6, 11, 14] (by decide) rfl rfl (fun H locs hw => ?_)
  have hw : Wd dC dI A s.heap (LW h q k (fset (fset (fset (fset (fset S 0 y1.2.1) 3 y1.2.2.1) 5 y1.2.2.2.1) 6 y1.2.2.2.2.1) 11 y1.2.2.2.2.2) pl im0 im1) H locs := hw
  refine lv_pop hx hb dL_law_618 rfl ?_
  exact kk H locs hw

set_option maxHeartbeats 4000000 in
set_option maxRecDepth 100000 in
theorem lm_15 {p : Program} {l : Launch} {e : Env} {s : State} {m : MethodId} {below : List Frame} {meth : Method} {c : Code} {b L : Nat} {xs : Nat → Int32} {A : Nat → Prop} {dC : Nat → ClassId} {dI : Nat → Nat → Nat} {Q : State → Prop} {H : Heap} {locs : List Loc} {ls : Array Slot} {cells slots : Nat} {h : Nat → Nat} {q : Nat → Nat → Nat} {k : Nat → Nat → ClassId} {S : Nat → Ob} {pl : List CR} {im0 im1 : Option IR} {i : Int32} {n : Nat} (hx : p.tables.exec = Jvm.exec) (hb : c.code = code) (hml : c.maxLocals = 4) (hown : s.vm.findClass RL = some m.cls) (hts : ∀ w ∈ gt, w.before #[Value.ref b] s = true) (hX : wX s ∧ wT dI A s) (hXs : va_X b L xs s s.heap) (hbl : b < s.heap.size) (hbA : ¬ A b) (hA : ∀ q, s.heap.size ≤ q → A q) (hi : i.toInt = (n : Int)) (hn : n + 6 ≤ L) (hL : L ≤ 3072) (hc : cells.ble 600000 = true) (hs : slots.ble 7302250 = true) (hK : va_K (dC, dI) vwCl (Jt (LT k pl im0 im1)) s) (hw : Wd dC dI A s.heap (LW h q k S pl im0 im1) H locs) (hl : lv_has ls 4 [(0, .ref b), (1, .ref (h 0)), (2, .ref (h 14)), (3, .int i)]) (y2 : Int32 × Ob) (h2 : f_X9_race (S 14) (xs (i + (1 : Int32)).toNatClampNeg) = some y2) (kk : ∀ (H : Heap) (locs : List Loc), Wd dC dI A s.heap (LW h q k (fset S 14 y2.2) pl im0 im1) H locs → W p l e room_1 s m #[Value.ref b] below meth c H locs cells slots Q (F0 m 1181 ls [])) : W p l e room_1 s m #[Value.ref b] below meth c H locs cells slots Q (F0 m 619 ls []) := by
  refine lv_aload_n hx hb dL_law_619 rfl (lv_at hl 2 rfl) ?_
  refine lv_aload_n hx hb dL_law_620 rfl (lv_at hl 0 rfl) ?_
  refine lv_iload_n hx hb dL_law_621 rfl (lv_at hl 3 rfl) ?_
  refine lv_iconst (v := 1) hx hb dL_law_622 (by decide) ?_
  refine lv_iadd hx hb dL_law_623 ?_
  refine va_sld hx hb hXs hbl hbA hw.2.2 (law_in hi hn hL (j := 1) (by decide) (by decide)) dL_law_624 ?_
  refine xj_i (xrV (As := [.int (xs (i + (1 : Int32)).toNatClampNeg)]) (rest := []) ⟨hx, hb, hml, hown, hts⟩ (m_X9_race l dC dI _ (h 14) (q 14) (k 14) (S 14) (xs (i + (1 : Int32)).toNatClampNeg) y2 h2) kw1627 kw1624 kw1625 kw1626 kw120 hd_X9_race ⟨rfl, rfl⟩ rfl rfl ⟨hc, hs⟩ hX hK hw [19] (by decide) rfl rfl rfl rfl rfl hl.1 rfl rfl dL_law_625) hw hA [19] (by decide) rfl rfl (fun H locs hw => ?_)
  have hw : Wd dC dI A s.heap (LW h q k (fset S 14 y2.2) pl im0 im1) H locs := hw
  refine lv_pop hx hb dL_law_628 rfl ?_
  refine lv_goto (tgt := 1181) hx hb dL_law_629 (by decide) ?_
  exact kk H locs hw

set_option maxHeartbeats 4000000 in
set_option maxRecDepth 100000 in
theorem lx_16 {p : Program} {l : Launch} {e : Env} {s : State} {m : MethodId} {below : List Frame} {meth : Method} {c : Code} {b L : Nat} {xs : Nat → Int32} {A : Nat → Prop} {dC : Nat → ClassId} {dI : Nat → Nat → Nat} {Q : State → Prop} {H : Heap} {locs : List Loc} {ls : Array Slot} {cells slots : Nat} {h : Nat → Nat} {q : Nat → Nat → Nat} {k : Nat → Nat → ClassId} {S : Nat → Ob} {pl : List CR} {im0 im1 : Option IR} {i : Int32} {n : Nat} (hx : p.tables.exec = Jvm.exec) (hb : c.code = code) (hml : c.maxLocals = 4) (hown : s.vm.findClass RL = some m.cls) (hts : ∀ w ∈ gt, w.before #[Value.ref b] s = true) (hX : wX s ∧ wT dI A s) (hXs : va_X b L xs s s.heap) (hbl : b < s.heap.size) (hbA : ¬ A b) (hA : ∀ q, s.heap.size ≤ q → A q) (hi : i.toInt = (n : Int)) (hn : n + 6 ≤ L) (hL : L ≤ 3072) (hc : cells.ble 600000 = true) (hs : slots.ble 7302250 = true) (hK : va_K (dC, dI) vwCl (Jt (LT k pl im0 im1)) s) (hw : Wd dC dI A s.heap (LW h q k S pl im0 im1) H locs) (hl : lv_has ls 4 [(0, .ref b), (1, .ref (h 0)), (2, .ref (h 14)), (3, .int i)]) (y1 : Int32 × Ob × Ob × Ob × Ob × Ob) (h1 : f_X8_enter (S 0) (S 3) (S 4) (S 5) (S 6) (S 11) pl (xs (i + (1 : Int32)).toNatClampNeg) = some y1) (kk : ∀ (H : Heap) (locs : List Loc), Wd dC dI A s.heap (LW h q k (fset (fset (fset (fset (fset S 0 y1.2.1) 3 y1.2.2.1) 5 y1.2.2.2.1) 6 y1.2.2.2.2.1) 11 y1.2.2.2.2.2) pl im0 im1) H locs → W p l e room_1 s m #[Value.ref b] below meth c H locs cells slots Q (F0 m 642 ls [])) : W p l e room_1 s m #[Value.ref b] below meth c H locs cells slots Q (F0 m 632 ls []) := by
  refine lv_aload_n hx hb dL_law_632 rfl (lv_at hl 1 rfl) ?_
  refine lv_aload_n hx hb dL_law_633 rfl (lv_at hl 0 rfl) ?_
  refine lv_iload_n hx hb dL_law_634 rfl (lv_at hl 3 rfl) ?_
  refine lv_iconst (v := 1) hx hb dL_law_635 (by decide) ?_
  refine lv_iadd hx hb dL_law_636 ?_
  refine va_sld hx hb hXs hbl hbA hw.2.2 (law_in hi hn hL (j := 1) (by decide) (by decide)) dL_law_637 ?_
  refine xj_i (xrV (As := [.int (xs (i + (1 : Int32)).toNatClampNeg)]) (rest := []) ⟨hx, hb, hml, hown, hts⟩ (m_X8_enter l dC dI _ (h 0) (h 1) (h 3) (h 4) (h 6) (h 7) (h 8) (h 10) (h 11) (h 12) (h 13) (h 5) (q 0) (k 0) (q 3) (k 3) (q 4) (k 4) (q 5) (k 5) (q 6) (k 6) (q 11) (k 11) (S 0) (S 3) (S 4) (S 5) (S 6) (S 11) pl (xs (i + (1 : Int32)).toNatClampNeg) y1 h1) kw922 kw919 kw920 kw921 kw110 hd_X8_enter ⟨rfl, rfl⟩ rfl rfl ⟨hc, hs⟩ hX hK hw [0, 3, 4, 5, 6, 11, 14] (by decide) rfl rfl rfl rfl rfl hl.1 rfl rfl dL_law_638) hw hA [0, 3, 4, 5, 6, 11, 14] (by decide) rfl rfl (fun H locs hw => ?_)
  have hw : Wd dC dI A s.heap (LW h q k (fset (fset (fset (fset (fset S 0 y1.2.1) 3 y1.2.2.1) 5 y1.2.2.2.1) 6 y1.2.2.2.2.1) 11 y1.2.2.2.2.2) pl im0 im1) H locs := hw
  refine lv_pop hx hb dL_law_641 rfl ?_
  exact kk H locs hw

set_option maxHeartbeats 4000000 in
set_option maxRecDepth 100000 in
theorem lm_16 {p : Program} {l : Launch} {e : Env} {s : State} {m : MethodId} {below : List Frame} {meth : Method} {c : Code} {b L : Nat} {xs : Nat → Int32} {A : Nat → Prop} {dC : Nat → ClassId} {dI : Nat → Nat → Nat} {Q : State → Prop} {H : Heap} {locs : List Loc} {ls : Array Slot} {cells slots : Nat} {h : Nat → Nat} {q : Nat → Nat → Nat} {k : Nat → Nat → ClassId} {S : Nat → Ob} {pl : List CR} {im0 im1 : Option IR} {i : Int32} {n : Nat} (hx : p.tables.exec = Jvm.exec) (hb : c.code = code) (hml : c.maxLocals = 4) (hown : s.vm.findClass RL = some m.cls) (hts : ∀ w ∈ gt, w.before #[Value.ref b] s = true) (hX : wX s ∧ wT dI A s) (hXs : va_X b L xs s s.heap) (hbl : b < s.heap.size) (hbA : ¬ A b) (hA : ∀ q, s.heap.size ≤ q → A q) (hi : i.toInt = (n : Int)) (hn : n + 6 ≤ L) (hL : L ≤ 3072) (hc : cells.ble 600000 = true) (hs : slots.ble 7302250 = true) (hK : va_K (dC, dI) vwCl (Jt (LT k pl im0 im1)) s) (hw : Wd dC dI A s.heap (LW h q k S pl im0 im1) H locs) (hl : lv_has ls 4 [(0, .ref b), (1, .ref (h 0)), (2, .ref (h 14)), (3, .int i)]) (y2 : Int32 × Ob) (h2 : f_X9_enter (S 14) (xs (i + (1 : Int32)).toNatClampNeg) = some y2) (kk : ∀ (H : Heap) (locs : List Loc), Wd dC dI A s.heap (LW h q k (fset S 14 y2.2) pl im0 im1) H locs → W p l e room_1 s m #[Value.ref b] below meth c H locs cells slots Q (F0 m 1181 ls [])) : W p l e room_1 s m #[Value.ref b] below meth c H locs cells slots Q (F0 m 642 ls []) := by
  refine lv_aload_n hx hb dL_law_642 rfl (lv_at hl 2 rfl) ?_
  refine lv_aload_n hx hb dL_law_643 rfl (lv_at hl 0 rfl) ?_
  refine lv_iload_n hx hb dL_law_644 rfl (lv_at hl 3 rfl) ?_
  refine lv_iconst (v := 1) hx hb dL_law_645 (by decide) ?_
  refine lv_iadd hx hb dL_law_646 ?_
  refine va_sld hx hb hXs hbl hbA hw.2.2 (law_in hi hn hL (j := 1) (by decide) (by decide)) dL_law_647 ?_
  refine xj_i (xrV (As := [.int (xs (i + (1 : Int32)).toNatClampNeg)]) (rest := []) ⟨hx, hb, hml, hown, hts⟩ (m_X9_enter l dC dI _ (h 14) (q 14) (k 14) (S 14) (xs (i + (1 : Int32)).toNatClampNeg) y2 h2) kw1656 kw1653 kw1654 kw1655 kw120 hd_X9_enter ⟨rfl, rfl⟩ rfl rfl ⟨hc, hs⟩ hX hK hw [19] (by decide) rfl rfl rfl rfl rfl hl.1 rfl rfl dL_law_648) hw hA [19] (by decide) rfl rfl (fun H locs hw => ?_)
  have hw : Wd dC dI A s.heap (LW h q k (fset S 14 y2.2) pl im0 im1) H locs := hw
  refine lv_pop hx hb dL_law_651 rfl ?_
  refine lv_goto (tgt := 1181) hx hb dL_law_652 (by decide) ?_
  exact kk H locs hw

set_option maxHeartbeats 4000000 in
set_option maxRecDepth 100000 in
theorem lx_17 {p : Program} {l : Launch} {e : Env} {s : State} {m : MethodId} {below : List Frame} {meth : Method} {c : Code} {b L : Nat} {xs : Nat → Int32} {A : Nat → Prop} {dC : Nat → ClassId} {dI : Nat → Nat → Nat} {Q : State → Prop} {H : Heap} {locs : List Loc} {ls : Array Slot} {cells slots : Nat} {h : Nat → Nat} {q : Nat → Nat → Nat} {k : Nat → Nat → ClassId} {S : Nat → Ob} {pl : List CR} {im0 im1 : Option IR} {i : Int32} {n : Nat} (hx : p.tables.exec = Jvm.exec) (hb : c.code = code) (hml : c.maxLocals = 4) (hown : s.vm.findClass RL = some m.cls) (hts : ∀ w ∈ gt, w.before #[Value.ref b] s = true) (hX : wX s ∧ wT dI A s) (hXs : va_X b L xs s s.heap) (hbl : b < s.heap.size) (hbA : ¬ A b) (hA : ∀ q, s.heap.size ≤ q → A q) (hi : i.toInt = (n : Int)) (hn : n + 6 ≤ L) (hL : L ≤ 3072) (hc : cells.ble 600000 = true) (hs : slots.ble 7302250 = true) (hK : va_K (dC, dI) vwCl (Jt (LT k pl im0 im1)) s) (hw : Wd dC dI A s.heap (LW h q k S pl im0 im1) H locs) (hl : lv_has ls 4 [(0, .ref b), (1, .ref (h 0)), (2, .ref (h 14)), (3, .int i)]) (y1 : Int32 × Ob × Ob × Ob × Ob × Ob) (h1 : f_X8_take (S 0) (S 3) (S 4) (S 5) (S 6) (S 11) pl (xs (i + (1 : Int32)).toNatClampNeg) = some y1) (kk : ∀ (H : Heap) (locs : List Loc), Wd dC dI A s.heap (LW h q k (fset (fset (fset (fset (fset S 0 y1.2.1) 3 y1.2.2.1) 5 y1.2.2.2.1) 6 y1.2.2.2.2.1) 11 y1.2.2.2.2.2) pl im0 im1) H locs → W p l e room_1 s m #[Value.ref b] below meth c H locs cells slots Q (F0 m 665 ls [])) : W p l e room_1 s m #[Value.ref b] below meth c H locs cells slots Q (F0 m 655 ls []) := by
  refine lv_aload_n hx hb dL_law_655 rfl (lv_at hl 1 rfl) ?_
  refine lv_aload_n hx hb dL_law_656 rfl (lv_at hl 0 rfl) ?_
  refine lv_iload_n hx hb dL_law_657 rfl (lv_at hl 3 rfl) ?_
  refine lv_iconst (v := 1) hx hb dL_law_658 (by decide) ?_
  refine lv_iadd hx hb dL_law_659 ?_
  refine va_sld hx hb hXs hbl hbA hw.2.2 (law_in hi hn hL (j := 1) (by decide) (by decide)) dL_law_660 ?_
  refine xj_i (xrV (As := [.int (xs (i + (1 : Int32)).toNatClampNeg)]) (rest := []) ⟨hx, hb, hml, hown, hts⟩ (m_X8_take l dC dI _ (h 0) (h 1) (h 3) (h 4) (h 6) (h 7) (h 8) (h 10) (h 11) (h 12) (h 13) (h 5) (q 0) (k 0) (q 3) (k 3) (q 4) (k 4) (q 5) (k 5) (q 6) (k 6) (q 11) (k 11) (S 0) (S 3) (S 4) (S 5) (S 6) (S 11) pl (xs (i + (1 : Int32)).toNatClampNeg) y1 h1) kw926 kw923 kw924 kw925 kw110 hd_X8_take ⟨rfl, rfl⟩ rfl rfl ⟨hc, hs⟩ hX hK hw [0, 3, 4, 5, 6, 11, 14] (by decide) rfl rfl rfl rfl rfl hl.1 rfl rfl dL_law_661) hw hA [0, 3, 4, 5, 6, 11, 14] (by decide) rfl rfl (fun H locs hw => ?_)
  have hw : Wd dC dI A s.heap (LW h q k (fset (fset (fset (fset (fset S 0 y1.2.1) 3 y1.2.2.1) 5 y1.2.2.2.1) 6 y1.2.2.2.2.1) 11 y1.2.2.2.2.2) pl im0 im1) H locs := hw
  refine lv_pop hx hb dL_law_664 rfl ?_
  exact kk H locs hw

set_option maxHeartbeats 4000000 in
set_option maxRecDepth 100000 in
theorem lm_17 {p : Program} {l : Launch} {e : Env} {s : State} {m : MethodId} {below : List Frame} {meth : Method} {c : Code} {b L : Nat} {xs : Nat → Int32} {A : Nat → Prop} {dC : Nat → ClassId} {dI : Nat → Nat → Nat} {Q : State → Prop} {H : Heap} {locs : List Loc} {ls : Array Slot} {cells slots : Nat} {h : Nat → Nat} {q : Nat → Nat → Nat} {k : Nat → Nat → ClassId} {S : Nat → Ob} {pl : List CR} {im0 im1 : Option IR} {i : Int32} {n : Nat} (hx : p.tables.exec = Jvm.exec) (hb : c.code = code) (hml : c.maxLocals = 4) (hown : s.vm.findClass RL = some m.cls) (hts : ∀ w ∈ gt, w.before #[Value.ref b] s = true) (hX : wX s ∧ wT dI A s) (hXs : va_X b L xs s s.heap) (hbl : b < s.heap.size) (hbA : ¬ A b) (hA : ∀ q, s.heap.size ≤ q → A q) (hi : i.toInt = (n : Int)) (hn : n + 6 ≤ L) (hL : L ≤ 3072) (hc : cells.ble 600000 = true) (hs : slots.ble 7302250 = true) (hK : va_K (dC, dI) vwCl (Jt (LT k pl im0 im1)) s) (hw : Wd dC dI A s.heap (LW h q k S pl im0 im1) H locs) (hl : lv_has ls 4 [(0, .ref b), (1, .ref (h 0)), (2, .ref (h 14)), (3, .int i)]) (y2 : Int32 × Ob) (h2 : f_X9_take (S 14) (xs (i + (1 : Int32)).toNatClampNeg) = some y2) (kk : ∀ (H : Heap) (locs : List Loc), Wd dC dI A s.heap (LW h q k (fset S 14 y2.2) pl im0 im1) H locs → W p l e room_1 s m #[Value.ref b] below meth c H locs cells slots Q (F0 m 1181 ls [])) : W p l e room_1 s m #[Value.ref b] below meth c H locs cells slots Q (F0 m 665 ls []) := by
  refine lv_aload_n hx hb dL_law_665 rfl (lv_at hl 2 rfl) ?_
  refine lv_aload_n hx hb dL_law_666 rfl (lv_at hl 0 rfl) ?_
  refine lv_iload_n hx hb dL_law_667 rfl (lv_at hl 3 rfl) ?_
  refine lv_iconst (v := 1) hx hb dL_law_668 (by decide) ?_
  refine lv_iadd hx hb dL_law_669 ?_
  refine va_sld hx hb hXs hbl hbA hw.2.2 (law_in hi hn hL (j := 1) (by decide) (by decide)) dL_law_670 ?_
  refine xj_i (xrV (As := [.int (xs (i + (1 : Int32)).toNatClampNeg)]) (rest := []) ⟨hx, hb, hml, hown, hts⟩ (m_X9_take l dC dI _ (h 14) (q 14) (k 14) (S 14) (xs (i + (1 : Int32)).toNatClampNeg) y2 h2) kw1664 kw1661 kw1662 kw1663 kw120 hd_X9_take ⟨rfl, rfl⟩ rfl rfl ⟨hc, hs⟩ hX hK hw [19] (by decide) rfl rfl rfl rfl rfl hl.1 rfl rfl dL_law_671) hw hA [19] (by decide) rfl rfl (fun H locs hw => ?_)
  have hw : Wd dC dI A s.heap (LW h q k (fset S 14 y2.2) pl im0 im1) H locs := hw
  refine lv_pop hx hb dL_law_674 rfl ?_
  refine lv_goto (tgt := 1181) hx hb dL_law_675 (by decide) ?_
  exact kk H locs hw

set_option maxHeartbeats 4000000 in
set_option maxRecDepth 100000 in
theorem lx_18 {p : Program} {l : Launch} {e : Env} {s : State} {m : MethodId} {below : List Frame} {meth : Method} {c : Code} {b L : Nat} {xs : Nat → Int32} {A : Nat → Prop} {dC : Nat → ClassId} {dI : Nat → Nat → Nat} {Q : State → Prop} {H : Heap} {locs : List Loc} {ls : Array Slot} {cells slots : Nat} {h : Nat → Nat} {q : Nat → Nat → Nat} {k : Nat → Nat → ClassId} {S : Nat → Ob} {pl : List CR} {im0 im1 : Option IR} {i : Int32} {n : Nat} (hx : p.tables.exec = Jvm.exec) (hb : c.code = code) (hml : c.maxLocals = 4) (hown : s.vm.findClass RL = some m.cls) (hts : ∀ w ∈ gt, w.before #[Value.ref b] s = true) (hX : wX s ∧ wT dI A s) (hXs : va_X b L xs s s.heap) (hbl : b < s.heap.size) (hbA : ¬ A b) (hA : ∀ q, s.heap.size ≤ q → A q) (hi : i.toInt = (n : Int)) (hn : n + 6 ≤ L) (hL : L ≤ 3072) (hc : cells.ble 600000 = true) (hs : slots.ble 7302250 = true) (hK : va_K (dC, dI) vwCl (Jt (LT k pl im0 im1)) s) (hw : Wd dC dI A s.heap (LW h q k S pl im0 im1) H locs) (hl : lv_has ls 4 [(0, .ref b), (1, .ref (h 0)), (2, .ref (h 14)), (3, .int i)]) (y1 : Int32 × Ob × Ob × Ob × Ob × Ob) (h1 : f_X8_pass (S 0) (S 3) (S 4) (S 5) (S 6) (S 11) pl = some y1) (kk : ∀ (H : Heap) (locs : List Loc), Wd dC dI A s.heap (LW h q k (fset (fset (fset (fset (fset S 0 y1.2.1) 3 y1.2.2.1) 5 y1.2.2.2.1) 6 y1.2.2.2.2.1) 11 y1.2.2.2.2.2) pl im0 im1) H locs → W p l e room_1 s m #[Value.ref b] below meth c H locs cells slots Q (F0 m 683 ls [])) : W p l e room_1 s m #[Value.ref b] below meth c H locs cells slots Q (F0 m 678 ls []) := by
  refine lv_aload_n hx hb dL_law_678 rfl (lv_at hl 1 rfl) ?_
  refine xj_i (xrV (As := []) (rest := []) ⟨hx, hb, hml, hown, hts⟩ (m_X8_pass l dC dI _ (h 0) (h 1) (h 3) (h 4) (h 6) (h 7) (h 8) (h 10) (h 11) (h 12) (h 13) (h 5) (q 0) (k 0) (q 3) (k 3) (q 4) (k 4) (q 5) (k 5) (q 6) (k 6) (q 11) (k 11) (S 0) (S 3) (S 4) (S 5) (S 6) (S 11) pl y1 h1) kw930 kw927 kw928 kw929 kw110 hd_X8_pass ⟨rfl, rfl⟩ rfl rfl ⟨hc, hs⟩ hX hK hw [0, 3, 4, 5, 6, 11, 14] (by decide) rfl rfl rfl rfl rfl hl.1 rfl rfl dL_law_679) hw hA [0, 3, 4, 5, 6, 11, 14] (by decide) rfl rfl (fun H locs hw => ?_)
  have hw : Wd dC dI A s.heap (LW h q k (fset (fset (fset (fset (fset S 0 y1.2.1) 3 y1.2.2.1) 5 y1.2.2.2.1) 6 y1.2.2.2.2.1) 11 y1.2.2.2.2.2) pl im0 im1) H locs := hw
  refine lv_pop hx hb dL_law_682 rfl ?_
  exact kk H locs hw

set_option maxHeartbeats 4000000 in
set_option maxRecDepth 100000 in
theorem lm_18 {p : Program} {l : Launch} {e : Env} {s : State} {m : MethodId} {below : List Frame} {meth : Method} {c : Code} {b L : Nat} {xs : Nat → Int32} {A : Nat → Prop} {dC : Nat → ClassId} {dI : Nat → Nat → Nat} {Q : State → Prop} {H : Heap} {locs : List Loc} {ls : Array Slot} {cells slots : Nat} {h : Nat → Nat} {q : Nat → Nat → Nat} {k : Nat → Nat → ClassId} {S : Nat → Ob} {pl : List CR} {im0 im1 : Option IR} {i : Int32} {n : Nat} (hx : p.tables.exec = Jvm.exec) (hb : c.code = code) (hml : c.maxLocals = 4) (hown : s.vm.findClass RL = some m.cls) (hts : ∀ w ∈ gt, w.before #[Value.ref b] s = true) (hX : wX s ∧ wT dI A s) (hXs : va_X b L xs s s.heap) (hbl : b < s.heap.size) (hbA : ¬ A b) (hA : ∀ q, s.heap.size ≤ q → A q) (hi : i.toInt = (n : Int)) (hn : n + 6 ≤ L) (hL : L ≤ 3072) (hc : cells.ble 600000 = true) (hs : slots.ble 7302250 = true) (hK : va_K (dC, dI) vwCl (Jt (LT k pl im0 im1)) s) (hw : Wd dC dI A s.heap (LW h q k S pl im0 im1) H locs) (hl : lv_has ls 4 [(0, .ref b), (1, .ref (h 0)), (2, .ref (h 14)), (3, .int i)]) (y2 : Int32 × Ob) (h2 : f_X9_pass (S 14) = some y2) (kk : ∀ (H : Heap) (locs : List Loc), Wd dC dI A s.heap (LW h q k (fset S 14 y2.2) pl im0 im1) H locs → W p l e room_1 s m #[Value.ref b] below meth c H locs cells slots Q (F0 m 1181 ls [])) : W p l e room_1 s m #[Value.ref b] below meth c H locs cells slots Q (F0 m 683 ls []) := by
  refine lv_aload_n hx hb dL_law_683 rfl (lv_at hl 2 rfl) ?_
  refine xj_i (xrV (As := []) (rest := []) ⟨hx, hb, hml, hown, hts⟩ (m_X9_pass l dC dI _ (h 14) (q 14) (k 14) (S 14) y2 h2) kw1676 kw1673 kw1674 kw1675 kw120 hd_X9_pass ⟨rfl, rfl⟩ rfl rfl ⟨hc, hs⟩ hX hK hw [19] (by decide) rfl rfl rfl rfl rfl hl.1 rfl rfl dL_law_684) hw hA [19] (by decide) rfl rfl (fun H locs hw => ?_)
  have hw : Wd dC dI A s.heap (LW h q k (fset S 14 y2.2) pl im0 im1) H locs := hw
  refine lv_pop hx hb dL_law_687 rfl ?_
  refine lv_goto (tgt := 1181) hx hb dL_law_688 (by decide) ?_
  exact kk H locs hw

set_option maxHeartbeats 4000000 in
set_option maxRecDepth 100000 in
theorem lx_19 {p : Program} {l : Launch} {e : Env} {s : State} {m : MethodId} {below : List Frame} {meth : Method} {c : Code} {b L : Nat} {xs : Nat → Int32} {A : Nat → Prop} {dC : Nat → ClassId} {dI : Nat → Nat → Nat} {Q : State → Prop} {H : Heap} {locs : List Loc} {ls : Array Slot} {cells slots : Nat} {h : Nat → Nat} {q : Nat → Nat → Nat} {k : Nat → Nat → ClassId} {S : Nat → Ob} {pl : List CR} {im0 im1 : Option IR} {i : Int32} {n : Nat} (hx : p.tables.exec = Jvm.exec) (hb : c.code = code) (hml : c.maxLocals = 4) (hown : s.vm.findClass RL = some m.cls) (hts : ∀ w ∈ gt, w.before #[Value.ref b] s = true) (hX : wX s ∧ wT dI A s) (hXs : va_X b L xs s s.heap) (hbl : b < s.heap.size) (hbA : ¬ A b) (hA : ∀ q, s.heap.size ≤ q → A q) (hi : i.toInt = (n : Int)) (hn : n + 6 ≤ L) (hL : L ≤ 3072) (hc : cells.ble 600000 = true) (hs : slots.ble 7302250 = true) (hK : va_K (dC, dI) vwCl (Jt (LT k pl im0 im1)) s) (hw : Wd dC dI A s.heap (LW h q k S pl im0 im1) H locs) (hl : lv_has ls 4 [(0, .ref b), (1, .ref (h 0)), (2, .ref (h 14)), (3, .int i)]) (y1 : Int32 × Ob × Ob × Ob) (h1 : f_X8_undo (S 0) (S 4) (S 5) (S 11) = some y1) (kk : ∀ (H : Heap) (locs : List Loc), Wd dC dI A s.heap (LW h q k (fset (fset (fset S 0 y1.2.1) 5 y1.2.2.1) 11 y1.2.2.2) pl im0 im1) H locs → W p l e room_1 s m #[Value.ref b] below meth c H locs cells slots Q (F0 m 696 ls [])) : W p l e room_1 s m #[Value.ref b] below meth c H locs cells slots Q (F0 m 691 ls []) := by
  refine lv_aload_n hx hb dL_law_691 rfl (lv_at hl 1 rfl) ?_
  refine xj_i (xrV (As := []) (rest := []) ⟨hx, hb, hml, hown, hts⟩ (m_X8_undo l dC dI _ (h 0) (h 1) (h 3) (h 4) (h 6) (h 7) (h 8) (h 10) (h 11) (h 12) (h 13) (h 5) (q 0) (k 0) (q 4) (k 4) (q 5) (k 5) (q 11) (k 11) (S 0) (S 4) (S 5) (S 11) y1 h1) kw934 kw931 kw932 kw933 kw110 hd_X8_undo ⟨rfl, rfl⟩ rfl rfl ⟨hc, hs⟩ hX hK hw [0, 4, 5, 11] (by decide) rfl rfl rfl rfl rfl hl.1 rfl rfl dL_law_692) hw hA [0, 4, 5, 11] (by decide) rfl rfl (fun H locs hw => ?_)
  have hw : Wd dC dI A s.heap (LW h q k (fset (fset (fset S 0 y1.2.1) 5 y1.2.2.1) 11 y1.2.2.2) pl im0 im1) H locs := hw
  refine lv_pop hx hb dL_law_695 rfl ?_
  exact kk H locs hw

set_option maxHeartbeats 4000000 in
set_option maxRecDepth 100000 in
theorem lm_19 {p : Program} {l : Launch} {e : Env} {s : State} {m : MethodId} {below : List Frame} {meth : Method} {c : Code} {b L : Nat} {xs : Nat → Int32} {A : Nat → Prop} {dC : Nat → ClassId} {dI : Nat → Nat → Nat} {Q : State → Prop} {H : Heap} {locs : List Loc} {ls : Array Slot} {cells slots : Nat} {h : Nat → Nat} {q : Nat → Nat → Nat} {k : Nat → Nat → ClassId} {S : Nat → Ob} {pl : List CR} {im0 im1 : Option IR} {i : Int32} {n : Nat} (hx : p.tables.exec = Jvm.exec) (hb : c.code = code) (hml : c.maxLocals = 4) (hown : s.vm.findClass RL = some m.cls) (hts : ∀ w ∈ gt, w.before #[Value.ref b] s = true) (hX : wX s ∧ wT dI A s) (hXs : va_X b L xs s s.heap) (hbl : b < s.heap.size) (hbA : ¬ A b) (hA : ∀ q, s.heap.size ≤ q → A q) (hi : i.toInt = (n : Int)) (hn : n + 6 ≤ L) (hL : L ≤ 3072) (hc : cells.ble 600000 = true) (hs : slots.ble 7302250 = true) (hK : va_K (dC, dI) vwCl (Jt (LT k pl im0 im1)) s) (hw : Wd dC dI A s.heap (LW h q k S pl im0 im1) H locs) (hl : lv_has ls 4 [(0, .ref b), (1, .ref (h 0)), (2, .ref (h 14)), (3, .int i)]) (y2 : Int32 × Ob) (h2 : f_X9_undo (S 14) = some y2) (kk : ∀ (H : Heap) (locs : List Loc), Wd dC dI A s.heap (LW h q k (fset S 14 y2.2) pl im0 im1) H locs → W p l e room_1 s m #[Value.ref b] below meth c H locs cells slots Q (F0 m 1181 ls [])) : W p l e room_1 s m #[Value.ref b] below meth c H locs cells slots Q (F0 m 696 ls []) := by
  refine lv_aload_n hx hb dL_law_696 rfl (lv_at hl 2 rfl) ?_
  refine xj_i (xrV (As := []) (rest := []) ⟨hx, hb, hml, hown, hts⟩ (m_X9_undo l dC dI _ (h 14) (q 14) (k 14) (S 14) y2 h2) kw1370 kw1367 kw1368 kw1369 kw120 hd_X9_undo ⟨rfl, rfl⟩ rfl rfl ⟨hc, hs⟩ hX hK hw [19] (by decide) rfl rfl rfl rfl rfl hl.1 rfl rfl dL_law_697) hw hA [19] (by decide) rfl rfl (fun H locs hw => ?_)
  have hw : Wd dC dI A s.heap (LW h q k (fset S 14 y2.2) pl im0 im1) H locs := hw
  refine lv_pop hx hb dL_law_700 rfl ?_
  refine lv_goto (tgt := 1181) hx hb dL_law_701 (by decide) ?_
  exact kk H locs hw

set_option maxHeartbeats 4000000 in
set_option maxRecDepth 100000 in
theorem lx_20 {p : Program} {l : Launch} {e : Env} {s : State} {m : MethodId} {below : List Frame} {meth : Method} {c : Code} {b L : Nat} {xs : Nat → Int32} {A : Nat → Prop} {dC : Nat → ClassId} {dI : Nat → Nat → Nat} {Q : State → Prop} {H : Heap} {locs : List Loc} {ls : Array Slot} {cells slots : Nat} {h : Nat → Nat} {q : Nat → Nat → Nat} {k : Nat → Nat → ClassId} {S : Nat → Ob} {pl : List CR} {im0 im1 : Option IR} {i : Int32} {n : Nat} (hx : p.tables.exec = Jvm.exec) (hb : c.code = code) (hml : c.maxLocals = 4) (hown : s.vm.findClass RL = some m.cls) (hts : ∀ w ∈ gt, w.before #[Value.ref b] s = true) (hX : wX s ∧ wT dI A s) (hXs : va_X b L xs s s.heap) (hbl : b < s.heap.size) (hbA : ¬ A b) (hA : ∀ q, s.heap.size ≤ q → A q) (hi : i.toInt = (n : Int)) (hn : n + 6 ≤ L) (hL : L ≤ 3072) (hc : cells.ble 600000 = true) (hs : slots.ble 7302250 = true) (hK : va_K (dC, dI) vwCl (Jt (LT k pl im0 im1)) s) (hw : Wd dC dI A s.heap (LW h q k S pl im0 im1) H locs) (hl : lv_has ls 4 [(0, .ref b), (1, .ref (h 0)), (2, .ref (h 14)), (3, .int i)]) (y1 : Int32 × Ob × Ob) (h1 : f_X8_be (S 0) (S 3) (S 4) (S 5) (S 6) (S 7) pl (xs (i + (1 : Int32)).toNatClampNeg) (xs (i + (2 : Int32)).toNatClampNeg) (xs (i + (3 : Int32)).toNatClampNeg) (xs (i + (4 : Int32)).toNatClampNeg) = some y1) (kk : ∀ (H : Heap) (locs : List Loc), Wd dC dI A s.heap (LW h q k (fset (fset S 3 y1.2.1) 7 y1.2.2) pl im0 im1) H locs → W p l e room_1 s m #[Value.ref b] below meth c H locs cells slots Q (F0 m 729 ls [])) : W p l e room_1 s m #[Value.ref b] below meth c H locs cells slots Q (F0 m 704 ls []) := by
  refine lv_aload_n hx hb dL_law_704 rfl (lv_at hl 1 rfl) ?_
  refine lv_aload_n hx hb dL_law_705 rfl (lv_at hl 0 rfl) ?_
  refine lv_iload_n hx hb dL_law_706 rfl (lv_at hl 3 rfl) ?_
  refine lv_iconst (v := 1) hx hb dL_law_707 (by decide) ?_
  refine lv_iadd hx hb dL_law_708 ?_
  refine va_sld hx hb hXs hbl hbA hw.2.2 (law_in hi hn hL (j := 1) (by decide) (by decide)) dL_law_709 ?_
  refine lv_aload_n hx hb dL_law_710 rfl (lv_at hl 0 rfl) ?_
  refine lv_iload_n hx hb dL_law_711 rfl (lv_at hl 3 rfl) ?_
  refine lv_iconst (v := 2) hx hb dL_law_712 (by decide) ?_
  refine lv_iadd hx hb dL_law_713 ?_
  refine va_sld hx hb hXs hbl hbA hw.2.2 (law_in hi hn hL (j := 2) (by decide) (by decide)) dL_law_714 ?_
  refine lv_aload_n hx hb dL_law_715 rfl (lv_at hl 0 rfl) ?_
  refine lv_iload_n hx hb dL_law_716 rfl (lv_at hl 3 rfl) ?_
  refine lv_iconst (v := 3) hx hb dL_law_717 (by decide) ?_
  refine lv_iadd hx hb dL_law_718 ?_
  refine va_sld hx hb hXs hbl hbA hw.2.2 (law_in hi hn hL (j := 3) (by decide) (by decide)) dL_law_719 ?_
  refine lv_aload_n hx hb dL_law_720 rfl (lv_at hl 0 rfl) ?_
  refine lv_iload_n hx hb dL_law_721 rfl (lv_at hl 3 rfl) ?_
  refine lv_iconst (v := 4) hx hb dL_law_722 (by decide) ?_
  refine lv_iadd hx hb dL_law_723 ?_
  refine va_sld hx hb hXs hbl hbA hw.2.2 (law_in hi hn hL (j := 4) (by decide) (by decide)) dL_law_724 ?_
  refine xj_i (xrV (As := [.int (xs (i + (1 : Int32)).toNatClampNeg), .int (xs (i + (2 : Int32)).toNatClampNeg), .int (xs (i + (3 : Int32)).toNatClampNeg), .int (xs (i + (4 : Int32)).toNatClampNeg)]) (rest := []) ⟨hx, hb, hml, hown, hts⟩ (m_X8_be l dC dI _ (h 0) (h 1) (h 3) (h 4) (h 6) (h 7) (h 8) (h 10) (h 11) (h 12) (h 13) (h 5) (q 0) (k 0) (q 3) (k 3) (q 4) (k 4) (q 5) (k 5) (q 6) (k 6) (q 7) (k 7) (S 0) (S 3) (S 4) (S 5) (S 6) (S 7) pl (xs (i + (1 : Int32)).toNatClampNeg) (xs (i + (2 : Int32)).toNatClampNeg) (xs (i + (3 : Int32)).toNatClampNeg) (xs (i + (4 : Int32)).toNatClampNeg) y1 h1) kw946 kw943 kw944 kw945 kw110 hd_X8_be ⟨rfl, rfl⟩ rfl rfl ⟨hc, hs⟩ hX hK hw [0, 3, 4, 5, 6, 7, 14] (by decide) rfl rfl rfl rfl rfl hl.1 rfl rfl dL_law_725) hw hA [0, 3, 4, 5, 6, 7, 14] (by decide) rfl rfl (fun H locs hw => ?_)
  have hw : Wd dC dI A s.heap (LW h q k (fset (fset S 3 y1.2.1) 7 y1.2.2) pl im0 im1) H locs := hw
  refine lv_pop hx hb dL_law_728 rfl ?_
  exact kk H locs hw

set_option maxHeartbeats 4000000 in
set_option maxRecDepth 100000 in
theorem lm_20 {p : Program} {l : Launch} {e : Env} {s : State} {m : MethodId} {below : List Frame} {meth : Method} {c : Code} {b L : Nat} {xs : Nat → Int32} {A : Nat → Prop} {dC : Nat → ClassId} {dI : Nat → Nat → Nat} {Q : State → Prop} {H : Heap} {locs : List Loc} {ls : Array Slot} {cells slots : Nat} {h : Nat → Nat} {q : Nat → Nat → Nat} {k : Nat → Nat → ClassId} {S : Nat → Ob} {pl : List CR} {im0 im1 : Option IR} {i : Int32} {n : Nat} (hx : p.tables.exec = Jvm.exec) (hb : c.code = code) (hml : c.maxLocals = 4) (hown : s.vm.findClass RL = some m.cls) (hts : ∀ w ∈ gt, w.before #[Value.ref b] s = true) (hX : wX s ∧ wT dI A s) (hXs : va_X b L xs s s.heap) (hbl : b < s.heap.size) (hbA : ¬ A b) (hA : ∀ q, s.heap.size ≤ q → A q) (hi : i.toInt = (n : Int)) (hn : n + 6 ≤ L) (hL : L ≤ 3072) (hc : cells.ble 600000 = true) (hs : slots.ble 7302250 = true) (hK : va_K (dC, dI) vwCl (Jt (LT k pl im0 im1)) s) (hw : Wd dC dI A s.heap (LW h q k S pl im0 im1) H locs) (hl : lv_has ls 4 [(0, .ref b), (1, .ref (h 0)), (2, .ref (h 14)), (3, .int i)]) (y2 : Int32 × Ob) (h2 : f_X9_be (S 14) (xs (i + (1 : Int32)).toNatClampNeg) (xs (i + (2 : Int32)).toNatClampNeg) (xs (i + (3 : Int32)).toNatClampNeg) (xs (i + (4 : Int32)).toNatClampNeg) = some y2) (kk : ∀ (H : Heap) (locs : List Loc), Wd dC dI A s.heap (LW h q k (fset S 14 y2.2) pl im0 im1) H locs → W p l e room_1 s m #[Value.ref b] below meth c H locs cells slots Q (F0 m 1181 ls [])) : W p l e room_1 s m #[Value.ref b] below meth c H locs cells slots Q (F0 m 729 ls []) := by
  refine lv_aload_n hx hb dL_law_729 rfl (lv_at hl 2 rfl) ?_
  refine lv_aload_n hx hb dL_law_730 rfl (lv_at hl 0 rfl) ?_
  refine lv_iload_n hx hb dL_law_731 rfl (lv_at hl 3 rfl) ?_
  refine lv_iconst (v := 1) hx hb dL_law_732 (by decide) ?_
  refine lv_iadd hx hb dL_law_733 ?_
  refine va_sld hx hb hXs hbl hbA hw.2.2 (law_in hi hn hL (j := 1) (by decide) (by decide)) dL_law_734 ?_
  refine lv_aload_n hx hb dL_law_735 rfl (lv_at hl 0 rfl) ?_
  refine lv_iload_n hx hb dL_law_736 rfl (lv_at hl 3 rfl) ?_
  refine lv_iconst (v := 2) hx hb dL_law_737 (by decide) ?_
  refine lv_iadd hx hb dL_law_738 ?_
  refine va_sld hx hb hXs hbl hbA hw.2.2 (law_in hi hn hL (j := 2) (by decide) (by decide)) dL_law_739 ?_
  refine lv_aload_n hx hb dL_law_740 rfl (lv_at hl 0 rfl) ?_
  refine lv_iload_n hx hb dL_law_741 rfl (lv_at hl 3 rfl) ?_
  refine lv_iconst (v := 3) hx hb dL_law_742 (by decide) ?_
  refine lv_iadd hx hb dL_law_743 ?_
  refine va_sld hx hb hXs hbl hbA hw.2.2 (law_in hi hn hL (j := 3) (by decide) (by decide)) dL_law_744 ?_
  refine lv_aload_n hx hb dL_law_745 rfl (lv_at hl 0 rfl) ?_
  refine lv_iload_n hx hb dL_law_746 rfl (lv_at hl 3 rfl) ?_
  refine lv_iconst (v := 4) hx hb dL_law_747 (by decide) ?_
  refine lv_iadd hx hb dL_law_748 ?_
  refine va_sld hx hb hXs hbl hbA hw.2.2 (law_in hi hn hL (j := 4) (by decide) (by decide)) dL_law_749 ?_
  refine xj_i (xrV (As := [.int (xs (i + (1 : Int32)).toNatClampNeg), .int (xs (i + (2 : Int32)).toNatClampNeg), .int (xs (i + (3 : Int32)).toNatClampNeg), .int (xs (i + (4 : Int32)).toNatClampNeg)]) (rest := []) ⟨hx, hb, hml, hown, hts⟩ (m_X9_be l dC dI _ (h 14) (q 14) (k 14) (S 14) (xs (i + (1 : Int32)).toNatClampNeg) (xs (i + (2 : Int32)).toNatClampNeg) (xs (i + (3 : Int32)).toNatClampNeg) (xs (i + (4 : Int32)).toNatClampNeg) y2 h2) kw1692 kw1689 kw1690 kw1691 kw120 hd_X9_be ⟨rfl, rfl⟩ rfl rfl ⟨hc, hs⟩ hX hK hw [19] (by decide) rfl rfl rfl rfl rfl hl.1 rfl rfl dL_law_750) hw hA [19] (by decide) rfl rfl (fun H locs hw => ?_)
  have hw : Wd dC dI A s.heap (LW h q k (fset S 14 y2.2) pl im0 im1) H locs := hw
  refine lv_pop hx hb dL_law_753 rfl ?_
  refine lv_goto (tgt := 1181) hx hb dL_law_754 (by decide) ?_
  exact kk H locs hw

set_option maxHeartbeats 4000000 in
set_option maxRecDepth 100000 in
theorem lx_21 {p : Program} {l : Launch} {e : Env} {s : State} {m : MethodId} {below : List Frame} {meth : Method} {c : Code} {b L : Nat} {xs : Nat → Int32} {A : Nat → Prop} {dC : Nat → ClassId} {dI : Nat → Nat → Nat} {Q : State → Prop} {H : Heap} {locs : List Loc} {ls : Array Slot} {cells slots : Nat} {h : Nat → Nat} {q : Nat → Nat → Nat} {k : Nat → Nat → ClassId} {S : Nat → Ob} {pl : List CR} {im0 im1 : Option IR} {i : Int32} {n : Nat} (hx : p.tables.exec = Jvm.exec) (hb : c.code = code) (hml : c.maxLocals = 4) (hown : s.vm.findClass RL = some m.cls) (hts : ∀ w ∈ gt, w.before #[Value.ref b] s = true) (hX : wX s ∧ wT dI A s) (hXs : va_X b L xs s s.heap) (hbl : b < s.heap.size) (hbA : ¬ A b) (hA : ∀ q, s.heap.size ≤ q → A q) (hi : i.toInt = (n : Int)) (hn : n + 6 ≤ L) (hL : L ≤ 3072) (hc : cells.ble 600000 = true) (hs : slots.ble 7302250 = true) (hK : va_K (dC, dI) vwCl (Jt (LT k pl im0 im1)) s) (hw : Wd dC dI A s.heap (LW h q k S pl im0 im1) H locs) (hl : lv_has ls 4 [(0, .ref b), (1, .ref (h 0)), (2, .ref (h 14)), (3, .int i)]) (y1 : Int32 × Ob × Ob) (h1 : f_X8_seen (S 0) (S 4) (xs (i + (1 : Int32)).toNatClampNeg) (xs (i + (2 : Int32)).toNatClampNeg) = some y1) (kk : ∀ (H : Heap) (locs : List Loc), Wd dC dI A s.heap (LW h q k (fset (fset S 0 y1.2.1) 4 y1.2.2) pl im0 im1) H locs → W p l e room_1 s m #[Value.ref b] below meth c H locs cells slots Q (F0 m 772 ls [])) : W p l e room_1 s m #[Value.ref b] below meth c H locs cells slots Q (F0 m 757 ls []) := by
  refine lv_aload_n hx hb dL_law_757 rfl (lv_at hl 1 rfl) ?_
  refine lv_aload_n hx hb dL_law_758 rfl (lv_at hl 0 rfl) ?_
  refine lv_iload_n hx hb dL_law_759 rfl (lv_at hl 3 rfl) ?_
  refine lv_iconst (v := 1) hx hb dL_law_760 (by decide) ?_
  refine lv_iadd hx hb dL_law_761 ?_
  refine va_sld hx hb hXs hbl hbA hw.2.2 (law_in hi hn hL (j := 1) (by decide) (by decide)) dL_law_762 ?_
  refine lv_aload_n hx hb dL_law_763 rfl (lv_at hl 0 rfl) ?_
  refine lv_iload_n hx hb dL_law_764 rfl (lv_at hl 3 rfl) ?_
  refine lv_iconst (v := 2) hx hb dL_law_765 (by decide) ?_
  refine lv_iadd hx hb dL_law_766 ?_
  refine va_sld hx hb hXs hbl hbA hw.2.2 (law_in hi hn hL (j := 2) (by decide) (by decide)) dL_law_767 ?_
  refine xj_i (xrV (As := [.int (xs (i + (1 : Int32)).toNatClampNeg), .int (xs (i + (2 : Int32)).toNatClampNeg)]) (rest := []) ⟨hx, hb, hml, hown, hts⟩ (m_X8_seen l dC dI _ (h 0) (h 1) (h 3) (h 4) (h 6) (h 7) (h 8) (h 10) (h 11) (h 12) (h 13) (h 5) (q 0) (k 0) (q 4) (k 4) (S 0) (S 4) (xs (i + (1 : Int32)).toNatClampNeg) (xs (i + (2 : Int32)).toNatClampNeg) y1 h1) kw970 kw967 kw968 kw969 kw110 hd_X8_seen ⟨rfl, rfl⟩ rfl rfl ⟨hc, hs⟩ hX hK hw [0, 4] (by decide) rfl rfl rfl rfl rfl hl.1 rfl rfl dL_law_768) hw hA [0, 4] (by decide) rfl rfl (fun H locs hw => ?_)
  have hw : Wd dC dI A s.heap (LW h q k (fset (fset S 0 y1.2.1) 4 y1.2.2) pl im0 im1) H locs := hw
  refine lv_pop hx hb dL_law_771 rfl ?_
  exact kk H locs hw

set_option maxHeartbeats 4000000 in
set_option maxRecDepth 100000 in
theorem lm_21 {p : Program} {l : Launch} {e : Env} {s : State} {m : MethodId} {below : List Frame} {meth : Method} {c : Code} {b L : Nat} {xs : Nat → Int32} {A : Nat → Prop} {dC : Nat → ClassId} {dI : Nat → Nat → Nat} {Q : State → Prop} {H : Heap} {locs : List Loc} {ls : Array Slot} {cells slots : Nat} {h : Nat → Nat} {q : Nat → Nat → Nat} {k : Nat → Nat → ClassId} {S : Nat → Ob} {pl : List CR} {im0 im1 : Option IR} {i : Int32} {n : Nat} (hx : p.tables.exec = Jvm.exec) (hb : c.code = code) (hml : c.maxLocals = 4) (hown : s.vm.findClass RL = some m.cls) (hts : ∀ w ∈ gt, w.before #[Value.ref b] s = true) (hX : wX s ∧ wT dI A s) (hXs : va_X b L xs s s.heap) (hbl : b < s.heap.size) (hbA : ¬ A b) (hA : ∀ q, s.heap.size ≤ q → A q) (hi : i.toInt = (n : Int)) (hn : n + 6 ≤ L) (hL : L ≤ 3072) (hc : cells.ble 600000 = true) (hs : slots.ble 7302250 = true) (hK : va_K (dC, dI) vwCl (Jt (LT k pl im0 im1)) s) (hw : Wd dC dI A s.heap (LW h q k S pl im0 im1) H locs) (hl : lv_has ls 4 [(0, .ref b), (1, .ref (h 0)), (2, .ref (h 14)), (3, .int i)]) (y2 : Int32 × Ob) (h2 : f_X9_seen (S 14) (xs (i + (1 : Int32)).toNatClampNeg) (xs (i + (2 : Int32)).toNatClampNeg) = some y2) (kk : ∀ (H : Heap) (locs : List Loc), Wd dC dI A s.heap (LW h q k (fset S 14 y2.2) pl im0 im1) H locs → W p l e room_1 s m #[Value.ref b] below meth c H locs cells slots Q (F0 m 1181 ls [])) : W p l e room_1 s m #[Value.ref b] below meth c H locs cells slots Q (F0 m 772 ls []) := by
  refine lv_aload_n hx hb dL_law_772 rfl (lv_at hl 2 rfl) ?_
  refine lv_aload_n hx hb dL_law_773 rfl (lv_at hl 0 rfl) ?_
  refine lv_iload_n hx hb dL_law_774 rfl (lv_at hl 3 rfl) ?_
  refine lv_iconst (v := 1) hx hb dL_law_775 (by decide) ?_
  refine lv_iadd hx hb dL_law_776 ?_
  refine va_sld hx hb hXs hbl hbA hw.2.2 (law_in hi hn hL (j := 1) (by decide) (by decide)) dL_law_777 ?_
  refine lv_aload_n hx hb dL_law_778 rfl (lv_at hl 0 rfl) ?_
  refine lv_iload_n hx hb dL_law_779 rfl (lv_at hl 3 rfl) ?_
  refine lv_iconst (v := 2) hx hb dL_law_780 (by decide) ?_
  refine lv_iadd hx hb dL_law_781 ?_
  refine va_sld hx hb hXs hbl hbA hw.2.2 (law_in hi hn hL (j := 2) (by decide) (by decide)) dL_law_782 ?_
  refine xj_i (xrV (As := [.int (xs (i + (1 : Int32)).toNatClampNeg), .int (xs (i + (2 : Int32)).toNatClampNeg)]) (rest := []) ⟨hx, hb, hml, hown, hts⟩ (m_X9_seen l dC dI _ (h 14) (q 14) (k 14) (S 14) (xs (i + (1 : Int32)).toNatClampNeg) (xs (i + (2 : Int32)).toNatClampNeg) y2 h2) kw1715 kw1712 kw1713 kw1714 kw120 hd_X9_seen ⟨rfl, rfl⟩ rfl rfl ⟨hc, hs⟩ hX hK hw [19] (by decide) rfl rfl rfl rfl rfl hl.1 rfl rfl dL_law_783) hw hA [19] (by decide) rfl rfl (fun H locs hw => ?_)
  have hw : Wd dC dI A s.heap (LW h q k (fset S 14 y2.2) pl im0 im1) H locs := hw
  refine lv_pop hx hb dL_law_786 rfl ?_
  refine lv_goto (tgt := 1181) hx hb dL_law_787 (by decide) ?_
  exact kk H locs hw

set_option maxHeartbeats 4000000 in
set_option maxRecDepth 100000 in
theorem lx_22 {p : Program} {l : Launch} {e : Env} {s : State} {m : MethodId} {below : List Frame} {meth : Method} {c : Code} {b L : Nat} {xs : Nat → Int32} {A : Nat → Prop} {dC : Nat → ClassId} {dI : Nat → Nat → Nat} {Q : State → Prop} {H : Heap} {locs : List Loc} {ls : Array Slot} {cells slots : Nat} {h : Nat → Nat} {q : Nat → Nat → Nat} {k : Nat → Nat → ClassId} {S : Nat → Ob} {pl : List CR} {im0 im1 : Option IR} {i : Int32} {n : Nat} (hx : p.tables.exec = Jvm.exec) (hb : c.code = code) (hml : c.maxLocals = 4) (hown : s.vm.findClass RL = some m.cls) (hts : ∀ w ∈ gt, w.before #[Value.ref b] s = true) (hX : wX s ∧ wT dI A s) (hXs : va_X b L xs s s.heap) (hbl : b < s.heap.size) (hbA : ¬ A b) (hA : ∀ q, s.heap.size ≤ q → A q) (hi : i.toInt = (n : Int)) (hn : n + 6 ≤ L) (hL : L ≤ 3072) (hc : cells.ble 600000 = true) (hs : slots.ble 7302250 = true) (hK : va_K (dC, dI) vwCl (Jt (LT k pl im0 im1)) s) (hw : Wd dC dI A s.heap (LW h q k S pl im0 im1) H locs) (hl : lv_has ls 4 [(0, .ref b), (1, .ref (h 0)), (2, .ref (h 14)), (3, .int i)]) (y1 : Int32 × Ob) (h1 : f_X8_forget (S 0) (S 4) = some y1) (kk : ∀ (H : Heap) (locs : List Loc), Wd dC dI A s.heap (LW h q k (fset S 4 y1.2) pl im0 im1) H locs → W p l e room_1 s m #[Value.ref b] below meth c H locs cells slots Q (F0 m 795 ls [])) : W p l e room_1 s m #[Value.ref b] below meth c H locs cells slots Q (F0 m 790 ls []) := by
  refine lv_aload_n hx hb dL_law_790 rfl (lv_at hl 1 rfl) ?_
  refine xj_i (xrV (As := []) (rest := []) ⟨hx, hb, hml, hown, hts⟩ (m_X8_forget l dC dI _ (h 0) (h 1) (h 3) (h 4) (h 6) (h 7) (h 8) (h 10) (h 11) (h 12) (h 13) (h 5) (q 0) (k 0) (q 4) (k 4) (S 0) (S 4) y1 h1) kw978 kw975 kw976 kw977 kw110 hd_X8_forget ⟨rfl, rfl⟩ rfl rfl ⟨hc, hs⟩ hX hK hw [0, 4] (by decide) rfl rfl rfl rfl rfl hl.1 rfl rfl dL_law_791) hw hA [0, 4] (by decide) rfl rfl (fun H locs hw => ?_)
  have hw : Wd dC dI A s.heap (LW h q k (fset S 4 y1.2) pl im0 im1) H locs := hw
  refine lv_pop hx hb dL_law_794 rfl ?_
  exact kk H locs hw

set_option maxHeartbeats 4000000 in
set_option maxRecDepth 100000 in
theorem lm_22 {p : Program} {l : Launch} {e : Env} {s : State} {m : MethodId} {below : List Frame} {meth : Method} {c : Code} {b L : Nat} {xs : Nat → Int32} {A : Nat → Prop} {dC : Nat → ClassId} {dI : Nat → Nat → Nat} {Q : State → Prop} {H : Heap} {locs : List Loc} {ls : Array Slot} {cells slots : Nat} {h : Nat → Nat} {q : Nat → Nat → Nat} {k : Nat → Nat → ClassId} {S : Nat → Ob} {pl : List CR} {im0 im1 : Option IR} {i : Int32} {n : Nat} (hx : p.tables.exec = Jvm.exec) (hb : c.code = code) (hml : c.maxLocals = 4) (hown : s.vm.findClass RL = some m.cls) (hts : ∀ w ∈ gt, w.before #[Value.ref b] s = true) (hX : wX s ∧ wT dI A s) (hXs : va_X b L xs s s.heap) (hbl : b < s.heap.size) (hbA : ¬ A b) (hA : ∀ q, s.heap.size ≤ q → A q) (hi : i.toInt = (n : Int)) (hn : n + 6 ≤ L) (hL : L ≤ 3072) (hc : cells.ble 600000 = true) (hs : slots.ble 7302250 = true) (hK : va_K (dC, dI) vwCl (Jt (LT k pl im0 im1)) s) (hw : Wd dC dI A s.heap (LW h q k S pl im0 im1) H locs) (hl : lv_has ls 4 [(0, .ref b), (1, .ref (h 0)), (2, .ref (h 14)), (3, .int i)]) (y2 : Int32 × Ob) (h2 : f_X9_forget (S 14) = some y2) (kk : ∀ (H : Heap) (locs : List Loc), Wd dC dI A s.heap (LW h q k (fset S 14 y2.2) pl im0 im1) H locs → W p l e room_1 s m #[Value.ref b] below meth c H locs cells slots Q (F0 m 1181 ls [])) : W p l e room_1 s m #[Value.ref b] below meth c H locs cells slots Q (F0 m 795 ls []) := by
  refine lv_aload_n hx hb dL_law_795 rfl (lv_at hl 2 rfl) ?_
  refine xj_i (xrV (As := []) (rest := []) ⟨hx, hb, hml, hown, hts⟩ (m_X9_forget l dC dI _ (h 14) (q 14) (k 14) (S 14) y2 h2) kw1719 kw1716 kw1717 kw1718 kw120 hd_X9_forget ⟨rfl, rfl⟩ rfl rfl ⟨hc, hs⟩ hX hK hw [19] (by decide) rfl rfl rfl rfl rfl hl.1 rfl rfl dL_law_796) hw hA [19] (by decide) rfl rfl (fun H locs hw => ?_)
  have hw : Wd dC dI A s.heap (LW h q k (fset S 14 y2.2) pl im0 im1) H locs := hw
  refine lv_pop hx hb dL_law_799 rfl ?_
  refine lv_goto (tgt := 1181) hx hb dL_law_800 (by decide) ?_
  exact kk H locs hw

set_option maxHeartbeats 4000000 in
set_option maxRecDepth 100000 in
theorem lx_23 {p : Program} {l : Launch} {e : Env} {s : State} {m : MethodId} {below : List Frame} {meth : Method} {c : Code} {b L : Nat} {xs : Nat → Int32} {A : Nat → Prop} {dC : Nat → ClassId} {dI : Nat → Nat → Nat} {Q : State → Prop} {H : Heap} {locs : List Loc} {ls : Array Slot} {cells slots : Nat} {h : Nat → Nat} {q : Nat → Nat → Nat} {k : Nat → Nat → ClassId} {S : Nat → Ob} {pl : List CR} {im0 im1 : Option IR} {i : Int32} {n : Nat} (hx : p.tables.exec = Jvm.exec) (hb : c.code = code) (hml : c.maxLocals = 4) (hown : s.vm.findClass RL = some m.cls) (hts : ∀ w ∈ gt, w.before #[Value.ref b] s = true) (hX : wX s ∧ wT dI A s) (hXs : va_X b L xs s s.heap) (hbl : b < s.heap.size) (hbA : ¬ A b) (hA : ∀ q, s.heap.size ≤ q → A q) (hi : i.toInt = (n : Int)) (hn : n + 6 ≤ L) (hL : L ≤ 3072) (hc : cells.ble 600000 = true) (hs : slots.ble 7302250 = true) (hK : va_K (dC, dI) vwCl (Jt (LT k pl im0 im1)) s) (hw : Wd dC dI A s.heap (LW h q k S pl im0 im1) H locs) (hl : lv_has ls 4 [(0, .ref b), (1, .ref (h 0)), (2, .ref (h 14)), (3, .int i)]) (y1 : Int32 × Ob) (h1 : f_X8_canBe (S 0) (S 3) (S 4) (S 5) (S 6) (S 7) pl = some y1) (kk : ∀ (H : Heap) (locs : List Loc), Wd dC dI A s.heap (LW h q k (fset S 3 y1.2) pl im0 im1) H locs → W p l e room_1 s m #[Value.ref b] below meth c H locs cells slots Q (F0 m 808 ls [])) : W p l e room_1 s m #[Value.ref b] below meth c H locs cells slots Q (F0 m 803 ls []) := by
  refine lv_aload_n hx hb dL_law_803 rfl (lv_at hl 1 rfl) ?_
  refine xj_i (xrV (As := []) (rest := []) ⟨hx, hb, hml, hown, hts⟩ (m_X8_canBe l dC dI _ (h 0) (h 1) (h 3) (h 4) (h 6) (h 7) (h 8) (h 10) (h 11) (h 12) (h 13) (h 5) (q 0) (k 0) (q 3) (k 3) (q 4) (k 4) (q 5) (k 5) (q 6) (k 6) (q 7) (k 7) (S 0) (S 3) (S 4) (S 5) (S 6) (S 7) pl y1 h1) kw982 kw979 kw980 kw981 kw110 hd_X8_canBe ⟨rfl, rfl⟩ rfl rfl ⟨hc, hs⟩ hX hK hw [0, 3, 4, 5, 6, 7, 14] (by decide) rfl rfl rfl rfl rfl hl.1 rfl rfl dL_law_804) hw hA [0, 3, 4, 5, 6, 7, 14] (by decide) rfl rfl (fun H locs hw => ?_)
  have hw : Wd dC dI A s.heap (LW h q k (fset S 3 y1.2) pl im0 im1) H locs := hw
  refine lv_pop hx hb dL_law_807 rfl ?_
  exact kk H locs hw

set_option maxHeartbeats 4000000 in
set_option maxRecDepth 100000 in
theorem lm_23 {p : Program} {l : Launch} {e : Env} {s : State} {m : MethodId} {below : List Frame} {meth : Method} {c : Code} {b L : Nat} {xs : Nat → Int32} {A : Nat → Prop} {dC : Nat → ClassId} {dI : Nat → Nat → Nat} {Q : State → Prop} {H : Heap} {locs : List Loc} {ls : Array Slot} {cells slots : Nat} {h : Nat → Nat} {q : Nat → Nat → Nat} {k : Nat → Nat → ClassId} {S : Nat → Ob} {pl : List CR} {im0 im1 : Option IR} {i : Int32} {n : Nat} (hx : p.tables.exec = Jvm.exec) (hb : c.code = code) (hml : c.maxLocals = 4) (hown : s.vm.findClass RL = some m.cls) (hts : ∀ w ∈ gt, w.before #[Value.ref b] s = true) (hX : wX s ∧ wT dI A s) (hXs : va_X b L xs s s.heap) (hbl : b < s.heap.size) (hbA : ¬ A b) (hA : ∀ q, s.heap.size ≤ q → A q) (hi : i.toInt = (n : Int)) (hn : n + 6 ≤ L) (hL : L ≤ 3072) (hc : cells.ble 600000 = true) (hs : slots.ble 7302250 = true) (hK : va_K (dC, dI) vwCl (Jt (LT k pl im0 im1)) s) (hw : Wd dC dI A s.heap (LW h q k S pl im0 im1) H locs) (hl : lv_has ls 4 [(0, .ref b), (1, .ref (h 0)), (2, .ref (h 14)), (3, .int i)]) (y2 : Int32 × Ob) (h2 : f_X9_canBe (S 14) = some y2) (kk : ∀ (H : Heap) (locs : List Loc), Wd dC dI A s.heap (LW h q k (fset S 14 y2.2) pl im0 im1) H locs → W p l e room_1 s m #[Value.ref b] below meth c H locs cells slots Q (F0 m 1181 ls [])) : W p l e room_1 s m #[Value.ref b] below meth c H locs cells slots Q (F0 m 808 ls []) := by
  refine lv_aload_n hx hb dL_law_808 rfl (lv_at hl 2 rfl) ?_
  refine xj_i (xrV (As := []) (rest := []) ⟨hx, hb, hml, hown, hts⟩ (m_X9_canBe l dC dI _ (h 14) (q 14) (k 14) (S 14) y2 h2) kw1723 kw1720 kw1721 kw1722 kw120 hd_X9_canBe ⟨rfl, rfl⟩ rfl rfl ⟨hc, hs⟩ hX hK hw [19] (by decide) rfl rfl rfl rfl rfl hl.1 rfl rfl dL_law_809) hw hA [19] (by decide) rfl rfl (fun H locs hw => ?_)
  have hw : Wd dC dI A s.heap (LW h q k (fset S 14 y2.2) pl im0 im1) H locs := hw
  refine lv_pop hx hb dL_law_812 rfl ?_
  refine lv_goto (tgt := 1181) hx hb dL_law_813 (by decide) ?_
  exact kk H locs hw

set_option maxHeartbeats 4000000 in
set_option maxRecDepth 100000 in
theorem lx_24 {p : Program} {l : Launch} {e : Env} {s : State} {m : MethodId} {below : List Frame} {meth : Method} {c : Code} {b L : Nat} {xs : Nat → Int32} {A : Nat → Prop} {dC : Nat → ClassId} {dI : Nat → Nat → Nat} {Q : State → Prop} {H : Heap} {locs : List Loc} {ls : Array Slot} {cells slots : Nat} {h : Nat → Nat} {q : Nat → Nat → Nat} {k : Nat → Nat → ClassId} {S : Nat → Ob} {pl : List CR} {im0 im1 : Option IR} {i : Int32} {n : Nat} (hx : p.tables.exec = Jvm.exec) (hb : c.code = code) (hml : c.maxLocals = 4) (hown : s.vm.findClass RL = some m.cls) (hts : ∀ w ∈ gt, w.before #[Value.ref b] s = true) (hX : wX s ∧ wT dI A s) (hXs : va_X b L xs s s.heap) (hbl : b < s.heap.size) (hbA : ¬ A b) (hA : ∀ q, s.heap.size ≤ q → A q) (hi : i.toInt = (n : Int)) (hn : n + 6 ≤ L) (hL : L ≤ 3072) (hc : cells.ble 600000 = true) (hs : slots.ble 7302250 = true) (hK : va_K (dC, dI) vwCl (Jt (LT k pl im0 im1)) s) (hw : Wd dC dI A s.heap (LW h q k S pl im0 im1) H locs) (hl : lv_has ls 4 [(0, .ref b), (1, .ref (h 0)), (2, .ref (h 14)), (3, .int i)]) (y1 : Int32 × Ob × Ob) (h1 : f_X8_look (S 0) (S 3) (S 4) (S 5) (S 6) (S 7) pl (xs (i + (1 : Int32)).toNatClampNeg) = some y1) (kk : ∀ (H : Heap) (locs : List Loc), Wd dC dI A s.heap (LW h q k (fset (fset S 3 y1.2.1) 7 y1.2.2) pl im0 im1) H locs → W p l e room_1 s m #[Value.ref b] below meth c H locs cells slots Q (F0 m 826 ls [])) : W p l e room_1 s m #[Value.ref b] below meth c H locs cells slots Q (F0 m 816 ls []) := by
  refine lv_aload_n hx hb dL_law_816 rfl (lv_at hl 1 rfl) ?_
  refine lv_aload_n hx hb dL_law_817 rfl (lv_at hl 0 rfl) ?_
  refine lv_iload_n hx hb dL_law_818 rfl (lv_at hl 3 rfl) ?_
  refine lv_iconst (v := 1) hx hb dL_law_819 (by decide) ?_
  refine lv_iadd hx hb dL_law_820 ?_
  refine va_sld hx hb hXs hbl hbA hw.2.2 (law_in hi hn hL (j := 1) (by decide) (by decide)) dL_law_821 ?_
  refine xj_i (xrV (As := [.int (xs (i + (1 : Int32)).toNatClampNeg)]) (rest := []) ⟨hx, hb, hml, hown, hts⟩ (m_X8_look l dC dI _ (h 0) (h 1) (h 3) (h 4) (h 6) (h 7) (h 8) (h 10) (h 11) (h 12) (h 13) (h 5) (q 0) (k 0) (q 3) (k 3) (q 4) (k 4) (q 5) (k 5) (q 6) (k 6) (q 7) (k 7) (S 0) (S 3) (S 4) (S 5) (S 6) (S 7) pl (xs (i + (1 : Int32)).toNatClampNeg) y1 h1) kw995 kw992 kw993 kw994 kw110 hd_X8_look ⟨rfl, rfl⟩ rfl rfl ⟨hc, hs⟩ hX hK hw [0, 3, 4, 5, 6, 7, 14] (by decide) rfl rfl rfl rfl rfl hl.1 rfl rfl dL_law_822) hw hA [0, 3, 4, 5, 6, 7, 14] (by decide) rfl rfl (fun H locs hw => ?_)
  have hw : Wd dC dI A s.heap (LW h q k (fset (fset S 3 y1.2.1) 7 y1.2.2) pl im0 im1) H locs := hw
  refine lv_pop hx hb dL_law_825 rfl ?_
  exact kk H locs hw

set_option maxHeartbeats 4000000 in
set_option maxRecDepth 100000 in
theorem lm_24 {p : Program} {l : Launch} {e : Env} {s : State} {m : MethodId} {below : List Frame} {meth : Method} {c : Code} {b L : Nat} {xs : Nat → Int32} {A : Nat → Prop} {dC : Nat → ClassId} {dI : Nat → Nat → Nat} {Q : State → Prop} {H : Heap} {locs : List Loc} {ls : Array Slot} {cells slots : Nat} {h : Nat → Nat} {q : Nat → Nat → Nat} {k : Nat → Nat → ClassId} {S : Nat → Ob} {pl : List CR} {im0 im1 : Option IR} {i : Int32} {n : Nat} (hx : p.tables.exec = Jvm.exec) (hb : c.code = code) (hml : c.maxLocals = 4) (hown : s.vm.findClass RL = some m.cls) (hts : ∀ w ∈ gt, w.before #[Value.ref b] s = true) (hX : wX s ∧ wT dI A s) (hXs : va_X b L xs s s.heap) (hbl : b < s.heap.size) (hbA : ¬ A b) (hA : ∀ q, s.heap.size ≤ q → A q) (hi : i.toInt = (n : Int)) (hn : n + 6 ≤ L) (hL : L ≤ 3072) (hc : cells.ble 600000 = true) (hs : slots.ble 7302250 = true) (hK : va_K (dC, dI) vwCl (Jt (LT k pl im0 im1)) s) (hw : Wd dC dI A s.heap (LW h q k S pl im0 im1) H locs) (hl : lv_has ls 4 [(0, .ref b), (1, .ref (h 0)), (2, .ref (h 14)), (3, .int i)]) (y2 : Int32 × Ob) (h2 : f_X9_look (S 14) (xs (i + (1 : Int32)).toNatClampNeg) = some y2) (kk : ∀ (H : Heap) (locs : List Loc), Wd dC dI A s.heap (LW h q k (fset S 14 y2.2) pl im0 im1) H locs → W p l e room_1 s m #[Value.ref b] below meth c H locs cells slots Q (F0 m 1181 ls [])) : W p l e room_1 s m #[Value.ref b] below meth c H locs cells slots Q (F0 m 826 ls []) := by
  refine lv_aload_n hx hb dL_law_826 rfl (lv_at hl 2 rfl) ?_
  refine lv_aload_n hx hb dL_law_827 rfl (lv_at hl 0 rfl) ?_
  refine lv_iload_n hx hb dL_law_828 rfl (lv_at hl 3 rfl) ?_
  refine lv_iconst (v := 1) hx hb dL_law_829 (by decide) ?_
  refine lv_iadd hx hb dL_law_830 ?_
  refine va_sld hx hb hXs hbl hbA hw.2.2 (law_in hi hn hL (j := 1) (by decide) (by decide)) dL_law_831 ?_
  refine xj_i (xrV (As := [.int (xs (i + (1 : Int32)).toNatClampNeg)]) (rest := []) ⟨hx, hb, hml, hown, hts⟩ (m_X9_look l dC dI _ (h 14) (q 14) (k 14) (S 14) (xs (i + (1 : Int32)).toNatClampNeg) y2 h2) kw1731 kw1728 kw1729 kw1730 kw120 hd_X9_look ⟨rfl, rfl⟩ rfl rfl ⟨hc, hs⟩ hX hK hw [19] (by decide) rfl rfl rfl rfl rfl hl.1 rfl rfl dL_law_832) hw hA [19] (by decide) rfl rfl (fun H locs hw => ?_)
  have hw : Wd dC dI A s.heap (LW h q k (fset S 14 y2.2) pl im0 im1) H locs := hw
  refine lv_pop hx hb dL_law_835 rfl ?_
  refine lv_goto (tgt := 1181) hx hb dL_law_836 (by decide) ?_
  exact kk H locs hw

set_option maxHeartbeats 4000000 in
set_option maxRecDepth 100000 in
theorem lx_25 {p : Program} {l : Launch} {e : Env} {s : State} {m : MethodId} {below : List Frame} {meth : Method} {c : Code} {b L : Nat} {xs : Nat → Int32} {A : Nat → Prop} {dC : Nat → ClassId} {dI : Nat → Nat → Nat} {Q : State → Prop} {H : Heap} {locs : List Loc} {ls : Array Slot} {cells slots : Nat} {h : Nat → Nat} {q : Nat → Nat → Nat} {k : Nat → Nat → ClassId} {S : Nat → Ob} {pl : List CR} {im0 im1 : Option IR} {i : Int32} {n : Nat} (hx : p.tables.exec = Jvm.exec) (hb : c.code = code) (hml : c.maxLocals = 4) (hown : s.vm.findClass RL = some m.cls) (hts : ∀ w ∈ gt, w.before #[Value.ref b] s = true) (hX : wX s ∧ wT dI A s) (hXs : va_X b L xs s s.heap) (hbl : b < s.heap.size) (hbA : ¬ A b) (hA : ∀ q, s.heap.size ≤ q → A q) (hi : i.toInt = (n : Int)) (hn : n + 6 ≤ L) (hL : L ≤ 3072) (hc : cells.ble 600000 = true) (hs : slots.ble 7302250 = true) (hK : va_K (dC, dI) vwCl (Jt (LT k pl im0 im1)) s) (hw : Wd dC dI A s.heap (LW h q k S pl im0 im1) H locs) (hl : lv_has ls 4 [(0, .ref b), (1, .ref (h 0)), (2, .ref (h 14)), (3, .int i)]) (y1 : Int32 × Ob) (h1 : f_X8_ranking (S 0) (S 4) (S 7) (xs (i + (1 : Int32)).toNatClampNeg) = some y1) (kk : ∀ (H : Heap) (locs : List Loc), Wd dC dI A s.heap (LW h q k (fset S 7 y1.2) pl im0 im1) H locs → W p l e room_1 s m #[Value.ref b] below meth c H locs cells slots Q (F0 m 849 ls [])) : W p l e room_1 s m #[Value.ref b] below meth c H locs cells slots Q (F0 m 839 ls []) := by
  refine lv_aload_n hx hb dL_law_839 rfl (lv_at hl 1 rfl) ?_
  refine lv_aload_n hx hb dL_law_840 rfl (lv_at hl 0 rfl) ?_
  refine lv_iload_n hx hb dL_law_841 rfl (lv_at hl 3 rfl) ?_
  refine lv_iconst (v := 1) hx hb dL_law_842 (by decide) ?_
  refine lv_iadd hx hb dL_law_843 ?_
  refine va_sld hx hb hXs hbl hbA hw.2.2 (law_in hi hn hL (j := 1) (by decide) (by decide)) dL_law_844 ?_
  refine xj_i (xrV (As := [.int (xs (i + (1 : Int32)).toNatClampNeg)]) (rest := []) ⟨hx, hb, hml, hown, hts⟩ (m_X8_ranking l dC dI _ (h 0) (h 1) (h 3) (h 4) (h 6) (h 7) (h 8) (h 10) (h 11) (h 12) (h 13) (h 5) (q 0) (k 0) (q 4) (k 4) (q 7) (k 7) (S 0) (S 4) (S 7) (xs (i + (1 : Int32)).toNatClampNeg) y1 h1) kw1012 kw1009 kw1010 kw1011 kw110 hd_X8_ranking ⟨rfl, rfl⟩ rfl rfl ⟨hc, hs⟩ hX hK hw [0, 4, 7] (by decide) rfl rfl rfl rfl rfl hl.1 rfl rfl dL_law_845) hw hA [0, 4, 7] (by decide) rfl rfl (fun H locs hw => ?_)
  have hw : Wd dC dI A s.heap (LW h q k (fset S 7 y1.2) pl im0 im1) H locs := hw
  refine lv_pop hx hb dL_law_848 rfl ?_
  exact kk H locs hw

set_option maxHeartbeats 4000000 in
set_option maxRecDepth 100000 in
theorem lm_25 {p : Program} {l : Launch} {e : Env} {s : State} {m : MethodId} {below : List Frame} {meth : Method} {c : Code} {b L : Nat} {xs : Nat → Int32} {A : Nat → Prop} {dC : Nat → ClassId} {dI : Nat → Nat → Nat} {Q : State → Prop} {H : Heap} {locs : List Loc} {ls : Array Slot} {cells slots : Nat} {h : Nat → Nat} {q : Nat → Nat → Nat} {k : Nat → Nat → ClassId} {S : Nat → Ob} {pl : List CR} {im0 im1 : Option IR} {i : Int32} {n : Nat} (hx : p.tables.exec = Jvm.exec) (hb : c.code = code) (hml : c.maxLocals = 4) (hown : s.vm.findClass RL = some m.cls) (hts : ∀ w ∈ gt, w.before #[Value.ref b] s = true) (hX : wX s ∧ wT dI A s) (hXs : va_X b L xs s s.heap) (hbl : b < s.heap.size) (hbA : ¬ A b) (hA : ∀ q, s.heap.size ≤ q → A q) (hi : i.toInt = (n : Int)) (hn : n + 6 ≤ L) (hL : L ≤ 3072) (hc : cells.ble 600000 = true) (hs : slots.ble 7302250 = true) (hK : va_K (dC, dI) vwCl (Jt (LT k pl im0 im1)) s) (hw : Wd dC dI A s.heap (LW h q k S pl im0 im1) H locs) (hl : lv_has ls 4 [(0, .ref b), (1, .ref (h 0)), (2, .ref (h 14)), (3, .int i)]) (y2 : Int32 × Ob) (h2 : f_X9_ranking (S 14) (xs (i + (1 : Int32)).toNatClampNeg) = some y2) (kk : ∀ (H : Heap) (locs : List Loc), Wd dC dI A s.heap (LW h q k (fset S 14 y2.2) pl im0 im1) H locs → W p l e room_1 s m #[Value.ref b] below meth c H locs cells slots Q (F0 m 1181 ls [])) : W p l e room_1 s m #[Value.ref b] below meth c H locs cells slots Q (F0 m 849 ls []) := by
  refine lv_aload_n hx hb dL_law_849 rfl (lv_at hl 2 rfl) ?_
  refine lv_aload_n hx hb dL_law_850 rfl (lv_at hl 0 rfl) ?_
  refine lv_iload_n hx hb dL_law_851 rfl (lv_at hl 3 rfl) ?_
  refine lv_iconst (v := 1) hx hb dL_law_852 (by decide) ?_
  refine lv_iadd hx hb dL_law_853 ?_
  refine va_sld hx hb hXs hbl hbA hw.2.2 (law_in hi hn hL (j := 1) (by decide) (by decide)) dL_law_854 ?_
  refine xj_i (xrV (As := [.int (xs (i + (1 : Int32)).toNatClampNeg)]) (rest := []) ⟨hx, hb, hml, hown, hts⟩ (m_X9_ranking l dC dI _ (h 14) (q 14) (k 14) (S 14) (xs (i + (1 : Int32)).toNatClampNeg) y2 h2) kw1735 kw1732 kw1733 kw1734 kw120 hd_X9_ranking ⟨rfl, rfl⟩ rfl rfl ⟨hc, hs⟩ hX hK hw [19] (by decide) rfl rfl rfl rfl rfl hl.1 rfl rfl dL_law_855) hw hA [19] (by decide) rfl rfl (fun H locs hw => ?_)
  have hw : Wd dC dI A s.heap (LW h q k (fset S 14 y2.2) pl im0 im1) H locs := hw
  refine lv_pop hx hb dL_law_858 rfl ?_
  refine lv_goto (tgt := 1181) hx hb dL_law_859 (by decide) ?_
  exact kk H locs hw

set_option maxHeartbeats 4000000 in
set_option maxRecDepth 100000 in
theorem lx_26 {p : Program} {l : Launch} {e : Env} {s : State} {m : MethodId} {below : List Frame} {meth : Method} {c : Code} {b L : Nat} {xs : Nat → Int32} {A : Nat → Prop} {dC : Nat → ClassId} {dI : Nat → Nat → Nat} {Q : State → Prop} {H : Heap} {locs : List Loc} {ls : Array Slot} {cells slots : Nat} {h : Nat → Nat} {q : Nat → Nat → Nat} {k : Nat → Nat → ClassId} {S : Nat → Ob} {pl : List CR} {im0 im1 : Option IR} {i : Int32} {n : Nat} (hx : p.tables.exec = Jvm.exec) (hb : c.code = code) (hml : c.maxLocals = 4) (hown : s.vm.findClass RL = some m.cls) (hts : ∀ w ∈ gt, w.before #[Value.ref b] s = true) (hX : wX s ∧ wT dI A s) (hXs : va_X b L xs s s.heap) (hbl : b < s.heap.size) (hbA : ¬ A b) (hA : ∀ q, s.heap.size ≤ q → A q) (hi : i.toInt = (n : Int)) (hn : n + 6 ≤ L) (hL : L ≤ 3072) (hc : cells.ble 600000 = true) (hs : slots.ble 7302250 = true) (hK : va_K (dC, dI) vwCl (Jt (LT k pl im0 im1)) s) (hw : Wd dC dI A s.heap (LW h q k S pl im0 im1) H locs) (hl : lv_has ls 4 [(0, .ref b), (1, .ref (h 0)), (2, .ref (h 14)), (3, .int i)]) (y1 : Int32) (h1 : f_X8_circles (S 0) (S 4) (S 7) = some y1) (kk : ∀ (H : Heap) (locs : List Loc), Wd dC dI A s.heap (LW h q k S pl im0 im1) H locs → W p l e room_1 s m #[Value.ref b] below meth c H locs cells slots Q (F0 m 867 ls [])) : W p l e room_1 s m #[Value.ref b] below meth c H locs cells slots Q (F0 m 862 ls []) := by
  refine lv_aload_n hx hb dL_law_862 rfl (lv_at hl 1 rfl) ?_
  refine xj_i (xrV (As := []) (rest := []) ⟨hx, hb, hml, hown, hts⟩ (m_X8_circles l dC dI _ (h 0) (h 1) (h 3) (h 4) (h 6) (h 7) (h 8) (h 10) (h 11) (h 12) (h 13) (h 5) (q 0) (k 0) (q 4) (k 4) (q 7) (k 7) (S 0) (S 4) (S 7) y1 h1) kw1029 kw1026 kw1027 kw1028 kw110 hd_X8_circles ⟨rfl, rfl⟩ rfl rfl ⟨hc, hs⟩ hX hK hw [0, 4, 7] (by decide) rfl rfl rfl rfl rfl hl.1 rfl rfl dL_law_863) hw hA [0, 4, 7] (by decide) rfl rfl (fun H locs hw => ?_)
  have hw : Wd dC dI A s.heap (LW h q k S pl im0 im1) H locs := hw
  refine lv_pop hx hb dL_law_866 rfl ?_
  exact kk H locs hw

set_option maxHeartbeats 4000000 in
set_option maxRecDepth 100000 in
theorem lm_26 {p : Program} {l : Launch} {e : Env} {s : State} {m : MethodId} {below : List Frame} {meth : Method} {c : Code} {b L : Nat} {xs : Nat → Int32} {A : Nat → Prop} {dC : Nat → ClassId} {dI : Nat → Nat → Nat} {Q : State → Prop} {H : Heap} {locs : List Loc} {ls : Array Slot} {cells slots : Nat} {h : Nat → Nat} {q : Nat → Nat → Nat} {k : Nat → Nat → ClassId} {S : Nat → Ob} {pl : List CR} {im0 im1 : Option IR} {i : Int32} {n : Nat} (hx : p.tables.exec = Jvm.exec) (hb : c.code = code) (hml : c.maxLocals = 4) (hown : s.vm.findClass RL = some m.cls) (hts : ∀ w ∈ gt, w.before #[Value.ref b] s = true) (hX : wX s ∧ wT dI A s) (hXs : va_X b L xs s s.heap) (hbl : b < s.heap.size) (hbA : ¬ A b) (hA : ∀ q, s.heap.size ≤ q → A q) (hi : i.toInt = (n : Int)) (hn : n + 6 ≤ L) (hL : L ≤ 3072) (hc : cells.ble 600000 = true) (hs : slots.ble 7302250 = true) (hK : va_K (dC, dI) vwCl (Jt (LT k pl im0 im1)) s) (hw : Wd dC dI A s.heap (LW h q k S pl im0 im1) H locs) (hl : lv_has ls 4 [(0, .ref b), (1, .ref (h 0)), (2, .ref (h 14)), (3, .int i)]) (y2 : Int32 × Ob) (h2 : f_X9_circles (S 14) = some y2) (kk : ∀ (H : Heap) (locs : List Loc), Wd dC dI A s.heap (LW h q k (fset S 14 y2.2) pl im0 im1) H locs → W p l e room_1 s m #[Value.ref b] below meth c H locs cells slots Q (F0 m 1181 ls [])) : W p l e room_1 s m #[Value.ref b] below meth c H locs cells slots Q (F0 m 867 ls []) := by
  refine lv_aload_n hx hb dL_law_867 rfl (lv_at hl 2 rfl) ?_
  refine xj_i (xrV (As := []) (rest := []) ⟨hx, hb, hml, hown, hts⟩ (m_X9_circles l dC dI _ (h 14) (q 14) (k 14) (S 14) y2 h2) kw1747 kw1744 kw1745 kw1746 kw120 hd_X9_circles ⟨rfl, rfl⟩ rfl rfl ⟨hc, hs⟩ hX hK hw [19] (by decide) rfl rfl rfl rfl rfl hl.1 rfl rfl dL_law_868) hw hA [19] (by decide) rfl rfl (fun H locs hw => ?_)
  have hw : Wd dC dI A s.heap (LW h q k (fset S 14 y2.2) pl im0 im1) H locs := hw
  refine lv_pop hx hb dL_law_871 rfl ?_
  refine lv_goto (tgt := 1181) hx hb dL_law_872 (by decide) ?_
  exact kk H locs hw

set_option maxHeartbeats 4000000 in
set_option maxRecDepth 100000 in
theorem lx_27 {p : Program} {l : Launch} {e : Env} {s : State} {m : MethodId} {below : List Frame} {meth : Method} {c : Code} {b L : Nat} {xs : Nat → Int32} {A : Nat → Prop} {dC : Nat → ClassId} {dI : Nat → Nat → Nat} {Q : State → Prop} {H : Heap} {locs : List Loc} {ls : Array Slot} {cells slots : Nat} {h : Nat → Nat} {q : Nat → Nat → Nat} {k : Nat → Nat → ClassId} {S : Nat → Ob} {pl : List CR} {im0 im1 : Option IR} {i : Int32} {n : Nat} (hx : p.tables.exec = Jvm.exec) (hb : c.code = code) (hml : c.maxLocals = 4) (hown : s.vm.findClass RL = some m.cls) (hts : ∀ w ∈ gt, w.before #[Value.ref b] s = true) (hX : wX s ∧ wT dI A s) (hXs : va_X b L xs s s.heap) (hbl : b < s.heap.size) (hbA : ¬ A b) (hA : ∀ q, s.heap.size ≤ q → A q) (hi : i.toInt = (n : Int)) (hn : n + 6 ≤ L) (hL : L ≤ 3072) (hc : cells.ble 600000 = true) (hs : slots.ble 7302250 = true) (hK : va_K (dC, dI) vwCl (Jt (LT k pl im0 im1)) s) (hw : Wd dC dI A s.heap (LW h q k S pl im0 im1) H locs) (hl : lv_has ls 4 [(0, .ref b), (1, .ref (h 0)), (2, .ref (h 14)), (3, .int i)]) (y1 : Int32 × Ob × Ob) (h1 : f_X8_crowned (S 0) (S 3) (S 4) (S 5) (S 6) (S 7) pl (xs (i + (1 : Int32)).toNatClampNeg) = some y1) (kk : ∀ (H : Heap) (locs : List Loc), Wd dC dI A s.heap (LW h q k (fset (fset S 3 y1.2.1) 7 y1.2.2) pl im0 im1) H locs → W p l e room_1 s m #[Value.ref b] below meth c H locs cells slots Q (F0 m 885 ls [])) : W p l e room_1 s m #[Value.ref b] below meth c H locs cells slots Q (F0 m 875 ls []) := by
  refine lv_aload_n hx hb dL_law_875 rfl (lv_at hl 1 rfl) ?_
  refine lv_aload_n hx hb dL_law_876 rfl (lv_at hl 0 rfl) ?_
  refine lv_iload_n hx hb dL_law_877 rfl (lv_at hl 3 rfl) ?_
  refine lv_iconst (v := 1) hx hb dL_law_878 (by decide) ?_
  refine lv_iadd hx hb dL_law_879 ?_
  refine va_sld hx hb hXs hbl hbA hw.2.2 (law_in hi hn hL (j := 1) (by decide) (by decide)) dL_law_880 ?_
  refine xj_i (xrV (As := [.int (xs (i + (1 : Int32)).toNatClampNeg)]) (rest := []) ⟨hx, hb, hml, hown, hts⟩ (m_X8_crowned l dC dI _ (h 0) (h 1) (h 3) (h 4) (h 6) (h 7) (h 8) (h 10) (h 11) (h 12) (h 13) (h 5) (q 0) (k 0) (q 3) (k 3) (q 4) (k 4) (q 5) (k 5) (q 6) (k 6) (q 7) (k 7) (S 0) (S 3) (S 4) (S 5) (S 6) (S 7) pl (xs (i + (1 : Int32)).toNatClampNeg) y1 h1) kw1041 kw1038 kw1039 kw1040 kw110 hd_X8_crowned ⟨rfl, rfl⟩ rfl rfl ⟨hc, hs⟩ hX hK hw [0, 3, 4, 5, 6, 7, 14] (by decide) rfl rfl rfl rfl rfl hl.1 rfl rfl dL_law_881) hw hA [0, 3, 4, 5, 6, 7, 14] (by decide) rfl rfl (fun H locs hw => ?_)
  have hw : Wd dC dI A s.heap (LW h q k (fset (fset S 3 y1.2.1) 7 y1.2.2) pl im0 im1) H locs := hw
  refine lv_pop hx hb dL_law_884 rfl ?_
  exact kk H locs hw

set_option maxHeartbeats 4000000 in
set_option maxRecDepth 100000 in
theorem lm_27 {p : Program} {l : Launch} {e : Env} {s : State} {m : MethodId} {below : List Frame} {meth : Method} {c : Code} {b L : Nat} {xs : Nat → Int32} {A : Nat → Prop} {dC : Nat → ClassId} {dI : Nat → Nat → Nat} {Q : State → Prop} {H : Heap} {locs : List Loc} {ls : Array Slot} {cells slots : Nat} {h : Nat → Nat} {q : Nat → Nat → Nat} {k : Nat → Nat → ClassId} {S : Nat → Ob} {pl : List CR} {im0 im1 : Option IR} {i : Int32} {n : Nat} (hx : p.tables.exec = Jvm.exec) (hb : c.code = code) (hml : c.maxLocals = 4) (hown : s.vm.findClass RL = some m.cls) (hts : ∀ w ∈ gt, w.before #[Value.ref b] s = true) (hX : wX s ∧ wT dI A s) (hXs : va_X b L xs s s.heap) (hbl : b < s.heap.size) (hbA : ¬ A b) (hA : ∀ q, s.heap.size ≤ q → A q) (hi : i.toInt = (n : Int)) (hn : n + 6 ≤ L) (hL : L ≤ 3072) (hc : cells.ble 600000 = true) (hs : slots.ble 7302250 = true) (hK : va_K (dC, dI) vwCl (Jt (LT k pl im0 im1)) s) (hw : Wd dC dI A s.heap (LW h q k S pl im0 im1) H locs) (hl : lv_has ls 4 [(0, .ref b), (1, .ref (h 0)), (2, .ref (h 14)), (3, .int i)]) (y2 : Int32 × Ob) (h2 : f_X9_crowned (S 14) (xs (i + (1 : Int32)).toNatClampNeg) = some y2) (kk : ∀ (H : Heap) (locs : List Loc), Wd dC dI A s.heap (LW h q k (fset S 14 y2.2) pl im0 im1) H locs → W p l e room_1 s m #[Value.ref b] below meth c H locs cells slots Q (F0 m 1181 ls [])) : W p l e room_1 s m #[Value.ref b] below meth c H locs cells slots Q (F0 m 885 ls []) := by
  refine lv_aload_n hx hb dL_law_885 rfl (lv_at hl 2 rfl) ?_
  refine lv_aload_n hx hb dL_law_886 rfl (lv_at hl 0 rfl) ?_
  refine lv_iload_n hx hb dL_law_887 rfl (lv_at hl 3 rfl) ?_
  refine lv_iconst (v := 1) hx hb dL_law_888 (by decide) ?_
  refine lv_iadd hx hb dL_law_889 ?_
  refine va_sld hx hb hXs hbl hbA hw.2.2 (law_in hi hn hL (j := 1) (by decide) (by decide)) dL_law_890 ?_
  refine xj_i (xrV (As := [.int (xs (i + (1 : Int32)).toNatClampNeg)]) (rest := []) ⟨hx, hb, hml, hown, hts⟩ (m_X9_crowned l dC dI _ (h 14) (q 14) (k 14) (S 14) (xs (i + (1 : Int32)).toNatClampNeg) y2 h2) kw1751 kw1748 kw1749 kw1750 kw120 hd_X9_crowned ⟨rfl, rfl⟩ rfl rfl ⟨hc, hs⟩ hX hK hw [19] (by decide) rfl rfl rfl rfl rfl hl.1 rfl rfl dL_law_891) hw hA [19] (by decide) rfl rfl (fun H locs hw => ?_)
  have hw : Wd dC dI A s.heap (LW h q k (fset S 14 y2.2) pl im0 im1) H locs := hw
  refine lv_pop hx hb dL_law_894 rfl ?_
  refine lv_goto (tgt := 1181) hx hb dL_law_895 (by decide) ?_
  exact kk H locs hw

set_option maxHeartbeats 4000000 in
set_option maxRecDepth 100000 in
theorem lx_28 {p : Program} {l : Launch} {e : Env} {s : State} {m : MethodId} {below : List Frame} {meth : Method} {c : Code} {b L : Nat} {xs : Nat → Int32} {A : Nat → Prop} {dC : Nat → ClassId} {dI : Nat → Nat → Nat} {Q : State → Prop} {H : Heap} {locs : List Loc} {ls : Array Slot} {cells slots : Nat} {h : Nat → Nat} {q : Nat → Nat → Nat} {k : Nat → Nat → ClassId} {S : Nat → Ob} {pl : List CR} {im0 im1 : Option IR} {i : Int32} {n : Nat} (hx : p.tables.exec = Jvm.exec) (hb : c.code = code) (hml : c.maxLocals = 4) (hown : s.vm.findClass RL = some m.cls) (hts : ∀ w ∈ gt, w.before #[Value.ref b] s = true) (hX : wX s ∧ wT dI A s) (hXs : va_X b L xs s s.heap) (hbl : b < s.heap.size) (hbA : ¬ A b) (hA : ∀ q, s.heap.size ≤ q → A q) (hi : i.toInt = (n : Int)) (hn : n + 6 ≤ L) (hL : L ≤ 3072) (hc : cells.ble 600000 = true) (hs : slots.ble 7302250 = true) (hK : va_K (dC, dI) vwCl (Jt (LT k pl im0 im1)) s) (hw : Wd dC dI A s.heap (LW h q k S pl im0 im1) H locs) (hl : lv_has ls 4 [(0, .ref b), (1, .ref (h 0)), (2, .ref (h 14)), (3, .int i)]) (y1 : Int32 × Ob) (h1 : f_X8_heir (S 0) (S 4) (S 7) (xs (i + (1 : Int32)).toNatClampNeg) = some y1) (kk : ∀ (H : Heap) (locs : List Loc), Wd dC dI A s.heap (LW h q k (fset S 7 y1.2) pl im0 im1) H locs → W p l e room_1 s m #[Value.ref b] below meth c H locs cells slots Q (F0 m 908 ls [])) : W p l e room_1 s m #[Value.ref b] below meth c H locs cells slots Q (F0 m 898 ls []) := by
  refine lv_aload_n hx hb dL_law_898 rfl (lv_at hl 1 rfl) ?_
  refine lv_aload_n hx hb dL_law_899 rfl (lv_at hl 0 rfl) ?_
  refine lv_iload_n hx hb dL_law_900 rfl (lv_at hl 3 rfl) ?_
  refine lv_iconst (v := 1) hx hb dL_law_901 (by decide) ?_
  refine lv_iadd hx hb dL_law_902 ?_
  refine va_sld hx hb hXs hbl hbA hw.2.2 (law_in hi hn hL (j := 1) (by decide) (by decide)) dL_law_903 ?_
  refine xj_i (xrV (As := [.int (xs (i + (1 : Int32)).toNatClampNeg)]) (rest := []) ⟨hx, hb, hml, hown, hts⟩ (m_X8_heir l dC dI _ (h 0) (h 1) (h 3) (h 4) (h 6) (h 7) (h 8) (h 10) (h 11) (h 12) (h 13) (h 5) (q 0) (k 0) (q 4) (k 4) (q 7) (k 7) (S 0) (S 4) (S 7) (xs (i + (1 : Int32)).toNatClampNeg) y1 h1) kw1061 kw1058 kw1059 kw1060 kw110 hd_X8_heir ⟨rfl, rfl⟩ rfl rfl ⟨hc, hs⟩ hX hK hw [0, 4, 7] (by decide) rfl rfl rfl rfl rfl hl.1 rfl rfl dL_law_904) hw hA [0, 4, 7] (by decide) rfl rfl (fun H locs hw => ?_)
  have hw : Wd dC dI A s.heap (LW h q k (fset S 7 y1.2) pl im0 im1) H locs := hw
  refine lv_pop hx hb dL_law_907 rfl ?_
  exact kk H locs hw

set_option maxHeartbeats 4000000 in
set_option maxRecDepth 100000 in
theorem lm_28 {p : Program} {l : Launch} {e : Env} {s : State} {m : MethodId} {below : List Frame} {meth : Method} {c : Code} {b L : Nat} {xs : Nat → Int32} {A : Nat → Prop} {dC : Nat → ClassId} {dI : Nat → Nat → Nat} {Q : State → Prop} {H : Heap} {locs : List Loc} {ls : Array Slot} {cells slots : Nat} {h : Nat → Nat} {q : Nat → Nat → Nat} {k : Nat → Nat → ClassId} {S : Nat → Ob} {pl : List CR} {im0 im1 : Option IR} {i : Int32} {n : Nat} (hx : p.tables.exec = Jvm.exec) (hb : c.code = code) (hml : c.maxLocals = 4) (hown : s.vm.findClass RL = some m.cls) (hts : ∀ w ∈ gt, w.before #[Value.ref b] s = true) (hX : wX s ∧ wT dI A s) (hXs : va_X b L xs s s.heap) (hbl : b < s.heap.size) (hbA : ¬ A b) (hA : ∀ q, s.heap.size ≤ q → A q) (hi : i.toInt = (n : Int)) (hn : n + 6 ≤ L) (hL : L ≤ 3072) (hc : cells.ble 600000 = true) (hs : slots.ble 7302250 = true) (hK : va_K (dC, dI) vwCl (Jt (LT k pl im0 im1)) s) (hw : Wd dC dI A s.heap (LW h q k S pl im0 im1) H locs) (hl : lv_has ls 4 [(0, .ref b), (1, .ref (h 0)), (2, .ref (h 14)), (3, .int i)]) (y2 : Int32 × Ob) (h2 : f_X9_heir (S 14) (xs (i + (1 : Int32)).toNatClampNeg) = some y2) (kk : ∀ (H : Heap) (locs : List Loc), Wd dC dI A s.heap (LW h q k (fset S 14 y2.2) pl im0 im1) H locs → W p l e room_1 s m #[Value.ref b] below meth c H locs cells slots Q (F0 m 1181 ls [])) : W p l e room_1 s m #[Value.ref b] below meth c H locs cells slots Q (F0 m 908 ls []) := by
  refine lv_aload_n hx hb dL_law_908 rfl (lv_at hl 2 rfl) ?_
  refine lv_aload_n hx hb dL_law_909 rfl (lv_at hl 0 rfl) ?_
  refine lv_iload_n hx hb dL_law_910 rfl (lv_at hl 3 rfl) ?_
  refine lv_iconst (v := 1) hx hb dL_law_911 (by decide) ?_
  refine lv_iadd hx hb dL_law_912 ?_
  refine va_sld hx hb hXs hbl hbA hw.2.2 (law_in hi hn hL (j := 1) (by decide) (by decide)) dL_law_913 ?_
  refine xj_i (xrV (As := [.int (xs (i + (1 : Int32)).toNatClampNeg)]) (rest := []) ⟨hx, hb, hml, hown, hts⟩ (m_X9_heir l dC dI _ (h 14) (q 14) (k 14) (S 14) (xs (i + (1 : Int32)).toNatClampNeg) y2 h2) kw1767 kw1764 kw1765 kw1766 kw120 hd_X9_heir ⟨rfl, rfl⟩ rfl rfl ⟨hc, hs⟩ hX hK hw [19] (by decide) rfl rfl rfl rfl rfl hl.1 rfl rfl dL_law_914) hw hA [19] (by decide) rfl rfl (fun H locs hw => ?_)
  have hw : Wd dC dI A s.heap (LW h q k (fset S 14 y2.2) pl im0 im1) H locs := hw
  refine lv_pop hx hb dL_law_917 rfl ?_
  refine lv_goto (tgt := 1181) hx hb dL_law_918 (by decide) ?_
  exact kk H locs hw

set_option maxHeartbeats 4000000 in
set_option maxRecDepth 100000 in
theorem lx_29 {p : Program} {l : Launch} {e : Env} {s : State} {m : MethodId} {below : List Frame} {meth : Method} {c : Code} {b L : Nat} {xs : Nat → Int32} {A : Nat → Prop} {dC : Nat → ClassId} {dI : Nat → Nat → Nat} {Q : State → Prop} {H : Heap} {locs : List Loc} {ls : Array Slot} {cells slots : Nat} {h : Nat → Nat} {q : Nat → Nat → Nat} {k : Nat → Nat → ClassId} {S : Nat → Ob} {pl : List CR} {im0 im1 : Option IR} {i : Int32} {n : Nat} (hx : p.tables.exec = Jvm.exec) (hb : c.code = code) (hml : c.maxLocals = 4) (hown : s.vm.findClass RL = some m.cls) (hts : ∀ w ∈ gt, w.before #[Value.ref b] s = true) (hX : wX s ∧ wT dI A s) (hXs : va_X b L xs s s.heap) (hbl : b < s.heap.size) (hbA : ¬ A b) (hA : ∀ q, s.heap.size ≤ q → A q) (hi : i.toInt = (n : Int)) (hn : n + 6 ≤ L) (hL : L ≤ 3072) (hc : cells.ble 600000 = true) (hs : slots.ble 7302250 = true) (hK : va_K (dC, dI) vwCl (Jt (LT k pl im0 im1)) s) (hw : Wd dC dI A s.heap (LW h q k S pl im0 im1) H locs) (hl : lv_has ls 4 [(0, .ref b), (1, .ref (h 0)), (2, .ref (h 14)), (3, .int i)]) (y1 : Int64 × Ob) (h1 : f_X8_ladder (S 0) (S 7) (xs (i + (1 : Int32)).toNatClampNeg) (xs (i + (2 : Int32)).toNatClampNeg) = some y1) (kk : ∀ (H : Heap) (locs : List Loc), Wd dC dI A s.heap (LW h q k (fset S 7 y1.2) pl im0 im1) H locs → W p l e room_1 s m #[Value.ref b] below meth c H locs cells slots Q (F0 m 936 ls [])) : W p l e room_1 s m #[Value.ref b] below meth c H locs cells slots Q (F0 m 921 ls []) := by
  refine lv_aload_n hx hb dL_law_921 rfl (lv_at hl 1 rfl) ?_
  refine lv_aload_n hx hb dL_law_922 rfl (lv_at hl 0 rfl) ?_
  refine lv_iload_n hx hb dL_law_923 rfl (lv_at hl 3 rfl) ?_
  refine lv_iconst (v := 1) hx hb dL_law_924 (by decide) ?_
  refine lv_iadd hx hb dL_law_925 ?_
  refine va_sld hx hb hXs hbl hbA hw.2.2 (law_in hi hn hL (j := 1) (by decide) (by decide)) dL_law_926 ?_
  refine lv_aload_n hx hb dL_law_927 rfl (lv_at hl 0 rfl) ?_
  refine lv_iload_n hx hb dL_law_928 rfl (lv_at hl 3 rfl) ?_
  refine lv_iconst (v := 2) hx hb dL_law_929 (by decide) ?_
  refine lv_iadd hx hb dL_law_930 ?_
  refine va_sld hx hb hXs hbl hbA hw.2.2 (law_in hi hn hL (j := 2) (by decide) (by decide)) dL_law_931 ?_
  refine xj_l (xrV (As := [.int (xs (i + (1 : Int32)).toNatClampNeg), .int (xs (i + (2 : Int32)).toNatClampNeg)]) (rest := []) ⟨hx, hb, hml, hown, hts⟩ (m_X8_ladder l dC dI _ (h 0) (h 1) (h 3) (h 4) (h 6) (h 7) (h 8) (h 10) (h 11) (h 12) (h 13) (q 0) (k 0) (q 7) (k 7) (S 0) (S 7) (xs (i + (1 : Int32)).toNatClampNeg) (xs (i + (2 : Int32)).toNatClampNeg) y1 h1) kw1077 kw1074 kw1075 kw1076 kw110 hd_X8_ladder ⟨rfl, rfl⟩ rfl rfl ⟨hc, hs⟩ hX hK hw [0, 7] (by decide) rfl rfl rfl rfl rfl hl.1 rfl rfl dL_law_932) hw hA [0, 7] (by decide) rfl rfl (fun H locs hw => ?_)
  have hw : Wd dC dI A s.heap (LW h q k (fset S 7 y1.2) pl im0 im1) H locs := hw
  refine lv_pop2_2 hx hb dL_law_935 rfl ?_
  exact kk H locs hw

set_option maxHeartbeats 4000000 in
set_option maxRecDepth 100000 in
theorem lm_29 {p : Program} {l : Launch} {e : Env} {s : State} {m : MethodId} {below : List Frame} {meth : Method} {c : Code} {b L : Nat} {xs : Nat → Int32} {A : Nat → Prop} {dC : Nat → ClassId} {dI : Nat → Nat → Nat} {Q : State → Prop} {H : Heap} {locs : List Loc} {ls : Array Slot} {cells slots : Nat} {h : Nat → Nat} {q : Nat → Nat → Nat} {k : Nat → Nat → ClassId} {S : Nat → Ob} {pl : List CR} {im0 im1 : Option IR} {i : Int32} {n : Nat} (hx : p.tables.exec = Jvm.exec) (hb : c.code = code) (hml : c.maxLocals = 4) (hown : s.vm.findClass RL = some m.cls) (hts : ∀ w ∈ gt, w.before #[Value.ref b] s = true) (hX : wX s ∧ wT dI A s) (hXs : va_X b L xs s s.heap) (hbl : b < s.heap.size) (hbA : ¬ A b) (hA : ∀ q, s.heap.size ≤ q → A q) (hi : i.toInt = (n : Int)) (hn : n + 6 ≤ L) (hL : L ≤ 3072) (hc : cells.ble 600000 = true) (hs : slots.ble 7302250 = true) (hK : va_K (dC, dI) vwCl (Jt (LT k pl im0 im1)) s) (hw : Wd dC dI A s.heap (LW h q k S pl im0 im1) H locs) (hl : lv_has ls 4 [(0, .ref b), (1, .ref (h 0)), (2, .ref (h 14)), (3, .int i)]) (y2 : Int64 × Ob) (h2 : f_X9_ladder (S 14) (xs (i + (1 : Int32)).toNatClampNeg) (xs (i + (2 : Int32)).toNatClampNeg) = some y2) (kk : ∀ (H : Heap) (locs : List Loc), Wd dC dI A s.heap (LW h q k (fset S 14 y2.2) pl im0 im1) H locs → W p l e room_1 s m #[Value.ref b] below meth c H locs cells slots Q (F0 m 1181 ls [])) : W p l e room_1 s m #[Value.ref b] below meth c H locs cells slots Q (F0 m 936 ls []) := by
  refine lv_aload_n hx hb dL_law_936 rfl (lv_at hl 2 rfl) ?_
  refine lv_aload_n hx hb dL_law_937 rfl (lv_at hl 0 rfl) ?_
  refine lv_iload_n hx hb dL_law_938 rfl (lv_at hl 3 rfl) ?_
  refine lv_iconst (v := 1) hx hb dL_law_939 (by decide) ?_
  refine lv_iadd hx hb dL_law_940 ?_
  refine va_sld hx hb hXs hbl hbA hw.2.2 (law_in hi hn hL (j := 1) (by decide) (by decide)) dL_law_941 ?_
  refine lv_aload_n hx hb dL_law_942 rfl (lv_at hl 0 rfl) ?_
  refine lv_iload_n hx hb dL_law_943 rfl (lv_at hl 3 rfl) ?_
  refine lv_iconst (v := 2) hx hb dL_law_944 (by decide) ?_
  refine lv_iadd hx hb dL_law_945 ?_
  refine va_sld hx hb hXs hbl hbA hw.2.2 (law_in hi hn hL (j := 2) (by decide) (by decide)) dL_law_946 ?_
  refine xj_l (xrV (As := [.int (xs (i + (1 : Int32)).toNatClampNeg), .int (xs (i + (2 : Int32)).toNatClampNeg)]) (rest := []) ⟨hx, hb, hml, hown, hts⟩ (m_X9_ladder l dC dI _ (h 14) (q 14) (k 14) (S 14) (xs (i + (1 : Int32)).toNatClampNeg) (xs (i + (2 : Int32)).toNatClampNeg) y2 h2) kw1779 kw1776 kw1777 kw1778 kw120 hd_X9_ladder ⟨rfl, rfl⟩ rfl rfl ⟨hc, hs⟩ hX hK hw [19] (by decide) rfl rfl rfl rfl rfl hl.1 rfl rfl dL_law_947) hw hA [19] (by decide) rfl rfl (fun H locs hw => ?_)
  have hw : Wd dC dI A s.heap (LW h q k (fset S 14 y2.2) pl im0 im1) H locs := hw
  refine lv_pop2_2 hx hb dL_law_950 rfl ?_
  refine lv_goto (tgt := 1181) hx hb dL_law_951 (by decide) ?_
  exact kk H locs hw

set_option maxHeartbeats 4000000 in
set_option maxRecDepth 100000 in
theorem lx_30 {p : Program} {l : Launch} {e : Env} {s : State} {m : MethodId} {below : List Frame} {meth : Method} {c : Code} {b L : Nat} {xs : Nat → Int32} {A : Nat → Prop} {dC : Nat → ClassId} {dI : Nat → Nat → Nat} {Q : State → Prop} {H : Heap} {locs : List Loc} {ls : Array Slot} {cells slots : Nat} {h : Nat → Nat} {q : Nat → Nat → Nat} {k : Nat → Nat → ClassId} {S : Nat → Ob} {pl : List CR} {im0 im1 : Option IR} {i : Int32} {n : Nat} (hx : p.tables.exec = Jvm.exec) (hb : c.code = code) (hml : c.maxLocals = 4) (hown : s.vm.findClass RL = some m.cls) (hts : ∀ w ∈ gt, w.before #[Value.ref b] s = true) (hX : wX s ∧ wT dI A s) (hXs : va_X b L xs s s.heap) (hbl : b < s.heap.size) (hbA : ¬ A b) (hA : ∀ q, s.heap.size ≤ q → A q) (hi : i.toInt = (n : Int)) (hn : n + 6 ≤ L) (hL : L ≤ 3072) (hc : cells.ble 600000 = true) (hs : slots.ble 7302250 = true) (hK : va_K (dC, dI) vwCl (Jt (LT k pl im0 im1)) s) (hw : Wd dC dI A s.heap (LW h q k S pl im0 im1) H locs) (hl : lv_has ls 4 [(0, .ref b), (1, .ref (h 0)), (2, .ref (h 14)), (3, .int i)]) (y1 : Int32 × Ob × Ob) (h1 : f_X8_never (S 0) (S 3) (S 4) (S 5) (S 6) (S 7) pl = some y1) (kk : ∀ (H : Heap) (locs : List Loc), Wd dC dI A s.heap (LW h q k (fset (fset S 3 y1.2.1) 7 y1.2.2) pl im0 im1) H locs → W p l e room_1 s m #[Value.ref b] below meth c H locs cells slots Q (F0 m 959 ls [])) : W p l e room_1 s m #[Value.ref b] below meth c H locs cells slots Q (F0 m 954 ls []) := by
  refine lv_aload_n hx hb dL_law_954 rfl (lv_at hl 1 rfl) ?_
  refine xj_i (xrV (As := []) (rest := []) ⟨hx, hb, hml, hown, hts⟩ (m_X8_never l dC dI _ (h 0) (h 1) (h 3) (h 4) (h 6) (h 7) (h 8) (h 10) (h 11) (h 12) (h 13) (h 5) (q 0) (k 0) (q 3) (k 3) (q 4) (k 4) (q 5) (k 5) (q 6) (k 6) (q 7) (k 7) (S 0) (S 3) (S 4) (S 5) (S 6) (S 7) pl y1 h1) kw1087 kw1084 kw1085 kw1086 kw110 hd_X8_never ⟨rfl, rfl⟩ rfl rfl ⟨hc, hs⟩ hX hK hw [0, 3, 4, 5, 6, 7, 14] (by decide) rfl rfl rfl rfl rfl hl.1 rfl rfl dL_law_955) hw hA [0, 3, 4, 5, 6, 7, 14] (by decide) rfl rfl (fun H locs hw => ?_)
  have hw : Wd dC dI A s.heap (LW h q k (fset (fset S 3 y1.2.1) 7 y1.2.2) pl im0 im1) H locs := hw
  refine lv_pop hx hb dL_law_958 rfl ?_
  exact kk H locs hw

set_option maxHeartbeats 4000000 in
set_option maxRecDepth 100000 in
theorem lm_30 {p : Program} {l : Launch} {e : Env} {s : State} {m : MethodId} {below : List Frame} {meth : Method} {c : Code} {b L : Nat} {xs : Nat → Int32} {A : Nat → Prop} {dC : Nat → ClassId} {dI : Nat → Nat → Nat} {Q : State → Prop} {H : Heap} {locs : List Loc} {ls : Array Slot} {cells slots : Nat} {h : Nat → Nat} {q : Nat → Nat → Nat} {k : Nat → Nat → ClassId} {S : Nat → Ob} {pl : List CR} {im0 im1 : Option IR} {i : Int32} {n : Nat} (hx : p.tables.exec = Jvm.exec) (hb : c.code = code) (hml : c.maxLocals = 4) (hown : s.vm.findClass RL = some m.cls) (hts : ∀ w ∈ gt, w.before #[Value.ref b] s = true) (hX : wX s ∧ wT dI A s) (hXs : va_X b L xs s s.heap) (hbl : b < s.heap.size) (hbA : ¬ A b) (hA : ∀ q, s.heap.size ≤ q → A q) (hi : i.toInt = (n : Int)) (hn : n + 6 ≤ L) (hL : L ≤ 3072) (hc : cells.ble 600000 = true) (hs : slots.ble 7302250 = true) (hK : va_K (dC, dI) vwCl (Jt (LT k pl im0 im1)) s) (hw : Wd dC dI A s.heap (LW h q k S pl im0 im1) H locs) (hl : lv_has ls 4 [(0, .ref b), (1, .ref (h 0)), (2, .ref (h 14)), (3, .int i)]) (y2 : Int32 × Ob) (h2 : f_X9_never (S 14) = some y2) (kk : ∀ (H : Heap) (locs : List Loc), Wd dC dI A s.heap (LW h q k (fset S 14 y2.2) pl im0 im1) H locs → W p l e room_1 s m #[Value.ref b] below meth c H locs cells slots Q (F0 m 1181 ls [])) : W p l e room_1 s m #[Value.ref b] below meth c H locs cells slots Q (F0 m 959 ls []) := by
  refine lv_aload_n hx hb dL_law_959 rfl (lv_at hl 2 rfl) ?_
  refine xj_i (xrV (As := []) (rest := []) ⟨hx, hb, hml, hown, hts⟩ (m_X9_never l dC dI _ (h 14) (q 14) (k 14) (S 14) y2 h2) kw1785 kw1782 kw1783 kw1784 kw120 hd_X9_never ⟨rfl, rfl⟩ rfl rfl ⟨hc, hs⟩ hX hK hw [19] (by decide) rfl rfl rfl rfl rfl hl.1 rfl rfl dL_law_960) hw hA [19] (by decide) rfl rfl (fun H locs hw => ?_)
  have hw : Wd dC dI A s.heap (LW h q k (fset S 14 y2.2) pl im0 im1) H locs := hw
  refine lv_pop hx hb dL_law_963 rfl ?_
  refine lv_goto (tgt := 1181) hx hb dL_law_964 (by decide) ?_
  exact kk H locs hw

set_option maxHeartbeats 4000000 in
set_option maxRecDepth 100000 in
theorem lx_31 {p : Program} {l : Launch} {e : Env} {s : State} {m : MethodId} {below : List Frame} {meth : Method} {c : Code} {b L : Nat} {xs : Nat → Int32} {A : Nat → Prop} {dC : Nat → ClassId} {dI : Nat → Nat → Nat} {Q : State → Prop} {H : Heap} {locs : List Loc} {ls : Array Slot} {cells slots : Nat} {h : Nat → Nat} {q : Nat → Nat → Nat} {k : Nat → Nat → ClassId} {S : Nat → Ob} {pl : List CR} {im0 im1 : Option IR} {i : Int32} {n : Nat} (hx : p.tables.exec = Jvm.exec) (hb : c.code = code) (hml : c.maxLocals = 4) (hown : s.vm.findClass RL = some m.cls) (hts : ∀ w ∈ gt, w.before #[Value.ref b] s = true) (hX : wX s ∧ wT dI A s) (hXs : va_X b L xs s s.heap) (hbl : b < s.heap.size) (hbA : ¬ A b) (hA : ∀ q, s.heap.size ≤ q → A q) (hi : i.toInt = (n : Int)) (hn : n + 6 ≤ L) (hL : L ≤ 3072) (hc : cells.ble 600000 = true) (hs : slots.ble 7302250 = true) (hK : va_K (dC, dI) vwCl (Jt (LT k pl im0 im1)) s) (hw : Wd dC dI A s.heap (LW h q k S pl im0 im1) H locs) (hl : lv_has ls 4 [(0, .ref b), (1, .ref (h 0)), (2, .ref (h 14)), (3, .int i)]) (y1 : Int64 × Ob) (h1 : f_X8_few (S 0) (S 4) (S 7) (xs (i + (1 : Int32)).toNatClampNeg) (xs (i + (2 : Int32)).toNatClampNeg) = some y1) (kk : ∀ (H : Heap) (locs : List Loc), Wd dC dI A s.heap (LW h q k (fset S 7 y1.2) pl im0 im1) H locs → W p l e room_1 s m #[Value.ref b] below meth c H locs cells slots Q (F0 m 982 ls [])) : W p l e room_1 s m #[Value.ref b] below meth c H locs cells slots Q (F0 m 967 ls []) := by
  refine lv_aload_n hx hb dL_law_967 rfl (lv_at hl 1 rfl) ?_
  refine lv_aload_n hx hb dL_law_968 rfl (lv_at hl 0 rfl) ?_
  refine lv_iload_n hx hb dL_law_969 rfl (lv_at hl 3 rfl) ?_
  refine lv_iconst (v := 1) hx hb dL_law_970 (by decide) ?_
  refine lv_iadd hx hb dL_law_971 ?_
  refine va_sld hx hb hXs hbl hbA hw.2.2 (law_in hi hn hL (j := 1) (by decide) (by decide)) dL_law_972 ?_
  refine lv_aload_n hx hb dL_law_973 rfl (lv_at hl 0 rfl) ?_
  refine lv_iload_n hx hb dL_law_974 rfl (lv_at hl 3 rfl) ?_
  refine lv_iconst (v := 2) hx hb dL_law_975 (by decide) ?_
  refine lv_iadd hx hb dL_law_976 ?_
  refine va_sld hx hb hXs hbl hbA hw.2.2 (law_in hi hn hL (j := 2) (by decide) (by decide)) dL_law_977 ?_
  refine xj_l (xrV (As := [.int (xs (i + (1 : Int32)).toNatClampNeg), .int (xs (i + (2 : Int32)).toNatClampNeg)]) (rest := []) ⟨hx, hb, hml, hown, hts⟩ (m_X8_few l dC dI _ (h 0) (h 1) (h 3) (h 4) (h 6) (h 7) (h 8) (h 10) (h 11) (h 12) (h 13) (h 5) (q 0) (k 0) (q 4) (k 4) (q 7) (k 7) (S 0) (S 4) (S 7) (xs (i + (1 : Int32)).toNatClampNeg) (xs (i + (2 : Int32)).toNatClampNeg) y1 h1) kw1095 kw1092 kw1093 kw1094 kw110 hd_X8_few ⟨rfl, rfl⟩ rfl rfl ⟨hc, hs⟩ hX hK hw [0, 4, 7] (by decide) rfl rfl rfl rfl rfl hl.1 rfl rfl dL_law_978) hw hA [0, 4, 7] (by decide) rfl rfl (fun H locs hw => ?_)
  have hw : Wd dC dI A s.heap (LW h q k (fset S 7 y1.2) pl im0 im1) H locs := hw
  refine lv_pop2_2 hx hb dL_law_981 rfl ?_
  exact kk H locs hw

set_option maxHeartbeats 4000000 in
set_option maxRecDepth 100000 in
theorem lm_31 {p : Program} {l : Launch} {e : Env} {s : State} {m : MethodId} {below : List Frame} {meth : Method} {c : Code} {b L : Nat} {xs : Nat → Int32} {A : Nat → Prop} {dC : Nat → ClassId} {dI : Nat → Nat → Nat} {Q : State → Prop} {H : Heap} {locs : List Loc} {ls : Array Slot} {cells slots : Nat} {h : Nat → Nat} {q : Nat → Nat → Nat} {k : Nat → Nat → ClassId} {S : Nat → Ob} {pl : List CR} {im0 im1 : Option IR} {i : Int32} {n : Nat} (hx : p.tables.exec = Jvm.exec) (hb : c.code = code) (hml : c.maxLocals = 4) (hown : s.vm.findClass RL = some m.cls) (hts : ∀ w ∈ gt, w.before #[Value.ref b] s = true) (hX : wX s ∧ wT dI A s) (hXs : va_X b L xs s s.heap) (hbl : b < s.heap.size) (hbA : ¬ A b) (hA : ∀ q, s.heap.size ≤ q → A q) (hi : i.toInt = (n : Int)) (hn : n + 6 ≤ L) (hL : L ≤ 3072) (hc : cells.ble 600000 = true) (hs : slots.ble 7302250 = true) (hK : va_K (dC, dI) vwCl (Jt (LT k pl im0 im1)) s) (hw : Wd dC dI A s.heap (LW h q k S pl im0 im1) H locs) (hl : lv_has ls 4 [(0, .ref b), (1, .ref (h 0)), (2, .ref (h 14)), (3, .int i)]) (y2 : Int64 × Ob) (h2 : f_X9_few (S 14) (xs (i + (1 : Int32)).toNatClampNeg) (xs (i + (2 : Int32)).toNatClampNeg) = some y2) (kk : ∀ (H : Heap) (locs : List Loc), Wd dC dI A s.heap (LW h q k (fset S 14 y2.2) pl im0 im1) H locs → W p l e room_1 s m #[Value.ref b] below meth c H locs cells slots Q (F0 m 1181 ls [])) : W p l e room_1 s m #[Value.ref b] below meth c H locs cells slots Q (F0 m 982 ls []) := by
  refine lv_aload_n hx hb dL_law_982 rfl (lv_at hl 2 rfl) ?_
  refine lv_aload_n hx hb dL_law_983 rfl (lv_at hl 0 rfl) ?_
  refine lv_iload_n hx hb dL_law_984 rfl (lv_at hl 3 rfl) ?_
  refine lv_iconst (v := 1) hx hb dL_law_985 (by decide) ?_
  refine lv_iadd hx hb dL_law_986 ?_
  refine va_sld hx hb hXs hbl hbA hw.2.2 (law_in hi hn hL (j := 1) (by decide) (by decide)) dL_law_987 ?_
  refine lv_aload_n hx hb dL_law_988 rfl (lv_at hl 0 rfl) ?_
  refine lv_iload_n hx hb dL_law_989 rfl (lv_at hl 3 rfl) ?_
  refine lv_iconst (v := 2) hx hb dL_law_990 (by decide) ?_
  refine lv_iadd hx hb dL_law_991 ?_
  refine va_sld hx hb hXs hbl hbA hw.2.2 (law_in hi hn hL (j := 2) (by decide) (by decide)) dL_law_992 ?_
  refine xj_l (xrV (As := [.int (xs (i + (1 : Int32)).toNatClampNeg), .int (xs (i + (2 : Int32)).toNatClampNeg)]) (rest := []) ⟨hx, hb, hml, hown, hts⟩ (m_X9_few l dC dI _ (h 14) (q 14) (k 14) (S 14) (xs (i + (1 : Int32)).toNatClampNeg) (xs (i + (2 : Int32)).toNatClampNeg) y2 h2) kw1789 kw1786 kw1787 kw1788 kw120 hd_X9_few ⟨rfl, rfl⟩ rfl rfl ⟨hc, hs⟩ hX hK hw [19] (by decide) rfl rfl rfl rfl rfl hl.1 rfl rfl dL_law_993) hw hA [19] (by decide) rfl rfl (fun H locs hw => ?_)
  have hw : Wd dC dI A s.heap (LW h q k (fset S 14 y2.2) pl im0 im1) H locs := hw
  refine lv_pop2_2 hx hb dL_law_996 rfl ?_
  refine lv_goto (tgt := 1181) hx hb dL_law_997 (by decide) ?_
  exact kk H locs hw

set_option maxHeartbeats 4000000 in
set_option maxRecDepth 100000 in
theorem lx_32 {p : Program} {l : Launch} {e : Env} {s : State} {m : MethodId} {below : List Frame} {meth : Method} {c : Code} {b L : Nat} {xs : Nat → Int32} {A : Nat → Prop} {dC : Nat → ClassId} {dI : Nat → Nat → Nat} {Q : State → Prop} {H : Heap} {locs : List Loc} {ls : Array Slot} {cells slots : Nat} {h : Nat → Nat} {q : Nat → Nat → Nat} {k : Nat → Nat → ClassId} {S : Nat → Ob} {pl : List CR} {im0 im1 : Option IR} {i : Int32} {n : Nat} (hx : p.tables.exec = Jvm.exec) (hb : c.code = code) (hml : c.maxLocals = 4) (hown : s.vm.findClass RL = some m.cls) (hts : ∀ w ∈ gt, w.before #[Value.ref b] s = true) (hX : wX s ∧ wT dI A s) (hXs : va_X b L xs s s.heap) (hbl : b < s.heap.size) (hbA : ¬ A b) (hA : ∀ q, s.heap.size ≤ q → A q) (hi : i.toInt = (n : Int)) (hn : n + 6 ≤ L) (hL : L ≤ 3072) (hc : cells.ble 600000 = true) (hs : slots.ble 7302250 = true) (hK : va_K (dC, dI) vwCl (Jt (LT k pl im0 im1)) s) (hw : Wd dC dI A s.heap (LW h q k S pl im0 im1) H locs) (hl : lv_has ls 4 [(0, .ref b), (1, .ref (h 0)), (2, .ref (h 14)), (3, .int i)]) (y1 : Int32 × Ob × Ob) (h1 : f_X8_compare (S 0) (S 3) (S 4) (S 5) (S 6) pl (xs (i + (1 : Int32)).toNatClampNeg) (xs (i + (2 : Int32)).toNatClampNeg) = some y1) (kk : ∀ (H : Heap) (locs : List Loc), Wd dC dI A s.heap (LW h q k (fset (fset S 3 y1.2.1) 6 y1.2.2) pl im0 im1) H locs → W p l e room_1 s m #[Value.ref b] below meth c H locs cells slots Q (F0 m 1015 ls [])) : W p l e room_1 s m #[Value.ref b] below meth c H locs cells slots Q (F0 m 1000 ls []) := by
  refine lv_aload_n hx hb dL_law_1000 rfl (lv_at hl 1 rfl) ?_
  refine lv_aload_n hx hb dL_law_1001 rfl (lv_at hl 0 rfl) ?_
  refine lv_iload_n hx hb dL_law_1002 rfl (lv_at hl 3 rfl) ?_
  refine lv_iconst (v := 1) hx hb dL_law_1003 (by decide) ?_
  refine lv_iadd hx hb dL_law_1004 ?_
  refine va_sld hx hb hXs hbl hbA hw.2.2 (law_in hi hn hL (j := 1) (by decide) (by decide)) dL_law_1005 ?_
  refine lv_aload_n hx hb dL_law_1006 rfl (lv_at hl 0 rfl) ?_
  refine lv_iload_n hx hb dL_law_1007 rfl (lv_at hl 3 rfl) ?_
  refine lv_iconst (v := 2) hx hb dL_law_1008 (by decide) ?_
  refine lv_iadd hx hb dL_law_1009 ?_
  refine va_sld hx hb hXs hbl hbA hw.2.2 (law_in hi hn hL (j := 2) (by decide) (by decide)) dL_law_1010 ?_
  refine xj_i (xrV (As := [.int (xs (i + (1 : Int32)).toNatClampNeg), .int (xs (i + (2 : Int32)).toNatClampNeg)]) (rest := []) ⟨hx, hb, hml, hown, hts⟩ (m_X8_compare l dC dI _ (h 0) (h 1) (h 3) (h 4) (h 6) (h 7) (h 8) (h 10) (h 11) (h 12) (h 13) (h 5) (q 0) (k 0) (q 3) (k 3) (q 4) (k 4) (q 5) (k 5) (q 6) (k 6) (S 0) (S 3) (S 4) (S 5) (S 6) pl (xs (i + (1 : Int32)).toNatClampNeg) (xs (i + (2 : Int32)).toNatClampNeg) y1 h1) kw1108 kw1105 kw1106 kw1107 kw110 hd_X8_compare ⟨rfl, rfl⟩ rfl rfl ⟨hc, hs⟩ hX hK hw [0, 3, 4, 5, 6, 14] (by decide) rfl rfl rfl rfl rfl hl.1 rfl rfl dL_law_1011) hw hA [0, 3, 4, 5, 6, 14] (by decide) rfl rfl (fun H locs hw => ?_)
  have hw : Wd dC dI A s.heap (LW h q k (fset (fset S 3 y1.2.1) 6 y1.2.2) pl im0 im1) H locs := hw
  refine lv_pop hx hb dL_law_1014 rfl ?_
  exact kk H locs hw

set_option maxHeartbeats 4000000 in
set_option maxRecDepth 100000 in
theorem lm_32 {p : Program} {l : Launch} {e : Env} {s : State} {m : MethodId} {below : List Frame} {meth : Method} {c : Code} {b L : Nat} {xs : Nat → Int32} {A : Nat → Prop} {dC : Nat → ClassId} {dI : Nat → Nat → Nat} {Q : State → Prop} {H : Heap} {locs : List Loc} {ls : Array Slot} {cells slots : Nat} {h : Nat → Nat} {q : Nat → Nat → Nat} {k : Nat → Nat → ClassId} {S : Nat → Ob} {pl : List CR} {im0 im1 : Option IR} {i : Int32} {n : Nat} (hx : p.tables.exec = Jvm.exec) (hb : c.code = code) (hml : c.maxLocals = 4) (hown : s.vm.findClass RL = some m.cls) (hts : ∀ w ∈ gt, w.before #[Value.ref b] s = true) (hX : wX s ∧ wT dI A s) (hXs : va_X b L xs s s.heap) (hbl : b < s.heap.size) (hbA : ¬ A b) (hA : ∀ q, s.heap.size ≤ q → A q) (hi : i.toInt = (n : Int)) (hn : n + 6 ≤ L) (hL : L ≤ 3072) (hc : cells.ble 600000 = true) (hs : slots.ble 7302250 = true) (hK : va_K (dC, dI) vwCl (Jt (LT k pl im0 im1)) s) (hw : Wd dC dI A s.heap (LW h q k S pl im0 im1) H locs) (hl : lv_has ls 4 [(0, .ref b), (1, .ref (h 0)), (2, .ref (h 14)), (3, .int i)]) (y2 : Int32 × Ob) (h2 : f_X9_compare (S 14) (xs (i + (1 : Int32)).toNatClampNeg) (xs (i + (2 : Int32)).toNatClampNeg) = some y2) (kk : ∀ (H : Heap) (locs : List Loc), Wd dC dI A s.heap (LW h q k (fset S 14 y2.2) pl im0 im1) H locs → W p l e room_1 s m #[Value.ref b] below meth c H locs cells slots Q (F0 m 1181 ls [])) : W p l e room_1 s m #[Value.ref b] below meth c H locs cells slots Q (F0 m 1015 ls []) := by
  refine lv_aload_n hx hb dL_law_1015 rfl (lv_at hl 2 rfl) ?_
  refine lv_aload_n hx hb dL_law_1016 rfl (lv_at hl 0 rfl) ?_
  refine lv_iload_n hx hb dL_law_1017 rfl (lv_at hl 3 rfl) ?_
  refine lv_iconst (v := 1) hx hb dL_law_1018 (by decide) ?_
  refine lv_iadd hx hb dL_law_1019 ?_
  refine va_sld hx hb hXs hbl hbA hw.2.2 (law_in hi hn hL (j := 1) (by decide) (by decide)) dL_law_1020 ?_
  refine lv_aload_n hx hb dL_law_1021 rfl (lv_at hl 0 rfl) ?_
  refine lv_iload_n hx hb dL_law_1022 rfl (lv_at hl 3 rfl) ?_
  refine lv_iconst (v := 2) hx hb dL_law_1023 (by decide) ?_
  refine lv_iadd hx hb dL_law_1024 ?_
  refine va_sld hx hb hXs hbl hbA hw.2.2 (law_in hi hn hL (j := 2) (by decide) (by decide)) dL_law_1025 ?_
  refine xj_i (xrV (As := [.int (xs (i + (1 : Int32)).toNatClampNeg), .int (xs (i + (2 : Int32)).toNatClampNeg)]) (rest := []) ⟨hx, hb, hml, hown, hts⟩ (m_X9_compare l dC dI _ (h 14) (q 14) (k 14) (S 14) (xs (i + (1 : Int32)).toNatClampNeg) (xs (i + (2 : Int32)).toNatClampNeg) y2 h2) kw1795 kw1792 kw1793 kw1794 kw120 hd_X9_compare ⟨rfl, rfl⟩ rfl rfl ⟨hc, hs⟩ hX hK hw [19] (by decide) rfl rfl rfl rfl rfl hl.1 rfl rfl dL_law_1026) hw hA [19] (by decide) rfl rfl (fun H locs hw => ?_)
  have hw : Wd dC dI A s.heap (LW h q k (fset S 14 y2.2) pl im0 im1) H locs := hw
  refine lv_pop hx hb dL_law_1029 rfl ?_
  refine lv_goto (tgt := 1181) hx hb dL_law_1030 (by decide) ?_
  exact kk H locs hw

set_option maxHeartbeats 4000000 in
set_option maxRecDepth 100000 in
theorem lx_33 {p : Program} {l : Launch} {e : Env} {s : State} {m : MethodId} {below : List Frame} {meth : Method} {c : Code} {b L : Nat} {xs : Nat → Int32} {A : Nat → Prop} {dC : Nat → ClassId} {dI : Nat → Nat → Nat} {Q : State → Prop} {H : Heap} {locs : List Loc} {ls : Array Slot} {cells slots : Nat} {h : Nat → Nat} {q : Nat → Nat → Nat} {k : Nat → Nat → ClassId} {S : Nat → Ob} {pl : List CR} {im0 im1 : Option IR} {i : Int32} {n : Nat} (hx : p.tables.exec = Jvm.exec) (hb : c.code = code) (hml : c.maxLocals = 4) (hown : s.vm.findClass RL = some m.cls) (hts : ∀ w ∈ gt, w.before #[Value.ref b] s = true) (hX : wX s ∧ wT dI A s) (hXs : va_X b L xs s s.heap) (hbl : b < s.heap.size) (hbA : ¬ A b) (hA : ∀ q, s.heap.size ≤ q → A q) (hi : i.toInt = (n : Int)) (hn : n + 6 ≤ L) (hL : L ≤ 3072) (hc : cells.ble 600000 = true) (hs : slots.ble 7302250 = true) (hK : va_K (dC, dI) vwCl (Jt (LT k pl im0 im1)) s) (hw : Wd dC dI A s.heap (LW h q k S pl im0 im1) H locs) (hl : lv_has ls 4 [(0, .ref b), (1, .ref (h 0)), (2, .ref (h 14)), (3, .int i)]) (y1 : Int32 × Ob × Ob × Ob × Ob × Ob) (h1 : f_X8_centuries (S 0) (S 3) (S 4) (S 5) (S 8) (S 9) (S 10) pl (xs (i + (1 : Int32)).toNatClampNeg) (xs (i + (2 : Int32)).toNatClampNeg) = some y1) (kk : ∀ (H : Heap) (locs : List Loc), Wd dC dI A s.heap (LW h q k (fset (fset (fset (fset (fset S 0 y1.2.1) 3 y1.2.2.1) 8 y1.2.2.2.1) 9 y1.2.2.2.2.1) 10 y1.2.2.2.2.2) pl im0 im1) H locs → W p l e room_1 s m #[Value.ref b] below meth c H locs cells slots Q (F0 m 1048 ls [])) : W p l e room_1 s m #[Value.ref b] below meth c H locs cells slots Q (F0 m 1033 ls []) := by
  refine lv_aload_n hx hb dL_law_1033 rfl (lv_at hl 1 rfl) ?_
  refine lv_aload_n hx hb dL_law_1034 rfl (lv_at hl 0 rfl) ?_
  refine lv_iload_n hx hb dL_law_1035 rfl (lv_at hl 3 rfl) ?_
  refine lv_iconst (v := 1) hx hb dL_law_1036 (by decide) ?_
  refine lv_iadd hx hb dL_law_1037 ?_
  refine va_sld hx hb hXs hbl hbA hw.2.2 (law_in hi hn hL (j := 1) (by decide) (by decide)) dL_law_1038 ?_
  refine lv_aload_n hx hb dL_law_1039 rfl (lv_at hl 0 rfl) ?_
  refine lv_iload_n hx hb dL_law_1040 rfl (lv_at hl 3 rfl) ?_
  refine lv_iconst (v := 2) hx hb dL_law_1041 (by decide) ?_
  refine lv_iadd hx hb dL_law_1042 ?_
  refine va_sld hx hb hXs hbl hbA hw.2.2 (law_in hi hn hL (j := 2) (by decide) (by decide)) dL_law_1043 ?_
  refine xj_i (xrV (As := [.int (xs (i + (1 : Int32)).toNatClampNeg), .int (xs (i + (2 : Int32)).toNatClampNeg)]) (rest := []) ⟨hx, hb, hml, hown, hts⟩ (m_X8_centuries l dC dI _ (h 0) (h 1) (h 3) (h 4) (h 6) (h 7) (h 8) (h 10) (h 11) (h 12) (h 13) (h 5) (h 9) (q 0) (k 0) (q 3) (k 3) (q 4) (k 4) (q 5) (k 5) (q 8) (k 8) (q 9) (k 9) (q 10) (k 10) (S 0) (S 3) (S 4) (S 5) (S 8) (S 9) (S 10) pl (xs (i + (1 : Int32)).toNatClampNeg) (xs (i + (2 : Int32)).toNatClampNeg) y1 h1) kw1113 kw1110 kw1111 kw1112 kw110 hd_X8_centuries ⟨rfl, rfl⟩ rfl rfl ⟨hc, hs⟩ hX hK hw [0, 3, 4, 5, 8, 9, 10, 14] (by decide) rfl rfl rfl rfl rfl hl.1 rfl rfl dL_law_1044) hw hA [0, 3, 4, 5, 8, 9, 10, 14] (by decide) rfl rfl (fun H locs hw => ?_)
  have hw : Wd dC dI A s.heap (LW h q k (fset (fset (fset (fset (fset S 0 y1.2.1) 3 y1.2.2.1) 8 y1.2.2.2.1) 9 y1.2.2.2.2.1) 10 y1.2.2.2.2.2) pl im0 im1) H locs := hw
  refine lv_pop hx hb dL_law_1047 rfl ?_
  exact kk H locs hw

set_option maxHeartbeats 4000000 in
set_option maxRecDepth 100000 in
theorem lm_33 {p : Program} {l : Launch} {e : Env} {s : State} {m : MethodId} {below : List Frame} {meth : Method} {c : Code} {b L : Nat} {xs : Nat → Int32} {A : Nat → Prop} {dC : Nat → ClassId} {dI : Nat → Nat → Nat} {Q : State → Prop} {H : Heap} {locs : List Loc} {ls : Array Slot} {cells slots : Nat} {h : Nat → Nat} {q : Nat → Nat → Nat} {k : Nat → Nat → ClassId} {S : Nat → Ob} {pl : List CR} {im0 im1 : Option IR} {i : Int32} {n : Nat} (hx : p.tables.exec = Jvm.exec) (hb : c.code = code) (hml : c.maxLocals = 4) (hown : s.vm.findClass RL = some m.cls) (hts : ∀ w ∈ gt, w.before #[Value.ref b] s = true) (hX : wX s ∧ wT dI A s) (hXs : va_X b L xs s s.heap) (hbl : b < s.heap.size) (hbA : ¬ A b) (hA : ∀ q, s.heap.size ≤ q → A q) (hi : i.toInt = (n : Int)) (hn : n + 6 ≤ L) (hL : L ≤ 3072) (hc : cells.ble 600000 = true) (hs : slots.ble 7302250 = true) (hK : va_K (dC, dI) vwCl (Jt (LT k pl im0 im1)) s) (hw : Wd dC dI A s.heap (LW h q k S pl im0 im1) H locs) (hl : lv_has ls 4 [(0, .ref b), (1, .ref (h 0)), (2, .ref (h 14)), (3, .int i)]) (y2 : Int32 × Ob) (h2 : f_X9_centuries (S 14) (xs (i + (1 : Int32)).toNatClampNeg) (xs (i + (2 : Int32)).toNatClampNeg) = some y2) (kk : ∀ (H : Heap) (locs : List Loc), Wd dC dI A s.heap (LW h q k (fset S 14 y2.2) pl im0 im1) H locs → W p l e room_1 s m #[Value.ref b] below meth c H locs cells slots Q (F0 m 1181 ls [])) : W p l e room_1 s m #[Value.ref b] below meth c H locs cells slots Q (F0 m 1048 ls []) := by
  refine lv_aload_n hx hb dL_law_1048 rfl (lv_at hl 2 rfl) ?_
  refine lv_aload_n hx hb dL_law_1049 rfl (lv_at hl 0 rfl) ?_
  refine lv_iload_n hx hb dL_law_1050 rfl (lv_at hl 3 rfl) ?_
  refine lv_iconst (v := 1) hx hb dL_law_1051 (by decide) ?_
  refine lv_iadd hx hb dL_law_1052 ?_
  refine va_sld hx hb hXs hbl hbA hw.2.2 (law_in hi hn hL (j := 1) (by decide) (by decide)) dL_law_1053 ?_
  refine lv_aload_n hx hb dL_law_1054 rfl (lv_at hl 0 rfl) ?_
  refine lv_iload_n hx hb dL_law_1055 rfl (lv_at hl 3 rfl) ?_
  refine lv_iconst (v := 2) hx hb dL_law_1056 (by decide) ?_
  refine lv_iadd hx hb dL_law_1057 ?_
  refine va_sld hx hb hXs hbl hbA hw.2.2 (law_in hi hn hL (j := 2) (by decide) (by decide)) dL_law_1058 ?_
  refine xj_i (xrV (As := [.int (xs (i + (1 : Int32)).toNatClampNeg), .int (xs (i + (2 : Int32)).toNatClampNeg)]) (rest := []) ⟨hx, hb, hml, hown, hts⟩ (m_X9_centuries l dC dI _ (h 14) (q 14) (k 14) (S 14) (xs (i + (1 : Int32)).toNatClampNeg) (xs (i + (2 : Int32)).toNatClampNeg) y2 h2) kw1840 kw1837 kw1838 kw1839 kw120 hd_X9_centuries ⟨rfl, rfl⟩ rfl rfl ⟨hc, hs⟩ hX hK hw [19] (by decide) rfl rfl rfl rfl rfl hl.1 rfl rfl dL_law_1059) hw hA [19] (by decide) rfl rfl (fun H locs hw => ?_)
  have hw : Wd dC dI A s.heap (LW h q k (fset S 14 y2.2) pl im0 im1) H locs := hw
  refine lv_pop hx hb dL_law_1062 rfl ?_
  refine lv_goto (tgt := 1181) hx hb dL_law_1063 (by decide) ?_
  exact kk H locs hw

set_option maxHeartbeats 4000000 in
set_option maxRecDepth 100000 in
theorem lx_34 {p : Program} {l : Launch} {e : Env} {s : State} {m : MethodId} {below : List Frame} {meth : Method} {c : Code} {b L : Nat} {xs : Nat → Int32} {A : Nat → Prop} {dC : Nat → ClassId} {dI : Nat → Nat → Nat} {Q : State → Prop} {H : Heap} {locs : List Loc} {ls : Array Slot} {cells slots : Nat} {h : Nat → Nat} {q : Nat → Nat → Nat} {k : Nat → Nat → ClassId} {S : Nat → Ob} {pl : List CR} {im0 im1 : Option IR} {i : Int32} {n : Nat} (hx : p.tables.exec = Jvm.exec) (hb : c.code = code) (hml : c.maxLocals = 4) (hown : s.vm.findClass RL = some m.cls) (hts : ∀ w ∈ gt, w.before #[Value.ref b] s = true) (hX : wX s ∧ wT dI A s) (hXs : va_X b L xs s s.heap) (hbl : b < s.heap.size) (hbA : ¬ A b) (hA : ∀ q, s.heap.size ≤ q → A q) (hi : i.toInt = (n : Int)) (hn : n + 6 ≤ L) (hL : L ≤ 3072) (hc : cells.ble 600000 = true) (hs : slots.ble 7302250 = true) (hK : va_K (dC, dI) vwCl (Jt (LT k pl im0 im1)) s) (hw : Wd dC dI A s.heap (LW h q k S pl im0 im1) H locs) (hl : lv_has ls 4 [(0, .ref b), (1, .ref (h 0)), (2, .ref (h 14)), (3, .int i)]) (y1 : Int32) (h1 : f_X8_drawn (S 0) (S 8) (S 9) (xs (i + (1 : Int32)).toNatClampNeg) (xs (i + (2 : Int32)).toNatClampNeg) = some y1) (kk : ∀ (H : Heap) (locs : List Loc), Wd dC dI A s.heap (LW h q k S pl im0 im1) H locs → W p l e room_1 s m #[Value.ref b] below meth c H locs cells slots Q (F0 m 1081 ls [])) : W p l e room_1 s m #[Value.ref b] below meth c H locs cells slots Q (F0 m 1066 ls []) := by
  refine lv_aload_n hx hb dL_law_1066 rfl (lv_at hl 1 rfl) ?_
  refine lv_aload_n hx hb dL_law_1067 rfl (lv_at hl 0 rfl) ?_
  refine lv_iload_n hx hb dL_law_1068 rfl (lv_at hl 3 rfl) ?_
  refine lv_iconst (v := 1) hx hb dL_law_1069 (by decide) ?_
  refine lv_iadd hx hb dL_law_1070 ?_
  refine va_sld hx hb hXs hbl hbA hw.2.2 (law_in hi hn hL (j := 1) (by decide) (by decide)) dL_law_1071 ?_
  refine lv_aload_n hx hb dL_law_1072 rfl (lv_at hl 0 rfl) ?_
  refine lv_iload_n hx hb dL_law_1073 rfl (lv_at hl 3 rfl) ?_
  refine lv_iconst (v := 2) hx hb dL_law_1074 (by decide) ?_
  refine lv_iadd hx hb dL_law_1075 ?_
  refine va_sld hx hb hXs hbl hbA hw.2.2 (law_in hi hn hL (j := 2) (by decide) (by decide)) dL_law_1076 ?_
  refine xj_i (xrV (As := [.int (xs (i + (1 : Int32)).toNatClampNeg), .int (xs (i + (2 : Int32)).toNatClampNeg)]) (rest := []) ⟨hx, hb, hml, hown, hts⟩ (m_X8_drawn l dC dI _ (h 0) (h 1) (h 3) (h 4) (h 6) (h 7) (h 8) (h 10) (h 11) (h 12) (h 13) (h 9) (q 0) (k 0) (q 8) (k 8) (q 9) (k 9) (S 0) (S 8) (S 9) (xs (i + (1 : Int32)).toNatClampNeg) (xs (i + (2 : Int32)).toNatClampNeg) y1 h1) kw1130 kw1127 kw1128 kw1129 kw110 hd_X8_drawn ⟨rfl, rfl⟩ rfl rfl ⟨hc, hs⟩ hX hK hw [0, 8, 9] (by decide) rfl rfl rfl rfl rfl hl.1 rfl rfl dL_law_1077) hw hA [0, 8, 9] (by decide) rfl rfl (fun H locs hw => ?_)
  have hw : Wd dC dI A s.heap (LW h q k S pl im0 im1) H locs := hw
  refine lv_pop hx hb dL_law_1080 rfl ?_
  exact kk H locs hw

set_option maxHeartbeats 4000000 in
set_option maxRecDepth 100000 in
theorem lm_34 {p : Program} {l : Launch} {e : Env} {s : State} {m : MethodId} {below : List Frame} {meth : Method} {c : Code} {b L : Nat} {xs : Nat → Int32} {A : Nat → Prop} {dC : Nat → ClassId} {dI : Nat → Nat → Nat} {Q : State → Prop} {H : Heap} {locs : List Loc} {ls : Array Slot} {cells slots : Nat} {h : Nat → Nat} {q : Nat → Nat → Nat} {k : Nat → Nat → ClassId} {S : Nat → Ob} {pl : List CR} {im0 im1 : Option IR} {i : Int32} {n : Nat} (hx : p.tables.exec = Jvm.exec) (hb : c.code = code) (hml : c.maxLocals = 4) (hown : s.vm.findClass RL = some m.cls) (hts : ∀ w ∈ gt, w.before #[Value.ref b] s = true) (hX : wX s ∧ wT dI A s) (hXs : va_X b L xs s s.heap) (hbl : b < s.heap.size) (hbA : ¬ A b) (hA : ∀ q, s.heap.size ≤ q → A q) (hi : i.toInt = (n : Int)) (hn : n + 6 ≤ L) (hL : L ≤ 3072) (hc : cells.ble 600000 = true) (hs : slots.ble 7302250 = true) (hK : va_K (dC, dI) vwCl (Jt (LT k pl im0 im1)) s) (hw : Wd dC dI A s.heap (LW h q k S pl im0 im1) H locs) (hl : lv_has ls 4 [(0, .ref b), (1, .ref (h 0)), (2, .ref (h 14)), (3, .int i)]) (y2 : Int32 × Ob) (h2 : f_X9_drawn (S 14) (xs (i + (1 : Int32)).toNatClampNeg) (xs (i + (2 : Int32)).toNatClampNeg) = some y2) (kk : ∀ (H : Heap) (locs : List Loc), Wd dC dI A s.heap (LW h q k (fset S 14 y2.2) pl im0 im1) H locs → W p l e room_1 s m #[Value.ref b] below meth c H locs cells slots Q (F0 m 1181 ls [])) : W p l e room_1 s m #[Value.ref b] below meth c H locs cells slots Q (F0 m 1081 ls []) := by
  refine lv_aload_n hx hb dL_law_1081 rfl (lv_at hl 2 rfl) ?_
  refine lv_aload_n hx hb dL_law_1082 rfl (lv_at hl 0 rfl) ?_
  refine lv_iload_n hx hb dL_law_1083 rfl (lv_at hl 3 rfl) ?_
  refine lv_iconst (v := 1) hx hb dL_law_1084 (by decide) ?_
  refine lv_iadd hx hb dL_law_1085 ?_
  refine va_sld hx hb hXs hbl hbA hw.2.2 (law_in hi hn hL (j := 1) (by decide) (by decide)) dL_law_1086 ?_
  refine lv_aload_n hx hb dL_law_1087 rfl (lv_at hl 0 rfl) ?_
  refine lv_iload_n hx hb dL_law_1088 rfl (lv_at hl 3 rfl) ?_
  refine lv_iconst (v := 2) hx hb dL_law_1089 (by decide) ?_
  refine lv_iadd hx hb dL_law_1090 ?_
  refine va_sld hx hb hXs hbl hbA hw.2.2 (law_in hi hn hL (j := 2) (by decide) (by decide)) dL_law_1091 ?_
  refine xj_i (xrV (As := [.int (xs (i + (1 : Int32)).toNatClampNeg), .int (xs (i + (2 : Int32)).toNatClampNeg)]) (rest := []) ⟨hx, hb, hml, hown, hts⟩ (m_X9_drawn l dC dI _ (h 14) (q 14) (k 14) (S 14) (xs (i + (1 : Int32)).toNatClampNeg) (xs (i + (2 : Int32)).toNatClampNeg) y2 h2) kw1851 kw1848 kw1849 kw1850 kw120 hd_X9_drawn ⟨rfl, rfl⟩ rfl rfl ⟨hc, hs⟩ hX hK hw [19] (by decide) rfl rfl rfl rfl rfl hl.1 rfl rfl dL_law_1092) hw hA [19] (by decide) rfl rfl (fun H locs hw => ?_)
  have hw : Wd dC dI A s.heap (LW h q k (fset S 14 y2.2) pl im0 im1) H locs := hw
  refine lv_pop hx hb dL_law_1095 rfl ?_
  refine lv_goto (tgt := 1181) hx hb dL_law_1096 (by decide) ?_
  exact kk H locs hw

set_option maxHeartbeats 4000000 in
set_option maxRecDepth 100000 in
theorem lx_35_R {p : Program} {l : Launch} {e : Env} {s : State} {m : MethodId} {below : List Frame} {meth : Method} {c : Code} {b L : Nat} {xs : Nat → Int32} {A : Nat → Prop} {dC : Nat → ClassId} {dI : Nat → Nat → Nat} {Q : State → Prop} {H : Heap} {locs : List Loc} {ls : Array Slot} {cells slots : Nat} {h : Nat → Nat} {q : Nat → Nat → Nat} {k : Nat → Nat → ClassId} {S : Nat → Ob} {pl : List CR} {im0 im1 : Option IR} {i : Int32} {n : Nat} (hx : p.tables.exec = Jvm.exec) (hb : c.code = code) (hml : c.maxLocals = 4) (hown : s.vm.findClass RL = some m.cls) (hts : ∀ w ∈ gt, w.before #[Value.ref b] s = true) (hX : wX s ∧ wT dI A s) (hXs : va_X b L xs s s.heap) (hbl : b < s.heap.size) (hbA : ¬ A b) (hA : ∀ q, s.heap.size ≤ q → A q) (hi : i.toInt = (n : Int)) (hn : n + 6 ≤ L) (hL : L ≤ 3072) (hc : cells.ble 600000 = true) (hs : slots.ble 7302250 = true) (hK : va_K (dC, dI) vwCl (Jt (LT k pl im0 im1)) s) (hw : Wd dC dI A s.heap (LW h q k S pl im0 im1) H locs) (hl : lv_has ls 4 [(0, .ref b), (1, .ref (h 0)), (2, .ref (h 14)), (3, .int i)]) (y1 : Int32 × Ob) (h1 : f_X8_image_R (S 0) (xs (i + (1 : Int32)).toNatClampNeg) = some y1) (kk : ∀ (H : Heap) (locs : List Loc), Wd dC dI A s.heap (LW h q k (fset S 0 y1.2) pl im0 im1) H locs → W p l e room_1 s m #[Value.ref b] below meth c H locs cells slots Q (F0 m 1109 ls [])) : W p l e room_1 s m #[Value.ref b] below meth c H locs cells slots Q (F0 m 1099 ls []) := by
  refine lv_aload_n hx hb dL_law_1099 rfl (lv_at hl 1 rfl) ?_
  refine lv_aload_n hx hb dL_law_1100 rfl (lv_at hl 0 rfl) ?_
  refine lv_iload_n hx hb dL_law_1101 rfl (lv_at hl 3 rfl) ?_
  refine lv_iconst (v := 1) hx hb dL_law_1102 (by decide) ?_
  refine lv_iadd hx hb dL_law_1103 ?_
  refine va_sld hx hb hXs hbl hbA hw.2.2 (law_in hi hn hL (j := 1) (by decide) (by decide)) dL_law_1104 ?_
  refine xj_i (xrV (As := [.int (xs (i + (1 : Int32)).toNatClampNeg)]) (rest := []) ⟨hx, hb, hml, hown, hts⟩ (m_X8_image_R l dC dI _ (h 0) (h 1) (h 3) (h 4) (h 6) (h 7) (h 8) (h 10) (h 11) (h 12) (h 13) (q 0) (k 0) (S 0) (xs (i + (1 : Int32)).toNatClampNeg) y1 h1) kw1134 kw1131 kw1132 kw1133 kw110 hd_X8_image ⟨rfl, rfl⟩ rfl rfl ⟨hc, hs⟩ hX hK hw [0] (by decide) rfl rfl rfl rfl rfl hl.1 rfl rfl dL_law_1105) hw hA [0] (by decide) rfl rfl (fun H locs hw => ?_)
  have hw : Wd dC dI A s.heap (LW h q k (fset S 0 y1.2) pl im0 im1) H locs := hw
  refine lv_pop hx hb dL_law_1108 rfl ?_
  exact kk H locs hw

set_option maxHeartbeats 4000000 in
set_option maxRecDepth 100000 in
theorem lx_35_O0 {p : Program} {l : Launch} {e : Env} {s : State} {m : MethodId} {below : List Frame} {meth : Method} {c : Code} {b L : Nat} {xs : Nat → Int32} {A : Nat → Prop} {dC : Nat → ClassId} {dI : Nat → Nat → Nat} {Q : State → Prop} {H : Heap} {locs : List Loc} {ls : Array Slot} {cells slots : Nat} {h : Nat → Nat} {q : Nat → Nat → Nat} {k : Nat → Nat → ClassId} {S : Nat → Ob} {pl : List CR} {im0 im1 : Option IR} {i : Int32} {n : Nat} {r9 : IR} (hx : p.tables.exec = Jvm.exec) (hb : c.code = code) (hml : c.maxLocals = 4) (hown : s.vm.findClass RL = some m.cls) (hts : ∀ w ∈ gt, w.before #[Value.ref b] s = true) (hX : wX s ∧ wT dI A s) (hXs : va_X b L xs s s.heap) (hbl : b < s.heap.size) (hbA : ¬ A b) (hA : ∀ q, s.heap.size ≤ q → A q) (hi : i.toInt = (n : Int)) (hn : n + 6 ≤ L) (hL : L ≤ 3072) (hc : cells.ble 600000 = true) (hs : slots.ble 7302250 = true) (hK : va_K (dC, dI) vwCl (Jt (LT k pl (some r9) im1)) s) (hw : Wd dC dI A s.heap (LW h q k S pl (some r9) im1) H locs) (hl : lv_has ls 4 [(0, .ref b), (1, .ref (h 0)), (2, .ref (h 14)), (3, .int i)]) (him : gR (S 0) 7 (xs (i + (1 : Int32)).toNatClampNeg).toNatClampNeg = some r9.1) (y1 : Int32 × Ob × Ob × Ob) (h1 : f_X8_image_O (S 0) (S 4) (S 5) pl r9.2.2.2.2.2.2.1 r9.2.2.2.2.2.2.2 (xs (i + (1 : Int32)).toNatClampNeg) = some y1) (kk : ∀ (H : Heap) (locs : List Loc), Wd dC dI A s.heap (LW h q k (fset S 0 y1.2.1) pl (some (r9.1, r9.2.1, r9.2.2.1, r9.2.2.2.1, r9.2.2.2.2.1, r9.2.2.2.2.2.1, y1.2.2.1, y1.2.2.2)) im1) H locs → W p l e room_1 s m #[Value.ref b] below meth c H locs cells slots Q (F0 m 1109 ls [])) : W p l e room_1 s m #[Value.ref b] below meth c H locs cells slots Q (F0 m 1099 ls []) := by
  refine lv_aload_n hx hb dL_law_1099 rfl (lv_at hl 1 rfl) ?_
  refine lv_aload_n hx hb dL_law_1100 rfl (lv_at hl 0 rfl) ?_
  refine lv_iload_n hx hb dL_law_1101 rfl (lv_at hl 3 rfl) ?_
  refine lv_iconst (v := 1) hx hb dL_law_1102 (by decide) ?_
  refine lv_iadd hx hb dL_law_1103 ?_
  refine va_sld hx hb hXs hbl hbA hw.2.2 (law_in hi hn hL (j := 1) (by decide) (by decide)) dL_law_1104 ?_
  refine xj_i (xrV (As := [.int (xs (i + (1 : Int32)).toNatClampNeg)]) (rest := []) ⟨hx, hb, hml, hown, hts⟩ (m_X8_image_O l dC dI _ (h 0) (h 1) (h 3) (h 4) (h 6) (h 7) (h 8) (h 10) (h 11) (h 12) (h 13) (h 5) r9.1 r9.2.1 (q 0) (k 0) (q 4) (k 4) (q 5) (k 5) r9.2.2.1 r9.2.2.2.1 r9.2.2.2.2.1 r9.2.2.2.2.2.1 (S 0) (S 4) (S 5) pl r9.2.2.2.2.2.2.1 r9.2.2.2.2.2.2.2 (xs (i + (1 : Int32)).toNatClampNeg) him y1 h1) kw1134 kw1131 kw1132 kw1133 kw110 hd_X8_image ⟨rfl, rfl⟩ rfl rfl ⟨hc, hs⟩ hX hK hw [0, 4, 5, 14, 15, 16] (by decide) rfl rfl rfl rfl rfl hl.1 rfl rfl dL_law_1105) hw hA [0, 4, 5, 14, 15, 16] (by decide) rfl rfl (fun H locs hw => ?_)
  have hw : Wd dC dI A s.heap (LW h q k (fset S 0 y1.2.1) pl (some (r9.1, r9.2.1, r9.2.2.1, r9.2.2.2.1, r9.2.2.2.2.1, r9.2.2.2.2.2.1, y1.2.2.1, y1.2.2.2)) im1) H locs := hw
  refine lv_pop hx hb dL_law_1108 rfl ?_
  exact kk H locs hw

set_option maxHeartbeats 4000000 in
set_option maxRecDepth 100000 in
theorem lx_35_O1 {p : Program} {l : Launch} {e : Env} {s : State} {m : MethodId} {below : List Frame} {meth : Method} {c : Code} {b L : Nat} {xs : Nat → Int32} {A : Nat → Prop} {dC : Nat → ClassId} {dI : Nat → Nat → Nat} {Q : State → Prop} {H : Heap} {locs : List Loc} {ls : Array Slot} {cells slots : Nat} {h : Nat → Nat} {q : Nat → Nat → Nat} {k : Nat → Nat → ClassId} {S : Nat → Ob} {pl : List CR} {im0 im1 : Option IR} {i : Int32} {n : Nat} {r9 : IR} (hx : p.tables.exec = Jvm.exec) (hb : c.code = code) (hml : c.maxLocals = 4) (hown : s.vm.findClass RL = some m.cls) (hts : ∀ w ∈ gt, w.before #[Value.ref b] s = true) (hX : wX s ∧ wT dI A s) (hXs : va_X b L xs s s.heap) (hbl : b < s.heap.size) (hbA : ¬ A b) (hA : ∀ q, s.heap.size ≤ q → A q) (hi : i.toInt = (n : Int)) (hn : n + 6 ≤ L) (hL : L ≤ 3072) (hc : cells.ble 600000 = true) (hs : slots.ble 7302250 = true) (hK : va_K (dC, dI) vwCl (Jt (LT k pl im0 (some r9))) s) (hw : Wd dC dI A s.heap (LW h q k S pl im0 (some r9)) H locs) (hl : lv_has ls 4 [(0, .ref b), (1, .ref (h 0)), (2, .ref (h 14)), (3, .int i)]) (him : gR (S 0) 7 (xs (i + (1 : Int32)).toNatClampNeg).toNatClampNeg = some r9.1) (y1 : Int32 × Ob × Ob × Ob) (h1 : f_X8_image_O (S 0) (S 4) (S 5) pl r9.2.2.2.2.2.2.1 r9.2.2.2.2.2.2.2 (xs (i + (1 : Int32)).toNatClampNeg) = some y1) (kk : ∀ (H : Heap) (locs : List Loc), Wd dC dI A s.heap (LW h q k (fset S 0 y1.2.1) pl im0 (some (r9.1, r9.2.1, r9.2.2.1, r9.2.2.2.1, r9.2.2.2.2.1, r9.2.2.2.2.2.1, y1.2.2.1, y1.2.2.2))) H locs → W p l e room_1 s m #[Value.ref b] below meth c H locs cells slots Q (F0 m 1109 ls [])) : W p l e room_1 s m #[Value.ref b] below meth c H locs cells slots Q (F0 m 1099 ls []) := by
  refine lv_aload_n hx hb dL_law_1099 rfl (lv_at hl 1 rfl) ?_
  refine lv_aload_n hx hb dL_law_1100 rfl (lv_at hl 0 rfl) ?_
  refine lv_iload_n hx hb dL_law_1101 rfl (lv_at hl 3 rfl) ?_
  refine lv_iconst (v := 1) hx hb dL_law_1102 (by decide) ?_
  refine lv_iadd hx hb dL_law_1103 ?_
  refine va_sld hx hb hXs hbl hbA hw.2.2 (law_in hi hn hL (j := 1) (by decide) (by decide)) dL_law_1104 ?_
  refine xj_i (xrV (As := [.int (xs (i + (1 : Int32)).toNatClampNeg)]) (rest := []) ⟨hx, hb, hml, hown, hts⟩ (m_X8_image_O l dC dI _ (h 0) (h 1) (h 3) (h 4) (h 6) (h 7) (h 8) (h 10) (h 11) (h 12) (h 13) (h 5) r9.1 r9.2.1 (q 0) (k 0) (q 4) (k 4) (q 5) (k 5) r9.2.2.1 r9.2.2.2.1 r9.2.2.2.2.1 r9.2.2.2.2.2.1 (S 0) (S 4) (S 5) pl r9.2.2.2.2.2.2.1 r9.2.2.2.2.2.2.2 (xs (i + (1 : Int32)).toNatClampNeg) him y1 h1) kw1134 kw1131 kw1132 kw1133 kw110 hd_X8_image ⟨rfl, rfl⟩ rfl rfl ⟨hc, hs⟩ hX hK hw [0, 4, 5, 14, 17, 18] (by decide) rfl rfl rfl rfl rfl hl.1 rfl rfl dL_law_1105) hw hA [0, 4, 5, 14, 17, 18] (by decide) rfl rfl (fun H locs hw => ?_)
  have hw : Wd dC dI A s.heap (LW h q k (fset S 0 y1.2.1) pl im0 (some (r9.1, r9.2.1, r9.2.2.1, r9.2.2.2.1, r9.2.2.2.2.1, r9.2.2.2.2.2.1, y1.2.2.1, y1.2.2.2))) H locs := hw
  refine lv_pop hx hb dL_law_1108 rfl ?_
  exact kk H locs hw

set_option maxHeartbeats 4000000 in
set_option maxRecDepth 100000 in
theorem lx_35_new0 {p : Program} {l : Launch} {e : Env} {s : State} {m : MethodId} {below : List Frame} {meth : Method} {c : Code} {b L : Nat} {xs : Nat → Int32} {A : Nat → Prop} {dC : Nat → ClassId} {dI : Nat → Nat → Nat} {Q : State → Prop} {H : Heap} {locs : List Loc} {ls : Array Slot} {cells slots : Nat} {h : Nat → Nat} {q : Nat → Nat → Nat} {k : Nat → Nat → ClassId} {S : Nat → Ob} {pl : List CR} {im0 im1 : Option IR} {i : Int32} {n : Nat} (hx : p.tables.exec = Jvm.exec) (hb : c.code = code) (hml : c.maxLocals = 4) (hown : s.vm.findClass RL = some m.cls) (hts : ∀ w ∈ gt, w.before #[Value.ref b] s = true) (hX : wX s ∧ wT dI A s) (hXs : va_X b L xs s s.heap) (hbl : b < s.heap.size) (hbA : ¬ A b) (hA : ∀ q, s.heap.size ≤ q → A q) (hi : i.toInt = (n : Int)) (hn : n + 6 ≤ L) (hL : L ≤ 3072) (hc : cells.ble 600000 = true) (hs : slots.ble 7302250 = true) (hc9 : (cells + 10).ble 600000 = true) (hs9 : (slots + 92).ble 7302250 = true) (hK : va_K (dC, dI) vwCl (Jt (LT k pl none im1)) s) (hw : Wd dC dI A s.heap (LW h q k S pl none im1) H locs) (hl : lv_has ls 4 [(0, .ref b), (1, .ref (h 0)), (2, .ref (h 14)), (3, .int i)]) (him : gR (S 0) 7 (xs (i + (1 : Int32)).toNatClampNeg).toNatClampNeg = none) (hzn : zin (xs (i + (1 : Int32)).toNatClampNeg) 2 = true) (h1 : f_X8_image_a (S 0) (xs (i + (1 : Int32)).toNatClampNeg) = some ()) (h2 : ∀ a : Nat, ∃ y, f_X8_image_b (S 4) (S 5) pl (tR (S 0) 7 (xs (i + (1 : Int32)).toNatClampNeg).toNatClampNeg (some a)) ob2 ob0 = some y) (kk : ∀ (x : Nat × Nat × (Nat → Nat) × (Nat → ClassId) × (Nat → Nat) × (Nat → ClassId) × Int32 × Ob × Ob × Ob) (H : Heap) (locs : List Loc), (fun x => f_X8_image_b (S 4) (S 5) pl (tR (S 0) 7 (xs (i + (1 : Int32)).toNatClampNeg).toNatClampNeg (some x.1)) ob2 ob0 = some x.2.2.2.2.2.2) x → va_K (dC, dI) vwCl (Jt (LT k pl (some (x.1, x.2.1, x.2.2.1, x.2.2.2.1, x.2.2.2.2.1, x.2.2.2.2.2.1, x.2.2.2.2.2.2.2.2.1, x.2.2.2.2.2.2.2.2.2)) im1)) s → Wd dC dI A s.heap (LW h q k (fset S 0 x.2.2.2.2.2.2.2.1) pl (some (x.1, x.2.1, x.2.2.1, x.2.2.2.1, x.2.2.2.2.1, x.2.2.2.2.2.1, x.2.2.2.2.2.2.2.2.1, x.2.2.2.2.2.2.2.2.2)) im1) H locs → W p l e room_1 s m #[Value.ref b] below meth c H locs (cells + 10) (slots + 92) Q (F0 m 1109 ls [])) : W p l e room_1 s m #[Value.ref b] below meth c H locs cells slots Q (F0 m 1099 ls []) := by
  refine lv_aload_n hx hb dL_law_1099 rfl (lv_at hl 1 rfl) ?_
  refine lv_aload_n hx hb dL_law_1100 rfl (lv_at hl 0 rfl) ?_
  refine lv_iload_n hx hb dL_law_1101 rfl (lv_at hl 3 rfl) ?_
  refine lv_iconst (v := 1) hx hb dL_law_1102 (by decide) ?_
  refine lv_iadd hx hb dL_law_1103 ?_
  refine va_sld hx hb hXs hbl hbA hw.2.2 (law_in hi hn hL (j := 1) (by decide) (by decide)) dL_law_1104 ?_
  refine xjn_i (X := Nat × Nat × (Nat → Nat) × (Nat → ClassId) × (Nat → Nat) × (Nat → ClassId) × Int32 × Ob × Ob × Ob) (v := fun x => x.2.2.2.2.2.2.1) (P := (fun x => f_X8_image_b (S 4) (S 5) pl (tR (S 0) 7 (xs (i + (1 : Int32)).toNatClampNeg).toNatClampNeg (some x.1)) ob2 ob0 = some x.2.2.2.2.2.2)) (L1 := (fun x => [wX8 (h 0) (h 1) (h 3) (h 4) (h 6) (h 7) (h 8) (h 10) (h 11) (h 12) (h 13) (q 0) (k 0) x.2.2.2.2.2.2.2.1, wX2 (h 4) (h 5) (q 4) (k 4) (S 4), wX4 (h 5) (q 5) (k 5) (S 5), wPL pl, wX2 x.1 x.2.1 x.2.2.1 x.2.2.2.1 x.2.2.2.2.2.2.2.2.1, wX4 x.2.1 x.2.2.2.2.1 x.2.2.2.2.2.1 x.2.2.2.2.2.2.2.2.2])) (T1 := (fun x => [tX8 (k 0), tX2 (k 4), tX4 (k 5), tPL pl, tX2 x.2.2.2.1, tX4 x.2.2.2.2.2.1])) (xrVn (As := [.int (xs (i + (1 : Int32)).toNatClampNeg)]) (rest := []) ⟨hx, hb, hml, hown, hts⟩ (m_X8_image_new l dC dI _ (h 0) (h 1) (h 3) (h 4) (h 6) (h 7) (h 8) (h 10) (h 11) (h 12) (h 13) (h 5) (q 0) (k 0) (q 4) (k 4) (q 5) (k 5) (S 0) (S 4) (S 5) pl (xs (i + (1 : Int32)).toNatClampNeg) him hzn h1 h2) kw1134 kw1131 kw1132 kw1133 kw110 hd_X8_image ⟨rfl, rfl⟩ rfl rfl ⟨hc9, hs9⟩ hX hK hw [0, 4, 5, 14, 15, 16] (by decide) rfl rfl rfl rfl rfl hl.1 rfl rfl dL_law_1105) hK hw hA [0, 4, 5, 14, 15, 16] (by decide) rfl (fun _ => rfl) (fun x H locs hP hK hw => ?_)
  have hw : Wd dC dI A s.heap (LW h q k (fset S 0 x.2.2.2.2.2.2.2.1) pl (some (x.1, x.2.1, x.2.2.1, x.2.2.2.1, x.2.2.2.2.1, x.2.2.2.2.2.1, x.2.2.2.2.2.2.2.2.1, x.2.2.2.2.2.2.2.2.2)) im1) H locs := hw
  have hK : va_K (dC, dI) vwCl (Jt (LT k pl (some (x.1, x.2.1, x.2.2.1, x.2.2.2.1, x.2.2.2.2.1, x.2.2.2.2.2.1, x.2.2.2.2.2.2.2.2.1, x.2.2.2.2.2.2.2.2.2)) im1)) s := hK
  refine lv_pop hx hb dL_law_1108 rfl ?_
  exact kk x H locs hP hK hw

set_option maxHeartbeats 4000000 in
set_option maxRecDepth 100000 in
theorem lx_35_new1 {p : Program} {l : Launch} {e : Env} {s : State} {m : MethodId} {below : List Frame} {meth : Method} {c : Code} {b L : Nat} {xs : Nat → Int32} {A : Nat → Prop} {dC : Nat → ClassId} {dI : Nat → Nat → Nat} {Q : State → Prop} {H : Heap} {locs : List Loc} {ls : Array Slot} {cells slots : Nat} {h : Nat → Nat} {q : Nat → Nat → Nat} {k : Nat → Nat → ClassId} {S : Nat → Ob} {pl : List CR} {im0 im1 : Option IR} {i : Int32} {n : Nat} (hx : p.tables.exec = Jvm.exec) (hb : c.code = code) (hml : c.maxLocals = 4) (hown : s.vm.findClass RL = some m.cls) (hts : ∀ w ∈ gt, w.before #[Value.ref b] s = true) (hX : wX s ∧ wT dI A s) (hXs : va_X b L xs s s.heap) (hbl : b < s.heap.size) (hbA : ¬ A b) (hA : ∀ q, s.heap.size ≤ q → A q) (hi : i.toInt = (n : Int)) (hn : n + 6 ≤ L) (hL : L ≤ 3072) (hc : cells.ble 600000 = true) (hs : slots.ble 7302250 = true) (hc9 : (cells + 10).ble 600000 = true) (hs9 : (slots + 92).ble 7302250 = true) (hK : va_K (dC, dI) vwCl (Jt (LT k pl im0 none)) s) (hw : Wd dC dI A s.heap (LW h q k S pl im0 none) H locs) (hl : lv_has ls 4 [(0, .ref b), (1, .ref (h 0)), (2, .ref (h 14)), (3, .int i)]) (him : gR (S 0) 7 (xs (i + (1 : Int32)).toNatClampNeg).toNatClampNeg = none) (hzn : zin (xs (i + (1 : Int32)).toNatClampNeg) 2 = true) (h1 : f_X8_image_a (S 0) (xs (i + (1 : Int32)).toNatClampNeg) = some ()) (h2 : ∀ a : Nat, ∃ y, f_X8_image_b (S 4) (S 5) pl (tR (S 0) 7 (xs (i + (1 : Int32)).toNatClampNeg).toNatClampNeg (some a)) ob2 ob0 = some y) (kk : ∀ (x : Nat × Nat × (Nat → Nat) × (Nat → ClassId) × (Nat → Nat) × (Nat → ClassId) × Int32 × Ob × Ob × Ob) (H : Heap) (locs : List Loc), (fun x => f_X8_image_b (S 4) (S 5) pl (tR (S 0) 7 (xs (i + (1 : Int32)).toNatClampNeg).toNatClampNeg (some x.1)) ob2 ob0 = some x.2.2.2.2.2.2) x → va_K (dC, dI) vwCl (Jt (LT k pl im0 (some (x.1, x.2.1, x.2.2.1, x.2.2.2.1, x.2.2.2.2.1, x.2.2.2.2.2.1, x.2.2.2.2.2.2.2.2.1, x.2.2.2.2.2.2.2.2.2)))) s → Wd dC dI A s.heap (LW h q k (fset S 0 x.2.2.2.2.2.2.2.1) pl im0 (some (x.1, x.2.1, x.2.2.1, x.2.2.2.1, x.2.2.2.2.1, x.2.2.2.2.2.1, x.2.2.2.2.2.2.2.2.1, x.2.2.2.2.2.2.2.2.2))) H locs → W p l e room_1 s m #[Value.ref b] below meth c H locs (cells + 10) (slots + 92) Q (F0 m 1109 ls [])) : W p l e room_1 s m #[Value.ref b] below meth c H locs cells slots Q (F0 m 1099 ls []) := by
  refine lv_aload_n hx hb dL_law_1099 rfl (lv_at hl 1 rfl) ?_
  refine lv_aload_n hx hb dL_law_1100 rfl (lv_at hl 0 rfl) ?_
  refine lv_iload_n hx hb dL_law_1101 rfl (lv_at hl 3 rfl) ?_
  refine lv_iconst (v := 1) hx hb dL_law_1102 (by decide) ?_
  refine lv_iadd hx hb dL_law_1103 ?_
  refine va_sld hx hb hXs hbl hbA hw.2.2 (law_in hi hn hL (j := 1) (by decide) (by decide)) dL_law_1104 ?_
  refine xjn_i (X := Nat × Nat × (Nat → Nat) × (Nat → ClassId) × (Nat → Nat) × (Nat → ClassId) × Int32 × Ob × Ob × Ob) (v := fun x => x.2.2.2.2.2.2.1) (P := (fun x => f_X8_image_b (S 4) (S 5) pl (tR (S 0) 7 (xs (i + (1 : Int32)).toNatClampNeg).toNatClampNeg (some x.1)) ob2 ob0 = some x.2.2.2.2.2.2)) (L1 := (fun x => [wX8 (h 0) (h 1) (h 3) (h 4) (h 6) (h 7) (h 8) (h 10) (h 11) (h 12) (h 13) (q 0) (k 0) x.2.2.2.2.2.2.2.1, wX2 (h 4) (h 5) (q 4) (k 4) (S 4), wX4 (h 5) (q 5) (k 5) (S 5), wPL pl, wX2 x.1 x.2.1 x.2.2.1 x.2.2.2.1 x.2.2.2.2.2.2.2.2.1, wX4 x.2.1 x.2.2.2.2.1 x.2.2.2.2.2.1 x.2.2.2.2.2.2.2.2.2])) (T1 := (fun x => [tX8 (k 0), tX2 (k 4), tX4 (k 5), tPL pl, tX2 x.2.2.2.1, tX4 x.2.2.2.2.2.1])) (xrVn (As := [.int (xs (i + (1 : Int32)).toNatClampNeg)]) (rest := []) ⟨hx, hb, hml, hown, hts⟩ (m_X8_image_new l dC dI _ (h 0) (h 1) (h 3) (h 4) (h 6) (h 7) (h 8) (h 10) (h 11) (h 12) (h 13) (h 5) (q 0) (k 0) (q 4) (k 4) (q 5) (k 5) (S 0) (S 4) (S 5) pl (xs (i + (1 : Int32)).toNatClampNeg) him hzn h1 h2) kw1134 kw1131 kw1132 kw1133 kw110 hd_X8_image ⟨rfl, rfl⟩ rfl rfl ⟨hc9, hs9⟩ hX hK hw [0, 4, 5, 14, 17, 18] (by decide) rfl rfl rfl rfl rfl hl.1 rfl rfl dL_law_1105) hK hw hA [0, 4, 5, 14, 17, 18] (by decide) rfl (fun _ => rfl) (fun x H locs hP hK hw => ?_)
  have hw : Wd dC dI A s.heap (LW h q k (fset S 0 x.2.2.2.2.2.2.2.1) pl im0 (some (x.1, x.2.1, x.2.2.1, x.2.2.2.1, x.2.2.2.2.1, x.2.2.2.2.2.1, x.2.2.2.2.2.2.2.2.1, x.2.2.2.2.2.2.2.2.2))) H locs := hw
  have hK : va_K (dC, dI) vwCl (Jt (LT k pl im0 (some (x.1, x.2.1, x.2.2.1, x.2.2.2.1, x.2.2.2.2.1, x.2.2.2.2.2.1, x.2.2.2.2.2.2.2.2.1, x.2.2.2.2.2.2.2.2.2)))) s := hK
  refine lv_pop hx hb dL_law_1108 rfl ?_
  exact kk x H locs hP hK hw

set_option maxHeartbeats 4000000 in
set_option maxRecDepth 100000 in
theorem lm_35 {p : Program} {l : Launch} {e : Env} {s : State} {m : MethodId} {below : List Frame} {meth : Method} {c : Code} {b L : Nat} {xs : Nat → Int32} {A : Nat → Prop} {dC : Nat → ClassId} {dI : Nat → Nat → Nat} {Q : State → Prop} {H : Heap} {locs : List Loc} {ls : Array Slot} {cells slots : Nat} {h : Nat → Nat} {q : Nat → Nat → Nat} {k : Nat → Nat → ClassId} {S : Nat → Ob} {pl : List CR} {im0 im1 : Option IR} {i : Int32} {n : Nat} (hx : p.tables.exec = Jvm.exec) (hb : c.code = code) (hml : c.maxLocals = 4) (hown : s.vm.findClass RL = some m.cls) (hts : ∀ w ∈ gt, w.before #[Value.ref b] s = true) (hX : wX s ∧ wT dI A s) (hXs : va_X b L xs s s.heap) (hbl : b < s.heap.size) (hbA : ¬ A b) (hA : ∀ q, s.heap.size ≤ q → A q) (hi : i.toInt = (n : Int)) (hn : n + 6 ≤ L) (hL : L ≤ 3072) (hc : cells.ble 600000 = true) (hs : slots.ble 7302250 = true) (hK : va_K (dC, dI) vwCl (Jt (LT k pl im0 im1)) s) (hw : Wd dC dI A s.heap (LW h q k S pl im0 im1) H locs) (hl : lv_has ls 4 [(0, .ref b), (1, .ref (h 0)), (2, .ref (h 14)), (3, .int i)]) (y2 : Int32 × Ob) (h2 : f_X9_image (S 14) (xs (i + (1 : Int32)).toNatClampNeg) = some y2) (kk : ∀ (H : Heap) (locs : List Loc), Wd dC dI A s.heap (LW h q k (fset S 14 y2.2) pl im0 im1) H locs → W p l e room_1 s m #[Value.ref b] below meth c H locs cells slots Q (F0 m 1181 ls [])) : W p l e room_1 s m #[Value.ref b] below meth c H locs cells slots Q (F0 m 1109 ls []) := by
  refine lv_aload_n hx hb dL_law_1109 rfl (lv_at hl 2 rfl) ?_
  refine lv_aload_n hx hb dL_law_1110 rfl (lv_at hl 0 rfl) ?_
  refine lv_iload_n hx hb dL_law_1111 rfl (lv_at hl 3 rfl) ?_
  refine lv_iconst (v := 1) hx hb dL_law_1112 (by decide) ?_
  refine lv_iadd hx hb dL_law_1113 ?_
  refine va_sld hx hb hXs hbl hbA hw.2.2 (law_in hi hn hL (j := 1) (by decide) (by decide)) dL_law_1114 ?_
  refine xj_i (xrV (As := [.int (xs (i + (1 : Int32)).toNatClampNeg)]) (rest := []) ⟨hx, hb, hml, hown, hts⟩ (m_X9_image l dC dI _ (h 14) (q 14) (k 14) (S 14) (xs (i + (1 : Int32)).toNatClampNeg) y2 h2) kw1382 kw1379 kw1380 kw1381 kw120 hd_X9_image ⟨rfl, rfl⟩ rfl rfl ⟨hc, hs⟩ hX hK hw [19] (by decide) rfl rfl rfl rfl rfl hl.1 rfl rfl dL_law_1115) hw hA [19] (by decide) rfl rfl (fun H locs hw => ?_)
  have hw : Wd dC dI A s.heap (LW h q k (fset S 14 y2.2) pl im0 im1) H locs := hw
  refine lv_pop hx hb dL_law_1118 rfl ?_
  refine lv_goto (tgt := 1181) hx hb dL_law_1119 (by decide) ?_
  exact kk H locs hw

set_option maxHeartbeats 4000000 in
set_option maxRecDepth 100000 in
theorem lx_36_N {p : Program} {l : Launch} {e : Env} {s : State} {m : MethodId} {below : List Frame} {meth : Method} {c : Code} {b L : Nat} {xs : Nat → Int32} {A : Nat → Prop} {dC : Nat → ClassId} {dI : Nat → Nat → Nat} {Q : State → Prop} {H : Heap} {locs : List Loc} {ls : Array Slot} {cells slots : Nat} {h : Nat → Nat} {q : Nat → Nat → Nat} {k : Nat → Nat → ClassId} {S : Nat → Ob} {pl : List CR} {im0 im1 : Option IR} {i : Int32} {n : Nat} (hx : p.tables.exec = Jvm.exec) (hb : c.code = code) (hml : c.maxLocals = 4) (hown : s.vm.findClass RL = some m.cls) (hts : ∀ w ∈ gt, w.before #[Value.ref b] s = true) (hX : wX s ∧ wT dI A s) (hXs : va_X b L xs s s.heap) (hbl : b < s.heap.size) (hbA : ¬ A b) (hA : ∀ q, s.heap.size ≤ q → A q) (hi : i.toInt = (n : Int)) (hn : n + 6 ≤ L) (hL : L ≤ 3072) (hc : cells.ble 600000 = true) (hs : slots.ble 7302250 = true) (hK : va_K (dC, dI) vwCl (Jt (LT k pl im0 im1)) s) (hw : Wd dC dI A s.heap (LW h q k S pl im0 im1) H locs) (hl : lv_has ls 4 [(0, .ref b), (1, .ref (h 0)), (2, .ref (h 14)), (3, .int i)]) (him : gR (S 0) 7 (xs (i + (1 : Int32)).toNatClampNeg).toNatClampNeg = none) (y1 : Int32 × Ob) (h1 : f_X8_back_N (S 0) (xs (i + (1 : Int32)).toNatClampNeg) = some y1) (kk : ∀ (H : Heap) (locs : List Loc), Wd dC dI A s.heap (LW h q k (fset S 0 y1.2) pl im0 im1) H locs → W p l e room_1 s m #[Value.ref b] below meth c H locs cells slots Q (F0 m 1132 ls [])) : W p l e room_1 s m #[Value.ref b] below meth c H locs cells slots Q (F0 m 1122 ls []) := by
  refine lv_aload_n hx hb dL_law_1122 rfl (lv_at hl 1 rfl) ?_
  refine lv_aload_n hx hb dL_law_1123 rfl (lv_at hl 0 rfl) ?_
  refine lv_iload_n hx hb dL_law_1124 rfl (lv_at hl 3 rfl) ?_
  refine lv_iconst (v := 1) hx hb dL_law_1125 (by decide) ?_
  refine lv_iadd hx hb dL_law_1126 ?_
  refine va_sld hx hb hXs hbl hbA hw.2.2 (law_in hi hn hL (j := 1) (by decide) (by decide)) dL_law_1127 ?_
  refine xj_i (xrV (As := [.int (xs (i + (1 : Int32)).toNatClampNeg)]) (rest := []) ⟨hx, hb, hml, hown, hts⟩ (m_X8_back_N l dC dI _ (h 0) (h 1) (h 3) (h 4) (h 6) (h 7) (h 8) (h 10) (h 11) (h 12) (h 13) (q 0) (k 0) (S 0) (xs (i + (1 : Int32)).toNatClampNeg) him y1 h1) kw1138 kw1135 kw1136 kw1137 kw110 hd_X8_back ⟨rfl, rfl⟩ rfl rfl ⟨hc, hs⟩ hX hK hw [0] (by decide) rfl rfl rfl rfl rfl hl.1 rfl rfl dL_law_1128) hw hA [0] (by decide) rfl rfl (fun H locs hw => ?_)
  have hw : Wd dC dI A s.heap (LW h q k (fset S 0 y1.2) pl im0 im1) H locs := hw
  refine lv_pop hx hb dL_law_1131 rfl ?_
  exact kk H locs hw

set_option maxHeartbeats 4000000 in
set_option maxRecDepth 100000 in
theorem lx_36_O0 {p : Program} {l : Launch} {e : Env} {s : State} {m : MethodId} {below : List Frame} {meth : Method} {c : Code} {b L : Nat} {xs : Nat → Int32} {A : Nat → Prop} {dC : Nat → ClassId} {dI : Nat → Nat → Nat} {Q : State → Prop} {H : Heap} {locs : List Loc} {ls : Array Slot} {cells slots : Nat} {h : Nat → Nat} {q : Nat → Nat → Nat} {k : Nat → Nat → ClassId} {S : Nat → Ob} {pl : List CR} {im0 im1 : Option IR} {i : Int32} {n : Nat} {r9 : IR} (hx : p.tables.exec = Jvm.exec) (hb : c.code = code) (hml : c.maxLocals = 4) (hown : s.vm.findClass RL = some m.cls) (hts : ∀ w ∈ gt, w.before #[Value.ref b] s = true) (hX : wX s ∧ wT dI A s) (hXs : va_X b L xs s s.heap) (hbl : b < s.heap.size) (hbA : ¬ A b) (hA : ∀ q, s.heap.size ≤ q → A q) (hi : i.toInt = (n : Int)) (hn : n + 6 ≤ L) (hL : L ≤ 3072) (hc : cells.ble 600000 = true) (hs : slots.ble 7302250 = true) (hK : va_K (dC, dI) vwCl (Jt (LT k pl (some r9) im1)) s) (hw : Wd dC dI A s.heap (LW h q k S pl (some r9) im1) H locs) (hl : lv_has ls 4 [(0, .ref b), (1, .ref (h 0)), (2, .ref (h 14)), (3, .int i)]) (him : gR (S 0) 7 (xs (i + (1 : Int32)).toNatClampNeg).toNatClampNeg = some r9.1) (y1 : Int32 × Ob × Ob × Ob × Ob) (h1 : f_X8_back_O (S 0) (S 4) (S 5) (S 11) pl r9.2.2.2.2.2.2.1 r9.2.2.2.2.2.2.2 (xs (i + (1 : Int32)).toNatClampNeg) = some y1) (kk : ∀ (H : Heap) (locs : List Loc), Wd dC dI A s.heap (LW h q k (fset (fset (fset (fset S 0 y1.2.1) 4 y1.2.2.1) 5 y1.2.2.2.1) 11 y1.2.2.2.2) pl (some r9) im1) H locs → W p l e room_1 s m #[Value.ref b] below meth c H locs cells slots Q (F0 m 1132 ls [])) : W p l e room_1 s m #[Value.ref b] below meth c H locs cells slots Q (F0 m 1122 ls []) := by
  refine lv_aload_n hx hb dL_law_1122 rfl (lv_at hl 1 rfl) ?_
  refine lv_aload_n hx hb dL_law_1123 rfl (lv_at hl 0 rfl) ?_
  refine lv_iload_n hx hb dL_law_1124 rfl (lv_at hl 3 rfl) ?_
  refine lv_iconst (v := 1) hx hb dL_law_1125 (by decide) ?_
  refine lv_iadd hx hb dL_law_1126 ?_
  refine va_sld hx hb hXs hbl hbA hw.2.2 (law_in hi hn hL (j := 1) (by decide) (by decide)) dL_law_1127 ?_
  refine xj_i (xrV (As := [.int (xs (i + (1 : Int32)).toNatClampNeg)]) (rest := []) ⟨hx, hb, hml, hown, hts⟩ (m_X8_back_O l dC dI _ (h 0) (h 1) (h 3) (h 4) (h 6) (h 7) (h 8) (h 10) (h 11) (h 12) (h 13) (h 5) r9.1 r9.2.1 (q 0) (k 0) (q 4) (k 4) (q 5) (k 5) (q 11) (k 11) r9.2.2.1 r9.2.2.2.1 r9.2.2.2.2.1 r9.2.2.2.2.2.1 (S 0) (S 4) (S 5) (S 11) pl r9.2.2.2.2.2.2.1 r9.2.2.2.2.2.2.2 (xs (i + (1 : Int32)).toNatClampNeg) him y1 h1) kw1138 kw1135 kw1136 kw1137 kw110 hd_X8_back ⟨rfl, rfl⟩ rfl rfl ⟨hc, hs⟩ hX hK hw [0, 4, 5, 11, 14, 15, 16] (by decide) rfl rfl rfl rfl rfl hl.1 rfl rfl dL_law_1128) hw hA [0, 4, 5, 11, 14, 15, 16] (by decide) rfl rfl (fun H locs hw => ?_)
  have hw : Wd dC dI A s.heap (LW h q k (fset (fset (fset (fset S 0 y1.2.1) 4 y1.2.2.1) 5 y1.2.2.2.1) 11 y1.2.2.2.2) pl (some r9) im1) H locs := hw
  refine lv_pop hx hb dL_law_1131 rfl ?_
  exact kk H locs hw

set_option maxHeartbeats 4000000 in
set_option maxRecDepth 100000 in
theorem lx_36_O1 {p : Program} {l : Launch} {e : Env} {s : State} {m : MethodId} {below : List Frame} {meth : Method} {c : Code} {b L : Nat} {xs : Nat → Int32} {A : Nat → Prop} {dC : Nat → ClassId} {dI : Nat → Nat → Nat} {Q : State → Prop} {H : Heap} {locs : List Loc} {ls : Array Slot} {cells slots : Nat} {h : Nat → Nat} {q : Nat → Nat → Nat} {k : Nat → Nat → ClassId} {S : Nat → Ob} {pl : List CR} {im0 im1 : Option IR} {i : Int32} {n : Nat} {r9 : IR} (hx : p.tables.exec = Jvm.exec) (hb : c.code = code) (hml : c.maxLocals = 4) (hown : s.vm.findClass RL = some m.cls) (hts : ∀ w ∈ gt, w.before #[Value.ref b] s = true) (hX : wX s ∧ wT dI A s) (hXs : va_X b L xs s s.heap) (hbl : b < s.heap.size) (hbA : ¬ A b) (hA : ∀ q, s.heap.size ≤ q → A q) (hi : i.toInt = (n : Int)) (hn : n + 6 ≤ L) (hL : L ≤ 3072) (hc : cells.ble 600000 = true) (hs : slots.ble 7302250 = true) (hK : va_K (dC, dI) vwCl (Jt (LT k pl im0 (some r9))) s) (hw : Wd dC dI A s.heap (LW h q k S pl im0 (some r9)) H locs) (hl : lv_has ls 4 [(0, .ref b), (1, .ref (h 0)), (2, .ref (h 14)), (3, .int i)]) (him : gR (S 0) 7 (xs (i + (1 : Int32)).toNatClampNeg).toNatClampNeg = some r9.1) (y1 : Int32 × Ob × Ob × Ob × Ob) (h1 : f_X8_back_O (S 0) (S 4) (S 5) (S 11) pl r9.2.2.2.2.2.2.1 r9.2.2.2.2.2.2.2 (xs (i + (1 : Int32)).toNatClampNeg) = some y1) (kk : ∀ (H : Heap) (locs : List Loc), Wd dC dI A s.heap (LW h q k (fset (fset (fset (fset S 0 y1.2.1) 4 y1.2.2.1) 5 y1.2.2.2.1) 11 y1.2.2.2.2) pl im0 (some r9)) H locs → W p l e room_1 s m #[Value.ref b] below meth c H locs cells slots Q (F0 m 1132 ls [])) : W p l e room_1 s m #[Value.ref b] below meth c H locs cells slots Q (F0 m 1122 ls []) := by
  refine lv_aload_n hx hb dL_law_1122 rfl (lv_at hl 1 rfl) ?_
  refine lv_aload_n hx hb dL_law_1123 rfl (lv_at hl 0 rfl) ?_
  refine lv_iload_n hx hb dL_law_1124 rfl (lv_at hl 3 rfl) ?_
  refine lv_iconst (v := 1) hx hb dL_law_1125 (by decide) ?_
  refine lv_iadd hx hb dL_law_1126 ?_
  refine va_sld hx hb hXs hbl hbA hw.2.2 (law_in hi hn hL (j := 1) (by decide) (by decide)) dL_law_1127 ?_
  refine xj_i (xrV (As := [.int (xs (i + (1 : Int32)).toNatClampNeg)]) (rest := []) ⟨hx, hb, hml, hown, hts⟩ (m_X8_back_O l dC dI _ (h 0) (h 1) (h 3) (h 4) (h 6) (h 7) (h 8) (h 10) (h 11) (h 12) (h 13) (h 5) r9.1 r9.2.1 (q 0) (k 0) (q 4) (k 4) (q 5) (k 5) (q 11) (k 11) r9.2.2.1 r9.2.2.2.1 r9.2.2.2.2.1 r9.2.2.2.2.2.1 (S 0) (S 4) (S 5) (S 11) pl r9.2.2.2.2.2.2.1 r9.2.2.2.2.2.2.2 (xs (i + (1 : Int32)).toNatClampNeg) him y1 h1) kw1138 kw1135 kw1136 kw1137 kw110 hd_X8_back ⟨rfl, rfl⟩ rfl rfl ⟨hc, hs⟩ hX hK hw [0, 4, 5, 11, 14, 17, 18] (by decide) rfl rfl rfl rfl rfl hl.1 rfl rfl dL_law_1128) hw hA [0, 4, 5, 11, 14, 17, 18] (by decide) rfl rfl (fun H locs hw => ?_)
  have hw : Wd dC dI A s.heap (LW h q k (fset (fset (fset (fset S 0 y1.2.1) 4 y1.2.2.1) 5 y1.2.2.2.1) 11 y1.2.2.2.2) pl im0 (some r9)) H locs := hw
  refine lv_pop hx hb dL_law_1131 rfl ?_
  exact kk H locs hw

