set_option maxHeartbeats 4000000 in
set_option maxRecDepth 100000 in
theorem lm_36 {p : Program} {l : Launch} {e : Env} {s : State} {m : MethodId} {below : List Frame} {meth : Method} {c : Code} {b L : Nat} {xs : Nat → Int32} {A : Nat → Prop} {dC : Nat → ClassId} {dI : Nat → Nat → Nat} {Q : State → Prop} {H : Heap} {locs : List Loc} {ls : Array Slot} {cells slots : Nat} {h : Nat → Nat} {q : Nat → Nat → Nat} {k : Nat → Nat → ClassId} {S : Nat → Ob} {pl : List CR} {im0 im1 : Option IR} {i : Int32} {n : Nat} (hx : p.tables.exec = Jvm.exec) (hb : c.code = code) (hml : c.maxLocals = 4) (hown : s.vm.findClass RL = some m.cls) (hts : ∀ w ∈ gt, w.before #[Value.ref b] s = true) (hX : wX s ∧ wT dI A s) (hXs : va_X b L xs s s.heap) (hbl : b < s.heap.size) (hbA : ¬ A b) (hA : ∀ q, s.heap.size ≤ q → A q) (hi : i.toInt = (n : Int)) (hn : n + 6 ≤ L) (hL : L ≤ 3072) (hc : cells.ble 600000 = true) (hs : slots.ble 7302250 = true) (hK : va_K (dC, dI) vwCl (Jt (LT k pl im0 im1)) s) (hw : Wd dC dI A s.heap (LW h q k S pl im0 im1) H locs) (hl : lv_has ls 4 [(0, .ref b), (1, .ref (h 0)), (2, .ref (h 14)), (3, .int i)]) (y2 : Int32 × Ob) (h2 : f_X9_back (S 14) (xs (i + (1 : Int32)).toNatClampNeg) = some y2) (kk : ∀ (H : Heap) (locs : List Loc), Wd dC dI A s.heap (LW h q k (fset S 14 y2.2) pl im0 im1) H locs → W p l e room_1 s m #[Value.ref b] below meth c H locs cells slots Q (F0 m 1181 ls [])) : W p l e room_1 s m #[Value.ref b] below meth c H locs cells slots Q (F0 m 1132 ls []) := by
  refine lv_aload_n hx hb dL_law_1132 rfl (lv_at hl 2 rfl) ?_
  refine lv_aload_n hx hb dL_law_1133 rfl (lv_at hl 0 rfl) ?_
  refine lv_iload_n hx hb dL_law_1134 rfl (lv_at hl 3 rfl) ?_
  refine lv_iconst (v := 1) hx hb dL_law_1135 (by decide) ?_
  refine lv_iadd hx hb dL_law_1136 ?_
  refine va_sld hx hb hXs hbl hbA hw.2.2 (law_in hi hn hL (j := 1) (by decide) (by decide)) dL_law_1137 ?_
  refine xj_i (xrV (As := [.int (xs (i + (1 : Int32)).toNatClampNeg)]) (rest := []) ⟨hx, hb, hml, hown, hts⟩ (m_X9_back l dC dI _ (h 14) (q 14) (k 14) (S 14) (xs (i + (1 : Int32)).toNatClampNeg) y2 h2) kw1389 kw1386 kw1387 kw1388 kw120 hd_X9_back ⟨rfl, rfl⟩ rfl rfl ⟨hc, hs⟩ hX hK hw [19] (by decide) rfl rfl rfl rfl rfl hl.1 rfl rfl dL_law_1138) hw hA [19] (by decide) rfl rfl (fun H locs hw => ?_)
  have hw : Wd dC dI A s.heap (LW h q k (fset S 14 y2.2) pl im0 im1) H locs := hw
  refine lv_pop hx hb dL_law_1141 rfl ?_
  refine lv_goto (tgt := 1181) hx hb dL_law_1142 (by decide) ?_
  exact kk H locs hw

set_option maxHeartbeats 4000000 in
set_option maxRecDepth 100000 in
theorem lx_37 {p : Program} {l : Launch} {e : Env} {s : State} {m : MethodId} {below : List Frame} {meth : Method} {c : Code} {b L : Nat} {xs : Nat → Int32} {A : Nat → Prop} {dC : Nat → ClassId} {dI : Nat → Nat → Nat} {Q : State → Prop} {H : Heap} {locs : List Loc} {ls : Array Slot} {cells slots : Nat} {h : Nat → Nat} {q : Nat → Nat → Nat} {k : Nat → Nat → ClassId} {S : Nat → Ob} {pl : List CR} {im0 im1 : Option IR} {i : Int32} {n : Nat} (hx : p.tables.exec = Jvm.exec) (hb : c.code = code) (hml : c.maxLocals = 4) (hown : s.vm.findClass RL = some m.cls) (hts : ∀ w ∈ gt, w.before #[Value.ref b] s = true) (hX : wX s ∧ wT dI A s) (hXs : va_X b L xs s s.heap) (hbl : b < s.heap.size) (hbA : ¬ A b) (hA : ∀ q, s.heap.size ≤ q → A q) (hi : i.toInt = (n : Int)) (hn : n + 6 ≤ L) (hL : L ≤ 3072) (hc : cells.ble 600000 = true) (hs : slots.ble 7302250 = true) (hK : va_K (dC, dI) vwCl (Jt (LT k pl im0 im1)) s) (hw : Wd dC dI A s.heap (LW h q k S pl im0 im1) H locs) (hl : lv_has ls 4 [(0, .ref b), (1, .ref (h 0)), (2, .ref (h 14)), (3, .int i)]) (y1 : Int32) (h1 : f_X8_count (S 0) (S 1) (S 4) (S 5) (S 11) (xs (i + (1 : Int32)).toNatClampNeg) = some y1) (kk : ∀ (H : Heap) (locs : List Loc), Wd dC dI A s.heap (LW h q k S pl im0 im1) H locs → W p l e room_1 s m #[Value.ref b] below meth c H locs cells slots Q (F0 m 1155 ls [])) : W p l e room_1 s m #[Value.ref b] below meth c H locs cells slots Q (F0 m 1145 ls []) := by
  refine lv_aload_n hx hb dL_law_1145 rfl (lv_at hl 1 rfl) ?_
  refine lv_aload_n hx hb dL_law_1146 rfl (lv_at hl 0 rfl) ?_
  refine lv_iload_n hx hb dL_law_1147 rfl (lv_at hl 3 rfl) ?_
  refine lv_iconst (v := 1) hx hb dL_law_1148 (by decide) ?_
  refine lv_iadd hx hb dL_law_1149 ?_
  refine va_sld hx hb hXs hbl hbA hw.2.2 (law_in hi hn hL (j := 1) (by decide) (by decide)) dL_law_1150 ?_
  refine xj_i (xrV (As := [.int (xs (i + (1 : Int32)).toNatClampNeg)]) (rest := []) ⟨hx, hb, hml, hown, hts⟩ (m_X8_count l dC dI _ (h 0) (h 1) (h 3) (h 4) (h 6) (h 7) (h 8) (h 10) (h 11) (h 12) (h 13) (h 2) (h 5) (q 0) (k 0) (q 1) (k 1) (q 4) (k 4) (q 5) (k 5) (q 11) (k 11) (S 0) (S 1) (S 4) (S 5) (S 11) (xs (i + (1 : Int32)).toNatClampNeg) y1 h1) kw1142 kw1139 kw1140 kw1141 kw110 hd_X8_count ⟨rfl, rfl⟩ rfl rfl ⟨hc, hs⟩ hX hK hw [0, 1, 4, 5, 11] (by decide) rfl rfl rfl rfl rfl hl.1 rfl rfl dL_law_1151) hw hA [0, 1, 4, 5, 11] (by decide) rfl rfl (fun H locs hw => ?_)
  have hw : Wd dC dI A s.heap (LW h q k S pl im0 im1) H locs := hw
  refine lv_pop hx hb dL_law_1154 rfl ?_
  exact kk H locs hw

set_option maxHeartbeats 4000000 in
set_option maxRecDepth 100000 in
theorem lm_37 {p : Program} {l : Launch} {e : Env} {s : State} {m : MethodId} {below : List Frame} {meth : Method} {c : Code} {b L : Nat} {xs : Nat → Int32} {A : Nat → Prop} {dC : Nat → ClassId} {dI : Nat → Nat → Nat} {Q : State → Prop} {H : Heap} {locs : List Loc} {ls : Array Slot} {cells slots : Nat} {h : Nat → Nat} {q : Nat → Nat → Nat} {k : Nat → Nat → ClassId} {S : Nat → Ob} {pl : List CR} {im0 im1 : Option IR} {i : Int32} {n : Nat} (hx : p.tables.exec = Jvm.exec) (hb : c.code = code) (hml : c.maxLocals = 4) (hown : s.vm.findClass RL = some m.cls) (hts : ∀ w ∈ gt, w.before #[Value.ref b] s = true) (hX : wX s ∧ wT dI A s) (hXs : va_X b L xs s s.heap) (hbl : b < s.heap.size) (hbA : ¬ A b) (hA : ∀ q, s.heap.size ≤ q → A q) (hi : i.toInt = (n : Int)) (hn : n + 6 ≤ L) (hL : L ≤ 3072) (hc : cells.ble 600000 = true) (hs : slots.ble 7302250 = true) (hK : va_K (dC, dI) vwCl (Jt (LT k pl im0 im1)) s) (hw : Wd dC dI A s.heap (LW h q k S pl im0 im1) H locs) (hl : lv_has ls 4 [(0, .ref b), (1, .ref (h 0)), (2, .ref (h 14)), (3, .int i)]) (y2 : Int32 × Ob) (h2 : f_X9_count (S 14) (xs (i + (1 : Int32)).toNatClampNeg) = some y2) (kk : ∀ (H : Heap) (locs : List Loc), Wd dC dI A s.heap (LW h q k (fset S 14 y2.2) pl im0 im1) H locs → W p l e room_1 s m #[Value.ref b] below meth c H locs cells slots Q (F0 m 1181 ls [])) : W p l e room_1 s m #[Value.ref b] below meth c H locs cells slots Q (F0 m 1155 ls []) := by
  refine lv_aload_n hx hb dL_law_1155 rfl (lv_at hl 2 rfl) ?_
  refine lv_aload_n hx hb dL_law_1156 rfl (lv_at hl 0 rfl) ?_
  refine lv_iload_n hx hb dL_law_1157 rfl (lv_at hl 3 rfl) ?_
  refine lv_iconst (v := 1) hx hb dL_law_1158 (by decide) ?_
  refine lv_iadd hx hb dL_law_1159 ?_
  refine va_sld hx hb hXs hbl hbA hw.2.2 (law_in hi hn hL (j := 1) (by decide) (by decide)) dL_law_1160 ?_
  refine xj_i (xrV (As := [.int (xs (i + (1 : Int32)).toNatClampNeg)]) (rest := []) ⟨hx, hb, hml, hown, hts⟩ (m_X9_count l dC dI _ (h 14) (q 14) (k 14) (S 14) (xs (i + (1 : Int32)).toNatClampNeg) y2 h2) kw1856 kw1853 kw1854 kw1855 kw120 hd_X9_count ⟨rfl, rfl⟩ rfl rfl ⟨hc, hs⟩ hX hK hw [19] (by decide) rfl rfl rfl rfl rfl hl.1 rfl rfl dL_law_1161) hw hA [19] (by decide) rfl rfl (fun H locs hw => ?_)
  have hw : Wd dC dI A s.heap (LW h q k (fset S 14 y2.2) pl im0 im1) H locs := hw
  refine lv_pop hx hb dL_law_1164 rfl ?_
  refine lv_goto (tgt := 1181) hx hb dL_law_1165 (by decide) ?_
  exact kk H locs hw

set_option maxHeartbeats 4000000 in
set_option maxRecDepth 100000 in
theorem lx_38 {p : Program} {l : Launch} {e : Env} {s : State} {m : MethodId} {below : List Frame} {meth : Method} {c : Code} {b L : Nat} {xs : Nat → Int32} {A : Nat → Prop} {dC : Nat → ClassId} {dI : Nat → Nat → Nat} {Q : State → Prop} {H : Heap} {locs : List Loc} {ls : Array Slot} {cells slots : Nat} {h : Nat → Nat} {q : Nat → Nat → Nat} {k : Nat → Nat → ClassId} {S : Nat → Ob} {pl : List CR} {im0 im1 : Option IR} {i : Int32} {n : Nat} (hx : p.tables.exec = Jvm.exec) (hb : c.code = code) (hml : c.maxLocals = 4) (hown : s.vm.findClass RL = some m.cls) (hts : ∀ w ∈ gt, w.before #[Value.ref b] s = true) (hX : wX s ∧ wT dI A s) (hXs : va_X b L xs s s.heap) (hbl : b < s.heap.size) (hbA : ¬ A b) (hA : ∀ q, s.heap.size ≤ q → A q) (hi : i.toInt = (n : Int)) (hn : n + 6 ≤ L) (hL : L ≤ 3072) (hc : cells.ble 600000 = true) (hs : slots.ble 7302250 = true) (hK : va_K (dC, dI) vwCl (Jt (LT k pl im0 im1)) s) (hw : Wd dC dI A s.heap (LW h q k S pl im0 im1) H locs) (hl : lv_has ls 4 [(0, .ref b), (1, .ref (h 0)), (2, .ref (h 14)), (3, .int i)]) (y1 : Int32) (h1 : f_X8_status (S 0) = some y1) (kk : ∀ (H : Heap) (locs : List Loc), Wd dC dI A s.heap (LW h q k S pl im0 im1) H locs → W p l e room_1 s m #[Value.ref b] below meth c H locs cells slots Q (F0 m 1172 ls [.int y1])) : W p l e room_1 s m #[Value.ref b] below meth c H locs cells slots Q (F0 m 1168 ls []) := by
  refine lv_aload_n hx hb dL_law_1168 rfl (lv_at hl 1 rfl) ?_
  refine xj_i (xrV (As := []) (rest := []) ⟨hx, hb, hml, hown, hts⟩ (m_X8_status l dC dI _ (h 0) (h 1) (h 3) (h 4) (h 6) (h 7) (h 8) (h 10) (h 11) (h 12) (h 13) (q 0) (k 0) (S 0) y1 h1) kw1150 kw1147 kw1148 kw1149 kw110 hd_X8_status ⟨rfl, rfl⟩ rfl rfl ⟨hc, hs⟩ hX hK hw [0] (by decide) rfl rfl rfl rfl rfl hl.1 rfl rfl dL_law_1169) hw hA [0] (by decide) rfl rfl (fun H locs hw => ?_)
  have hw : Wd dC dI A s.heap (LW h q k S pl im0 im1) H locs := hw
  exact kk H locs hw

set_option maxHeartbeats 4000000 in
set_option maxRecDepth 100000 in
theorem lm_38 {p : Program} {l : Launch} {e : Env} {s : State} {m : MethodId} {below : List Frame} {meth : Method} {c : Code} {b L : Nat} {xs : Nat → Int32} {A : Nat → Prop} {dC : Nat → ClassId} {dI : Nat → Nat → Nat} {Q : State → Prop} {H : Heap} {locs : List Loc} {ls : Array Slot} {cells slots : Nat} {h : Nat → Nat} {q : Nat → Nat → Nat} {k : Nat → Nat → ClassId} {S : Nat → Ob} {pl : List CR} {im0 im1 : Option IR} {i : Int32} {n : Nat} {v1 : Int32} (hx : p.tables.exec = Jvm.exec) (hb : c.code = code) (hml : c.maxLocals = 4) (hown : s.vm.findClass RL = some m.cls) (hts : ∀ w ∈ gt, w.before #[Value.ref b] s = true) (hX : wX s ∧ wT dI A s) (hXs : va_X b L xs s s.heap) (hbl : b < s.heap.size) (hbA : ¬ A b) (hA : ∀ q, s.heap.size ≤ q → A q) (hi : i.toInt = (n : Int)) (hn : n + 6 ≤ L) (hL : L ≤ 3072) (hc : cells.ble 600000 = true) (hs : slots.ble 7302250 = true) (hK : va_K (dC, dI) vwCl (Jt (LT k pl im0 im1)) s) (hw : Wd dC dI A s.heap (LW h q k S pl im0 im1) H locs) (hl : lv_has ls 4 [(0, .ref b), (1, .ref (h 0)), (2, .ref (h 14)), (3, .int i)]) (y2 : Int32 × Ob) (h2 : f_X9_status (S 14) = some y2) (hcmp : v1 = y2.1) (kk : ∀ (H : Heap) (locs : List Loc), Wd dC dI A s.heap (LW h q k (fset S 14 y2.2) pl im0 im1) H locs → W p l e room_1 s m #[Value.ref b] below meth c H locs cells slots Q (F0 m 1181 ls [])) : W p l e room_1 s m #[Value.ref b] below meth c H locs cells slots Q (F0 m 1172 ls [.int v1]) := by
  refine lv_aload_n hx hb dL_law_1172 rfl (lv_at hl 2 rfl) ?_
  refine xj_i (xrV (As := []) (rest := [.int v1]) ⟨hx, hb, hml, hown, hts⟩ (m_X9_status l dC dI _ (h 14) (q 14) (k 14) (S 14) y2 h2) kw1862 kw1859 kw1860 kw1861 kw120 hd_X9_status ⟨rfl, rfl⟩ rfl rfl ⟨hc, hs⟩ hX hK hw [19] (by decide) rfl rfl rfl rfl rfl hl.1 rfl rfl dL_law_1173) hw hA [19] (by decide) rfl rfl (fun H locs hw => ?_)
  have hw : Wd dC dI A s.heap (LW h q k (fset S 14 y2.2) pl im0 im1) H locs := hw
  refine lv_icmp_eq (tgt := 1181) hx hb dL_law_1176 (by decide) (fun _ => ?_) (fun c9 => absurd hcmp c9)
  exact kk H locs hw

