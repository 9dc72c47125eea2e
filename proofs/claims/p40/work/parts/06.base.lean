/-- the texts of the class: how long, their bytes -/
def lnS : List Nat := [20, 20, 5, 2, 2, 3, 3, 53, 41]
def btS : List (List Int32) := [[114, 117, 110, 115, 32, 116, 117, 114, 110, 115, 32, 119, 105, 110, 115, 32, 98, 97, 114, 115], [114, 97, 99, 101, 32, 101, 110, 116, 101, 114, 32, 116, 97, 107, 101, 32, 112, 97, 115, 115], [116, 105, 109, 101, 115], [105, 102], [111, 114], [97, 110, 100], [110, 111, 116], [112, 101, 114, 115, 111, 110, 32, 114, 97, 99, 101, 32, 115, 116, 114, 101, 110, 103, 116, 104, 32, 116, 114, 97, 100, 101, 32, 112, 114, 105, 122, 101, 115, 32, 112, 108, 97, 99, 101, 32, 103, 97, 112, 32, 121, 101, 97, 114, 32, 109, 111, 111, 100], [121, 101, 97, 114, 32, 100, 111, 110, 101, 32, 108, 97, 116, 101, 115, 116, 32, 103, 97, 112, 32, 101, 110, 116, 101, 114, 101, 100, 32, 112, 114, 105, 122, 101, 115, 32, 116, 114, 97, 100, 101]]
/-- what is known beside the words: links between nest mates, arrays of references -/
def wX (U : State) : Prop := va_Nw (.methodLinkNest RX8 9 yX6_init "NoSecond") U ∧ va_Nw (.methodLinkNest RX8 18 yX3_init "NoSecond") U ∧ va_Nw (.methodLinkNest RX8 25 yX2_init "NoSecond") U ∧ va_Nw (.methodLinkNest RX2 11 yX4_init "NoSecond") U ∧ va_Nw (.methodLinkNest RX8 60 yX5_init "NoSecond") U ∧ va_Nw (.methodLinkNest RX8 70 yX4_init "NoSecond") U ∧ va_Nw (.methodLinkNest RX1 36 yX8_isRace "NoSecond") U ∧ va_AO RX0 U ∧ va_AO RX2 U ∧ True
theorem wX.warm {s U : State} (hW : s.WarmedH U.vm) (h : wX s) : wX U := by
  obtain ⟨h1, h2, h3, h4, h5, h6, h7, h8, h9, -⟩ := h
  exact ⟨va_Nw.warmM hW h1, va_Nw.warmM hW h2, va_Nw.warmM hW h3, va_Nw.warmM hW h4, va_Nw.warmM hW h5, va_Nw.warmM hW h6, va_Nw.warmM hW h7, va_AO.moved hW.alike h8, va_AO.moved hW.alike h9, trivial⟩
theorem wX.same {s U : State} (hv : s.vm = U.vm) (h : wX s) : wX U := by
  obtain ⟨h1, h2, h3, h4, h5, h6, h7, h8, h9, -⟩ := h
  exact ⟨va_Nw.same rfl hv h1, va_Nw.same rfl hv h2, va_Nw.same rfl hv h3, va_Nw.same rfl hv h4, va_Nw.same rfl hv h5, va_Nw.same rfl hv h6, va_Nw.same rfl hv h7, va_AO.moved (by rw [hv]; exact Vm.Alike.refl _) h8, va_AO.moved (by rw [hv]; exact Vm.Alike.refl _) h9, trivial⟩
/-- the texts' names -/
def wR (dI : Nat → Nat → Nat) (U : State) : Prop := vk_R RX6 68 "runs turns wins bars" (dI 101 0) U ∧ vk_R RX6 70 "race enter take pass" (dI 101 1) U ∧ vk_R RX6 94 "times" (dI 101 2) U ∧ vk_R RX6 99 "if" (dI 101 3) U ∧ vk_R RX6 113 "or" (dI 101 4) U ∧ vk_R RX6 126 "and" (dI 101 5) U ∧ vk_R RX6 128 "not" (dI 101 6) U ∧ vk_R RX6 139 "person race strength trade prizes place gap year mood" (dI 101 7) U ∧ vk_R RX6 141 "year done latest gap entered prizes trade" (dI 101 8) U
theorem wR.warm {dI : Nat → Nat → Nat} {s U : State} (hW : s.WarmedH U.vm) (h : wR dI s) : wR dI U := by
  obtain ⟨h0, h1, h2, h3, h4, h5, h6, h7, h8⟩ := h
  exact ⟨vk_R.warm hW h0, vk_R.warm hW h1, vk_R.warm hW h2, vk_R.warm hW h3, vk_R.warm hW h4, vk_R.warm hW h5, vk_R.warm hW h6, vk_R.warm hW h7, vk_R.warm hW h8⟩
theorem wR.same {dI : Nat → Nat → Nat} {s U : State} (hv : U.vm = s.vm) (h : wR dI s) : wR dI U := by
  obtain ⟨h0, h1, h2, h3, h4, h5, h6, h7, h8⟩ := h
  exact ⟨vk_R.same hv h0, vk_R.same hv h1, vk_R.same hv h2, vk_R.same hv h3, vk_R.same hv h4, vk_R.same hv h5, vk_R.same hv h6, vk_R.same hv h7, vk_R.same hv h8⟩
/-- the texts lie below dI 100 0, ahead of all that is written; text n is at dI 101 n, its bytes at dI 102 n -/
def wT (dI : Nat → Nat → Nat) (A : Nat → Prop) (U : State) : Prop :=
  dI 100 0 ≤ U.heap.size ∧ (∀ q, A q → dI 100 0 ≤ q) ∧ vk_S 9 lnS btS (dI 101) (dI 102) (fun q => dI 100 0 ≤ q) U U.heap ∧ va_Z "java/lang/String" "COMPACT_STRINGS" "Z" (.int 1) (fun q => dI 100 0 ≤ q) U U.heap ∧ va_Zq "jdk/internal/util/Preconditions" "SIOOBE_FORMATTER" "Ljava/util/function/BiFunction;" (fun q => dI 100 0 ≤ q) U U.heap ∧ wR dI U
theorem va_Zq.kept9 {C n d : String} {A : Nat → Prop} {U : State} {H H1 : Heap} (h : va_Zq C n d A U H) (hq : ∀ a : Nat, a < H.size → ¬ A a → H1[a]? = H[a]?) : va_Zq C n d A U H1 := by
  rcases h with h | ⟨t, h⟩
  · exact Or.inl (h.kept hq)
  · exact Or.inr ⟨t, h.kept hq⟩
theorem va_Zq.moved9 {C n d : String} {A : Nat → Prop} {u U : State} {H : Heap} (hvm : u.vm.Alike U.vm) (h : va_Zq C n d A u H) : va_Zq C n d A U H := by
  rcases h with h | ⟨t, h⟩
  · exact Or.inl (h.moved hvm)
  · exact Or.inr ⟨t, h.moved hvm⟩
theorem wT.same {dI : Nat → Nat → Nat} {A : Nat → Prop} {s U : State} (hv : U.vm = s.vm) (hh : U.heap = s.heap) (h : wT dI A s) : wT dI A U := by
  obtain ⟨h1, h2, h3, h4, h5, h6⟩ := h
  have ha : s.vm.Alike U.vm := by rw [hv]; exact Vm.Alike.refl _
  refine ⟨by rw [hh]; exact h1, h2, ?_, ?_, ?_, wR.same hv h6⟩
  · rw [hh]; exact vk_S.moved ha h3
  · rw [hh]; exact va_Z.moved ha h4
  · rw [hh]; exact va_Zq.moved9 ha h5
/-- a callee's start -/
theorem wY_call {dI : Nat → Nat → Nat} {A : Nat → Prop} {s U : State} {H : Heap} {locs : List Loc} {wc : va_W} (hX : wX s ∧ wT dI A s) (hS : va_S A s.heap H locs) (hD : va_D A wc) (hU : U.heap = H) (hW : s.WarmedH U.vm) : wX U ∧ wT dI (va_A wc H.size) U := by
  obtain ⟨hX, h1, h2, h3, h4, h5, h6⟩ := hX
  have kp : ∀ a : Nat, a < s.heap.size → ¬ dI 100 0 ≤ a → H[a]? = s.heap[a]? := fun a ha hn => hS.2.1 a ha (fun h => hn (h2 a h))
  refine ⟨hX.warm hW, by rw [hU]; exact Nat.le_trans h1 hS.1, fun q hq => ?_, ?_, ?_, ?_, wR.warm hW h6⟩
  · rcases hq with ⟨k, e, hq⟩ | hq
    · exact h2 q (hD.2 k _ hq)
    · exact Nat.le_trans (Nat.le_trans h1 hS.1) hq
  · rw [hU]; exact vk_S.moved hW.alike (h3.kept kp)
  · rw [hU]; exact va_Z.moved hW.alike (h4.kept kp)
  · rw [hU]; exact va_Zq.moved9 hW.alike (h5.kept9 kp)
/-- a contract's start -/
def wA (dC : Nat → ClassId) (dI : Nat → Nat → Nat) (sz : Nat) (ws : va_W) (tys : va_TL) (U : State) : Prop :=
  U.heap.size = sz ∧ va_P (dC, dI) vwCl ws U.heap ∧ va_K (dC, dI) vwCl tys U ∧ va_D (fun _ => True) ws ∧ wX U ∧ wT dI (va_A ws sz) U
/-- a contract's end: its cells -/
def wB (dC : Nat → ClassId) (dI : Nat → Nat → Nat) (A : Nat → Prop) (ws : va_W) (tys : va_TL) (t : State) : Prop :=
  va_P (dC, dI) vwCl ws t.heap ∧ va_K (dC, dI) vwCl tys t ∧ va_D A ws
theorem wA_blind {dC : Nat → ClassId} {dI : Nat → Nat → Nat} {sz : Nat} {ws : va_W} {tys : va_TL} {av : List Value} : FrameBlind (va_Pc av (wA dC dI sz ws tys)) := fun a U g mk q => by
  obtain ⟨q0, q1, qP, qK, qD, qX, qT⟩ := q
  exact ⟨q0, q1, qP, va_K.moved (u := U) (U := U.calling g mk a) (Vm.Alike.refl U.vm) qK, qD, wX.same (s := U) (U := U.calling g mk a) rfl qX, wT.same (s := U) (U := U.calling g mk a) rfl rfl qT⟩
abbrev QI (dC : Nat → ClassId) (dI : Nat → Nat → Nat) {X : Type} (post : Int32 → X → Prop) (w1 : X → va_W) (t1 : X → va_TL) (A : Nat → Prop) : Array Value → State → Outcome → State → Prop := va_Qi post (fun x t => wB dC dI A (w1 x) (t1 x) t) A
abbrev QL (dC : Nat → ClassId) (dI : Nat → Nat → Nat) {X : Type} (post : Int64 → X → Prop) (w1 : X → va_W) (t1 : X → va_TL) (A : Nat → Prop) : Array Value → State → Outcome → State → Prop := va_Ql post (fun x t => wB dC dI A (w1 x) (t1 x) t) A
abbrev QV (dC : Nat → ClassId) (dI : Nat → Nat → Nat) {X : Type} (post : X → Prop) (w1 : X → va_W) (t1 : X → va_TL) (A : Nat → Prop) : Array Value → State → Outcome → State → Prop := va_Qv post (fun x t => wB dC dI A (w1 x) (t1 x) t) A
abbrev QQ (dC : Nat → ClassId) (dI : Nat → Nat → Nat) {X : Type} (post : Option Nat → X → Prop) (w1 : X → va_W) (t1 : X → va_TL) (A : Nat → Prop) : Array Value → State → Outcome → State → Prop := va_Qq post (fun x t => wB dC dI A (w1 x) (t1 x) t) A
/-- a contract: from the cells ws to the end that Qc says -/
abbrev CC (l : Launch) (y : MethodName) (b : ByteArray) (n : Nat) (r : Option FieldType) (rm : Room) (dC : Nat → ClassId) (dI : Nat → Nat → Nat) (sz : Nat) (av : List Value) (ws : va_W) (tys : va_TL) (Qc : (Nat → Prop) → Array Value → State → Outcome → State → Prop) (mc ms : Nat) : Prop :=
  Met l y (wz y b n r) rm (va_Pc av (wA dC dI sz ws tys)) (Qc (va_A ws sz)) mc ms (va_A ws sz)
theorem CC_of {l : Launch} {y : MethodName} {b : ByteArray} {n : Nat} {r : Option FieldType} {rm : Room} {dC : Nat → ClassId} {dI : Nat → Nat → Nat} {sz : Nat} {av : List Value} {ws : va_W} {tys : va_TL} {Qc : (Nat → Prop) → Array Value → State → Outcome → State → Prop} {mc ms : Nat}
    (hy : plainName y.cls = true) (hlen : (lg_sl av).length ≤ n)
    (body : ∀ (p : Program) (e : Env) (s : State) (m : MethodId) (below : List Frame) (meth : Method) (c : Code) (A : Nat → Prop) (ls : Array Slot), p.tables.exec = Jvm.exec → c.code = b → c.maxLocals = n → meth.sig.returnType = r → meth.locks = false → meth.name = y.name → s.vm.findClass y.cls = some m.cls → (∀ w ∈ gt, w.before av.toArray s = true) → (wX s ∧ wT dI A s) → va_K (dC, dI) vwCl tys s → va_P (dC, dI) vwCl ws s.heap → va_D A ws → (∀ q, s.heap.size ≤ q → A q) → lv_has ls n (lv_args 0 av) →
      W p l e rm s m av.toArray below meth c s.heap [] 0 0 (MQ below (Qc A) av.toArray s mc ms A) (F0 m 0 ls [])) :
    CC l y b n r rm dC dI sz av ws tys Qc mc ms := by
  refine Met.ofW (cc := b) (maxL := n) (ret := r) hy rfl ?_
  intro p e s m args below meth c s₁ B hml hv
  obtain ⟨rfl, hsz, hP, hK, hD0, hX⟩ := hv
  have hts := atoms_spec (ws := wz y b n r) B.pre
  have hown : s.vm.findClass y.cls = some m.cls := findClass_of_methodNamed B.named
  have hin : meth.name = y.name := (name_of_methodNamed B.named B.method).1
  subst hsz
  have hD := hD0.self (sz := s.heap.size)
  have hl := lv_entry av (n := n) hlen
  rw [lg_entry_eq]
  exact body p e s m below meth c _ _ B.exec B.bytes hml B.returns B.notSynchronized hin hown (fun w h => hts w (List.mem_cons_of_mem _ h)) hX hK hP hD (fun q h => Or.inr h) hl
section BaseW
variable {p : Program} {l : Launch} {e : Env} {R : Room} {s : State} {m : MethodId} {args : Array Value} {below : List Frame} {meth : Method} {c : Code} {H H0 : Heap} {locs : List Loc} {cells slots : Nat} {Q : State → Prop} {pc : Nat} {ls : Array Slot} {rest : List Value} {cc : ByteArray} {dC : Nat → ClassId} {dI : Nat → Nat → Nat} {A : Nat → Prop}
/-- the number on top, written otherwise -/
theorem lv_fi {x v : Int32} (h : x = v) (k : W p l e R s m args below meth c H locs cells slots Q (F0 m pc ls (.int v :: rest))) : W p l e R s m args below meth c H locs cells slots Q (F0 m pc ls (.int x :: rest)) := by rw [h]; exact k
theorem lv_fl {x v : Int64} (h : x = v) (k : W p l e R s m args below meth c H locs cells slots Q (F0 m pc ls (.long v :: rest))) : W p l e R s m args below meth c H locs cells slots Q (F0 m pc ls (.long x :: rest)) := by rw [h]; exact k
theorem lv_fv {x v : Value} (h : x = v) (k : W p l e R s m args below meth c H locs cells slots Q (F0 m pc ls (v :: rest))) : W p l e R s m args below meth c H locs cells slots Q (F0 m pc ls (x :: rest)) := by rw [h]; exact k
theorem CI_ret {X : Type} {post : Int32 → X → Prop} {w1 : X → va_W} {t1 : X → va_TL} {ty : FieldType} {v : Int32} (x : X) (hx : p.tables.exec = Jvm.exec) (hb : c.code = cc) (hr : meth.sig.returnType = some ty) (hn : narrow ty (.int v) = .int v) (hlk : meth.locks = false) (hK : va_K (dC, dI) vwCl (t1 x) s) (hP : va_P (dC, dI) vwCl (w1 x) H) (hD : va_D A (w1 x)) (hS : va_S A s.heap H locs) (hp : post v x) (hdg : decode cc pc = .ok (.ireturn, 1)) :
    W p l e R s m args below meth c H locs cells slots (MQ below (QI dC dI post w1 t1 A) args s cells slots A) (F0 m pc ls [.int v]) :=
  W.zret hx hb hr hn (fun t ht hW => ⟨⟨v, x, rfl, hp, by rw [ht]; exact hP, va_K.moved hW.alike hK, hD⟩, hS.F ht⟩) hS.2.2 hdg hlk
theorem CL_ret {X : Type} {post : Int64 → X → Prop} {w1 : X → va_W} {t1 : X → va_TL} {v : Int64} (x : X) (hx : p.tables.exec = Jvm.exec) (hb : c.code = cc) (hr : meth.sig.returnType = some .long) (hlk : meth.locks = false) (hK : va_K (dC, dI) vwCl (t1 x) s) (hP : va_P (dC, dI) vwCl (w1 x) H) (hD : va_D A (w1 x)) (hS : va_S A s.heap H locs) (hp : post v x) (hdg : decode cc pc = .ok (.lreturn, 1)) :
    W p l e R s m args below meth c H locs cells slots (MQ below (QL dC dI post w1 t1 A) args s cells slots A) (F0 m pc ls [.long v]) :=
  W.lret hx hb hr (fun t ht hW => ⟨⟨v, x, rfl, hp, by rw [ht]; exact hP, va_K.moved hW.alike hK, hD⟩, hS.F ht⟩) hS.2.2 hdg hlk
theorem CV_ret {X : Type} {post : X → Prop} {w1 : X → va_W} {t1 : X → va_TL} (x : X) (hx : p.tables.exec = Jvm.exec) (hb : c.code = cc) (hr : meth.sig.returnType = none) (hlk : meth.locks = false) (hK : va_K (dC, dI) vwCl (t1 x) s) (hP : va_P (dC, dI) vwCl (w1 x) H) (hD : va_D A (w1 x)) (hS : va_S A s.heap H locs) (hp : post x) (hdg : decode cc pc = .ok (.return_, 1)) :
    W p l e R s m args below meth c H locs cells slots (MQ below (QV dC dI post w1 t1 A) args s cells slots A) (F0 m pc ls []) :=
  W.vret hx hb hr (fun t ht hW => ⟨⟨x, rfl, hp, by rw [ht]; exact hP, va_K.moved hW.alike hK, hD⟩, hS.F ht⟩) hS.2.2 hdg hlk
theorem CQ_ret {X : Type} {post : Option Nat → X → Prop} {w1 : X → va_W} {t1 : X → va_TL} {C : String} {v : Value} (r : Option Nat) (x : X) (hv : va_rf r = v) (hx : p.tables.exec = Jvm.exec) (hb : c.code = cc) (hr : meth.sig.returnType = some (.object C)) (hlk : meth.locks = false) (hK : va_K (dC, dI) vwCl (t1 x) s) (hP : va_P (dC, dI) vwCl (w1 x) H) (hD : va_D A (w1 x)) (hS : va_S A s.heap H locs) (hp : post r x) (hdg : decode cc pc = .ok (.areturn, 1)) :
    W p l e R s m args below meth c H locs cells slots (MQ below (QQ dC dI post w1 t1 A) args s cells slots A) (F0 m pc ls [v]) := by
  subst hv
  exact W.aret hx hb hr (Or.inl ⟨C, rfl⟩) (by cases r with | none => exact Or.inl rfl | some a => exact Or.inr ⟨a, rfl⟩) (fun t ht hW => ⟨⟨r, x, rfl, hp, by rw [ht]; exact hP, va_K.moved hW.alike hK, hD⟩, hS.F ht⟩) hS.2.2 hdg hlk
variable {own C : String} {index nL maxL n mc ms : Nat} {y : MethodName} {b : ByteArray} {ret : Option FieldType} {rm : Room} {Qc : (Nat → Prop) → Array Value → State → Outcome → State → Prop} {a ci : Nat} {As : List Value} {st : List Value} {wc : va_W} {tc : va_TL} {fs : List Value} {q : vw_C}
theorem rv_V (S : CallFix p m c cc nL s args gt own) (hM : CC l y b maxL ret rm dC dI H.size (.ref a :: As) wc tc Qc mc ms) (mcode : Cond.code y b maxL ret ∈ gt) (ml : Cond.methodLink own index y ∈ gt) (mi : Cond.instanceMethod y ∈ gt) (msel : Cond.selects y.cls y y ∈ gt) (mini : Cond.initialized y.cls ∈ gt) (hd : y.cls ≠ "java/lang/invoke/MethodHandle" ∧ y.cls ≠ "java/lang/invoke/VarHandle" ∧ (parseMethodDescriptor y.desc).map (fun d => d.parameters.length) = some As.length) (hR : (rm.frames + 1).ble R.frames = true ∧ (8 + (maxL + 11) + rm.locals).ble R.locals = true) (hrc : rm.cells = mc) (hrs : rm.slots = ms) (hf : (cells + mc).ble R.cells = true ∧ (slots + ms).ble R.slots = true)
    (hX : wX s ∧ wT dI A s) (hS9 : va_S A s.heap H locs) (hKc : va_K (dC, dI) vwCl tc s) (hPc : va_P (dC, dI) vwCl wc H) (hDc : va_D A wc) (hrecv : wc[0]? = some (a, .inr (ci, fs))) (hcl : vwCl[ci]? = some q) (hq : q.1 = y.cls) (hsz : ls.size = nL) (hst : st = As.reverse ++ .ref a :: rest) (hW : ((rest.map fun (v : Value) => v.category).sum).ble 8 = true) (hdg : decode cc pc = .ok (.invokevirtual index, 3)) :
    va_Run p l e R s m args below meth c H locs cells slots mc ms (F0 m pc ls st) rest (Qc (va_A wc H.size) (Value.ref a :: As).toArray) (va_A wc H.size) := by
  have hts := S.2.2.2.2
  refine va_runV S hM ⟨callB_of As.length hts (wz_good mcode) rfl hrc hrs (hts _ mini) (hts _ ml) hd ⟨Nat.le_of_ble_eq_true hR.1, Nat.le_of_ble_eq_true hR.2⟩, hts _ mi, hts _ msel⟩ ⟨wA_blind, ?_, fun U hU hW => ⟨rfl, by rw [hU], by rw [hU]; exact hPc, va_K.moved hW.alike hKc, hDc.weaken (fun _ _ _ _ => trivial), wY_call hX hS9 hDc hU hW⟩⟩ rfl rfl hsz hst (lv_room (Nat.le_of_ble_eq_true hW)) hdg ⟨Nat.le_of_ble_eq_true hf.1, Nat.le_of_ble_eq_true hf.2⟩
  have h := va_recv hKc hPc hcl hrecv
  rw [hq] at h
  exact h
theorem rv_S (S : CallFix p m c cc nL s args gt own) (hM : CC l y b maxL ret rm dC dI H.size As wc tc Qc mc ms) (mcode : Cond.code y b maxL ret ∈ gt) (ml : Cond.methodLink own index y ∈ gt) (mi : Cond.static y ∈ gt) (mini : Cond.initialized y.cls ∈ gt) (hd : y.cls ≠ "java/lang/invoke/MethodHandle" ∧ y.cls ≠ "java/lang/invoke/VarHandle" ∧ (parseMethodDescriptor y.desc).map (fun d => d.parameters.length) = some As.length) (hR : (rm.frames + 1).ble R.frames = true ∧ (8 + (maxL + 11) + rm.locals).ble R.locals = true) (hrc : rm.cells = mc) (hrs : rm.slots = ms) (hf : (cells + mc).ble R.cells = true ∧ (slots + ms).ble R.slots = true)
    (hX : wX s ∧ wT dI A s) (hS9 : va_S A s.heap H locs) (hKc : va_K (dC, dI) vwCl tc s) (hPc : va_P (dC, dI) vwCl wc H) (hDc : va_D A wc) (hsz : ls.size = nL) (hst : st = As.reverse ++ rest) (hW : ((rest.map fun (v : Value) => v.category).sum).ble 8 = true) (hdg : decode cc pc = .ok (.invokestatic index, 3)) :
    va_Run p l e R s m args below meth c H locs cells slots mc ms (F0 m pc ls st) rest (Qc (va_A wc H.size) As.toArray) (va_A wc H.size) := by
  have hts := S.2.2.2.2
  exact va_runS S hM ⟨callB_of As.length hts (wz_good mcode) rfl hrc hrs (hts _ mini) (hts _ ml) hd ⟨Nat.le_of_ble_eq_true hR.1, Nat.le_of_ble_eq_true hR.2⟩, hts _ mi⟩ ⟨wA_blind, fun U hU hW => ⟨rfl, by rw [hU], by rw [hU]; exact hPc, va_K.moved hW.alike hKc, hDc.weaken (fun _ _ _ _ => trivial), wY_call hX hS9 hDc hU hW⟩⟩ rfl rfl hsz hst (lv_room (Nat.le_of_ble_eq_true hW)) hdg ⟨Nat.le_of_ble_eq_true hf.1, Nat.le_of_ble_eq_true hf.2⟩
theorem rv_SN {host : String} (S : CallFix p m c cc nL s args gt own) (hM : CC l y b maxL ret rm dC dI H.size As wc tc Qc mc ms) (mcode : Cond.code y b maxL ret ∈ gt) (ml : va_Nw (.methodLinkNest own index y host) s) (mi : Cond.static y ∈ gt) (mini : Cond.initialized y.cls ∈ gt) (hd : y.cls ≠ "java/lang/invoke/MethodHandle" ∧ y.cls ≠ "java/lang/invoke/VarHandle" ∧ (parseMethodDescriptor y.desc).map (fun d => d.parameters.length) = some As.length) (hR : (rm.frames + 1).ble R.frames = true ∧ (8 + (maxL + 11) + rm.locals).ble R.locals = true) (hrc : rm.cells = mc) (hrs : rm.slots = ms) (hf : (cells + mc).ble R.cells = true ∧ (slots + ms).ble R.slots = true)
    (hX : wX s ∧ wT dI A s) (hS9 : va_S A s.heap H locs) (hKc : va_K (dC, dI) vwCl tc s) (hPc : va_P (dC, dI) vwCl wc H) (hDc : va_D A wc) (hsz : ls.size = nL) (hst : st = As.reverse ++ rest) (hW : ((rest.map fun (v : Value) => v.category).sum).ble 8 = true) (hdg : decode cc pc = .ok (.invokestatic index, 3)) :
    va_Run p l e R s m args below meth c H locs cells slots mc ms (F0 m pc ls st) rest (Qc (va_A wc H.size) As.toArray) (va_A wc H.size) := by
  have hts := S.2.2.2.2
  exact va_runSN (host := host) S hM ⟨va_cnB As.length hts (wz_good mcode) rfl hrc hrs ml (hts _ mini) hd ⟨Nat.le_of_ble_eq_true hR.1, Nat.le_of_ble_eq_true hR.2⟩, hts _ mi, trivial⟩ ⟨wA_blind, fun U hU hW => ⟨rfl, by rw [hU], by rw [hU]; exact hPc, va_K.moved hW.alike hKc, hDc.weaken (fun _ _ _ _ => trivial), wY_call hX hS9 hDc hU hW⟩⟩ rfl rfl hsz hst (lv_room (Nat.le_of_ble_eq_true hW)) hdg ⟨Nat.le_of_ble_eq_true hf.1, Nat.le_of_ble_eq_true hf.2⟩
theorem rv_I (S : CallFix p m c cc nL s args gt own) (hM : CC l y b maxL none rm dC dI H.size (.ref a :: As) wc tc Qc mc ms) (mcode : Cond.code y b maxL none ∈ gt) (ml : Cond.methodLink own index y ∈ gt) (mi : Cond.instanceMethod y ∈ gt) (mini : Cond.initialized y.cls ∈ gt) (hy : y.name = "<init>") (hd : y.cls ≠ "java/lang/invoke/MethodHandle" ∧ y.cls ≠ "java/lang/invoke/VarHandle" ∧ (parseMethodDescriptor y.desc).map (fun d => d.parameters.length) = some As.length) (hR : (rm.frames + 1).ble R.frames = true ∧ (8 + (maxL + 11) + rm.locals).ble R.locals = true) (hrc : rm.cells = mc) (hrs : rm.slots = ms) (hf : (cells + mc).ble R.cells = true ∧ (slots + ms).ble R.slots = true)
    (hX : wX s ∧ wT dI A s) (hS9 : va_S A s.heap H locs) (hKc : va_K (dC, dI) vwCl tc s) (hPc : va_P (dC, dI) vwCl wc H) (hDc : va_D A wc) (hsz : ls.size = nL) (hst : st = As.reverse ++ .ref a :: rest) (hW : ((rest.map fun (v : Value) => v.category).sum).ble 8 = true) (hdg : decode cc pc = .ok (.invokespecial index, 3)) :
    va_Run p l e R s m args below meth c H locs cells slots mc ms (F0 m pc ls st) rest (Qc (va_A wc H.size) (Value.ref a :: As).toArray) (va_A wc H.size) := by
  have hts := S.2.2.2.2
  exact va_runI S hM ⟨callB_of As.length hts (wz_good mcode) rfl hrc hrs (hts _ mini) (hts _ ml) hd ⟨Nat.le_of_ble_eq_true hR.1, Nat.le_of_ble_eq_true hR.2⟩, hy, hts _ mi⟩ ⟨wA_blind, fun U hU hW => ⟨rfl, by rw [hU], by rw [hU]; exact hPc, va_K.moved hW.alike hKc, hDc.weaken (fun _ _ _ _ => trivial), wY_call hX hS9 hDc hU hW⟩⟩ rfl rfl hsz hst (lv_room (Nat.le_of_ble_eq_true hW)) hdg ⟨Nat.le_of_ble_eq_true hf.1, Nat.le_of_ble_eq_true hf.2⟩
theorem rv_IN {host : String} (S : CallFix p m c cc nL s args gt own) (hM : CC l y b maxL none rm dC dI H.size (.ref a :: As) wc tc Qc mc ms) (mcode : Cond.code y b maxL none ∈ gt) (ml : va_Nw (.methodLinkNest own index y host) s) (mi : Cond.instanceMethod y ∈ gt) (mini : Cond.initialized y.cls ∈ gt) (hy : y.name = "<init>") (hd : y.cls ≠ "java/lang/invoke/MethodHandle" ∧ y.cls ≠ "java/lang/invoke/VarHandle" ∧ (parseMethodDescriptor y.desc).map (fun d => d.parameters.length) = some As.length) (hR : (rm.frames + 1).ble R.frames = true ∧ (8 + (maxL + 11) + rm.locals).ble R.locals = true) (hrc : rm.cells = mc) (hrs : rm.slots = ms) (hf : (cells + mc).ble R.cells = true ∧ (slots + ms).ble R.slots = true)
    (hX : wX s ∧ wT dI A s) (hS9 : va_S A s.heap H locs) (hKc : va_K (dC, dI) vwCl tc s) (hPc : va_P (dC, dI) vwCl wc H) (hDc : va_D A wc) (hsz : ls.size = nL) (hst : st = As.reverse ++ .ref a :: rest) (hW : ((rest.map fun (v : Value) => v.category).sum).ble 8 = true) (hdg : decode cc pc = .ok (.invokespecial index, 3)) :
    va_Run p l e R s m args below meth c H locs cells slots mc ms (F0 m pc ls st) rest (Qc (va_A wc H.size) (Value.ref a :: As).toArray) (va_A wc H.size) := by
  have hts := S.2.2.2.2
  exact va_runIN (host := host) S hM ⟨va_cnB As.length hts (wz_good mcode) rfl hrc hrs ml (hts _ mini) hd ⟨Nat.le_of_ble_eq_true hR.1, Nat.le_of_ble_eq_true hR.2⟩, hy, hts _ mi⟩ ⟨wA_blind, fun U hU hW => ⟨rfl, by rw [hU], by rw [hU]; exact hPc, va_K.moved hW.alike hKc, hDc.weaken (fun _ _ _ _ => trivial), wY_call hX hS9 hDc hU hW⟩⟩ rfl rfl hsz hst (lv_room (Nat.le_of_ble_eq_true hW)) hdg ⟨Nat.le_of_ble_eq_true hf.1, Nat.le_of_ble_eq_true hf.2⟩
variable {ws wr : va_W} {tys tr : va_TL} {av : Array Value} {X : Type} {w1 : X → va_W} {t1 : X → va_TL}
theorem cj_i {post : Int32 → X → Prop} (hr : va_Run p l e R s m args below meth c H locs cells slots mc ms (F0 m pc ls st) rest (QI dC dI post w1 t1 (va_A wc H.size) av) (va_A wc H.size)) (hK : va_K (dC, dI) vwCl tys s) (hP : va_P (dC, dI) vwCl ws H) (hD : va_D A ws) (hS : va_S A H0 H locs) (hA : ∀ q, H0.size ≤ q → A q) (isC isR kR : List Nat) (hC : isC.map (fun i => ws[i]?) = wc.map some) (hR : isR.map (fun i => ws[i]?) = wr.map some) (hn : va_nd isR = true) (hdis : ∀ i ∈ isR, i ∉ isC) (hkR : kR.filterMap (fun i => tys[i]?) = tr)
    (kk : ∀ (r : Int32) (x : X) (H1 : Heap) (locs1 : List Loc), post r x → va_K (dC, dI) vwCl (tr ++ t1 x) s → va_P (dC, dI) vwCl (wr ++ w1 x) H1 → va_D A (wr ++ w1 x) → va_S A H0 H1 locs1 → W p l e R s m args below meth c H1 locs1 (cells + mc) (slots + ms) Q (F0 m (pc + 3) ls (.int r :: rest))) : W p l e R s m args below meth c H locs cells slots Q (F0 m pc ls st) := by
  have hFc := va_free (wc := wc) hD hS hA isC hC
  refine va_calli hr hS (fun q _ h => hFc q h) hFc (fun r u t H1 locs1 ht hvm hw hB hz1 hk1 hS1 => ?_)
  obtain ⟨hP1, hK1, hD1⟩ := hB
  rw [ht] at hP1
  have hK1 := va_K.moved hvm.symm hK1
  obtain ⟨hP2, hD2⟩ := va_join (wr := wr) (w1 := w1 u) hP hD isC isR hC hR hn hdis hk1 hFc hP1 hD1
  exact kk r u H1 locs1 hw ((hK.sub kR hkR).app hK1) hP2 hD2 hS1
theorem cj_l {post : Int64 → X → Prop} (hr : va_Run p l e R s m args below meth c H locs cells slots mc ms (F0 m pc ls st) rest (QL dC dI post w1 t1 (va_A wc H.size) av) (va_A wc H.size)) (hK : va_K (dC, dI) vwCl tys s) (hP : va_P (dC, dI) vwCl ws H) (hD : va_D A ws) (hS : va_S A H0 H locs) (hA : ∀ q, H0.size ≤ q → A q) (isC isR kR : List Nat) (hC : isC.map (fun i => ws[i]?) = wc.map some) (hR : isR.map (fun i => ws[i]?) = wr.map some) (hn : va_nd isR = true) (hdis : ∀ i ∈ isR, i ∉ isC) (hkR : kR.filterMap (fun i => tys[i]?) = tr)
    (kk : ∀ (r : Int64) (x : X) (H1 : Heap) (locs1 : List Loc), post r x → va_K (dC, dI) vwCl (tr ++ t1 x) s → va_P (dC, dI) vwCl (wr ++ w1 x) H1 → va_D A (wr ++ w1 x) → va_S A H0 H1 locs1 → W p l e R s m args below meth c H1 locs1 (cells + mc) (slots + ms) Q (F0 m (pc + 3) ls (.long r :: rest))) : W p l e R s m args below meth c H locs cells slots Q (F0 m pc ls st) := by
  have hFc := va_free (wc := wc) hD hS hA isC hC
  refine va_calll hr hS (fun q _ h => hFc q h) hFc (fun r u t H1 locs1 ht hvm hw hB hz1 hk1 hS1 => ?_)
  obtain ⟨hP1, hK1, hD1⟩ := hB
  rw [ht] at hP1
  have hK1 := va_K.moved hvm.symm hK1
  obtain ⟨hP2, hD2⟩ := va_join (wr := wr) (w1 := w1 u) hP hD isC isR hC hR hn hdis hk1 hFc hP1 hD1
  exact kk r u H1 locs1 hw ((hK.sub kR hkR).app hK1) hP2 hD2 hS1
theorem cj_q {post : Option Nat → X → Prop} (hr : va_Run p l e R s m args below meth c H locs cells slots mc ms (F0 m pc ls st) rest (QQ dC dI post w1 t1 (va_A wc H.size) av) (va_A wc H.size)) (hK : va_K (dC, dI) vwCl tys s) (hP : va_P (dC, dI) vwCl ws H) (hD : va_D A ws) (hS : va_S A H0 H locs) (hA : ∀ q, H0.size ≤ q → A q) (isC isR kR : List Nat) (hC : isC.map (fun i => ws[i]?) = wc.map some) (hR : isR.map (fun i => ws[i]?) = wr.map some) (hn : va_nd isR = true) (hdis : ∀ i ∈ isR, i ∉ isC) (hkR : kR.filterMap (fun i => tys[i]?) = tr)
    (kk : ∀ (r : Option Nat) (x : X) (H1 : Heap) (locs1 : List Loc), post r x → va_K (dC, dI) vwCl (tr ++ t1 x) s → va_P (dC, dI) vwCl (wr ++ w1 x) H1 → va_D A (wr ++ w1 x) → va_S A H0 H1 locs1 → W p l e R s m args below meth c H1 locs1 (cells + mc) (slots + ms) Q (F0 m (pc + 3) ls (va_rf r :: rest))) : W p l e R s m args below meth c H locs cells slots Q (F0 m pc ls st) := by
  have hFc := va_free (wc := wc) hD hS hA isC hC
  refine va_callq hr hS (fun q _ h => hFc q h) hFc (fun r u t H1 locs1 ht hvm hw hB hz1 hk1 hS1 => ?_)
  obtain ⟨hP1, hK1, hD1⟩ := hB
  rw [ht] at hP1
  have hK1 := va_K.moved hvm.symm hK1
  obtain ⟨hP2, hD2⟩ := va_join (wr := wr) (w1 := w1 u) hP hD isC isR hC hR hn hdis hk1 hFc hP1 hD1
  exact kk r u H1 locs1 hw ((hK.sub kR hkR).app hK1) hP2 hD2 hS1
theorem cj_v {post : X → Prop} (hr : va_Run p l e R s m args below meth c H locs cells slots mc ms (F0 m pc ls st) rest (QV dC dI post w1 t1 (va_A wc H.size) av) (va_A wc H.size)) (hK : va_K (dC, dI) vwCl tys s) (hP : va_P (dC, dI) vwCl ws H) (hD : va_D A ws) (hS : va_S A H0 H locs) (hA : ∀ q, H0.size ≤ q → A q) (isC isR kR : List Nat) (hC : isC.map (fun i => ws[i]?) = wc.map some) (hR : isR.map (fun i => ws[i]?) = wr.map some) (hn : va_nd isR = true) (hdis : ∀ i ∈ isR, i ∉ isC) (hkR : kR.filterMap (fun i => tys[i]?) = tr)
    (kk : ∀ (x : X) (H1 : Heap) (locs1 : List Loc), post x → va_K (dC, dI) vwCl (tr ++ t1 x) s → va_P (dC, dI) vwCl (wr ++ w1 x) H1 → va_D A (wr ++ w1 x) → va_S A H0 H1 locs1 → W p l e R s m args below meth c H1 locs1 (cells + mc) (slots + ms) Q (F0 m (pc + 3) ls rest)) : W p l e R s m args below meth c H locs cells slots Q (F0 m pc ls st) := by
  have hFc := va_free (wc := wc) hD hS hA isC hC
  refine va_callv hr hS (fun q _ h => hFc q h) hFc (fun u t H1 locs1 ht hvm hw hB hz1 hk1 hS1 => ?_)
  obtain ⟨hP1, hK1, hD1⟩ := hB
  rw [ht] at hP1
  have hK1 := va_K.moved hvm.symm hK1
  obtain ⟨hP2, hD2⟩ := va_join (wr := wr) (w1 := w1 u) hP hD isC isR hC hR hn hdis hk1 hFc hP1 hD1
  exact kk u H1 locs1 hw ((hK.sub kR hkR).app hK1) hP2 hD2 hS1
end BaseW
-- ranges and comparisons, told in whole numbers
def sp_rg (lo hi x : Int) : Int32 := if lo ≤ x ∧ x ≤ hi then 1 else 0
theorem sp_ne {lo hi x : Int} (h : ¬ sp_rg lo hi x = 0) : lo ≤ x ∧ x ≤ hi := by
  unfold sp_rg at h
  split at h
  · assumption
  · exact absurd rfl h
theorem sp_eq {lo hi x : Int} (h : sp_rg lo hi x = 0) : ¬ (lo ≤ x ∧ x ≤ hi) := by
  unfold sp_rg at h
  split at h
  · exact absurd h (by decide)
  · assumption
theorem sp_yes {lo hi x : Int} (h : lo ≤ x ∧ x ≤ hi) : sp_rg lo hi x = 1 := if_pos h
theorem sp_not {lo hi x : Int} (h : ¬ (lo ≤ x ∧ x ≤ hi)) : sp_rg lo hi x = 0 := if_neg h
theorem sp_no {lo hi x : Int} (h : hi < lo) : sp_rg lo hi x = 0 := if_neg (by omega)
section Cv
variable {x y : Int32} {a b : Int}
theorem cv_lt (hx : x.toInt = a) (hy : y.toInt = b) (h : x < y) : a < b := by rw [← hx, ← hy]; exact Int32.lt_iff_toInt_lt.mp h
theorem cv_nlt (hx : x.toInt = a) (hy : y.toInt = b) (h : ¬ x < y) : b ≤ a := by rw [← hx, ← hy]; exact Int.not_lt.mp (fun z => h (Int32.lt_iff_toInt_lt.mpr z))
theorem cv_le (hx : x.toInt = a) (hy : y.toInt = b) (h : x ≤ y) : a ≤ b := by rw [← hx, ← hy]; exact Int32.le_iff_toInt_le.mp h
theorem cv_nle (hx : x.toInt = a) (hy : y.toInt = b) (h : ¬ x ≤ y) : b < a := by rw [← hx, ← hy]; exact Int.not_le.mp (fun z => h (Int32.le_iff_toInt_le.mpr z))
theorem cv_gt (hx : x.toInt = a) (hy : y.toInt = b) (h : y < x) : b < a := cv_lt hy hx h
theorem cv_ngt (hx : x.toInt = a) (hy : y.toInt = b) (h : ¬ y < x) : a ≤ b := cv_nlt hy hx h
theorem cv_ge (hx : x.toInt = a) (hy : y.toInt = b) (h : y ≤ x) : b ≤ a := cv_le hy hx h
theorem cv_nge (hx : x.toInt = a) (hy : y.toInt = b) (h : ¬ y ≤ x) : a < b := cv_nle hy hx h
theorem cv_eq (hx : x.toInt = a) (hy : y.toInt = b) (h : x = y) : a = b := by rw [← hx, ← hy, h]
theorem cv_ne (hx : x.toInt = a) (hy : y.toInt = b) (h : ¬ x = y) : a ≠ b := by rw [← hx, ← hy]; exact fun z => h (Int32.toInt_inj.mp z)
end Cv
section Cvl
variable {x y : Int64} {a b : Int}
theorem cvl_lt (hx : x.toInt = a) (hy : y.toInt = b) (h : lg_cmp x y < 0) : a < b := by rw [← hx, ← hy]; exact Int64.lt_iff_toInt_lt.mp ((lg_cmp_lt x y).mp h)
theorem cvl_nlt (hx : x.toInt = a) (hy : y.toInt = b) (h : ¬ lg_cmp x y < 0) : b ≤ a := by rw [← hx, ← hy]; exact Int.not_lt.mp (fun z => h ((lg_cmp_lt x y).mpr (Int64.lt_iff_toInt_lt.mpr z)))
theorem cvl_le (hx : x.toInt = a) (hy : y.toInt = b) (h : lg_cmp x y ≤ 0) : a ≤ b := by rw [← hx, ← hy]; exact Int64.le_iff_toInt_le.mp ((lg_cmp_le x y).mp h)
theorem cvl_nle (hx : x.toInt = a) (hy : y.toInt = b) (h : ¬ lg_cmp x y ≤ 0) : b < a := by rw [← hx, ← hy]; exact Int.not_le.mp (fun z => h ((lg_cmp_le x y).mpr (Int64.le_iff_toInt_le.mpr z)))
theorem cvl_gt (hx : x.toInt = a) (hy : y.toInt = b) (h : 0 < lg_cmp x y) : b < a := by rw [← hx, ← hy]; exact Int64.lt_iff_toInt_lt.mp ((lg_cmp_gt x y).mp h)
theorem cvl_ngt (hx : x.toInt = a) (hy : y.toInt = b) (h : ¬ 0 < lg_cmp x y) : a ≤ b := by rw [← hx, ← hy]; exact Int.not_lt.mp (fun z => h ((lg_cmp_gt x y).mpr (Int64.lt_iff_toInt_lt.mpr z)))
theorem cvl_ge (hx : x.toInt = a) (hy : y.toInt = b) (h : 0 ≤ lg_cmp x y) : b ≤ a := by rw [← hx, ← hy]; exact Int64.le_iff_toInt_le.mp ((lg_cmp_ge x y).mp h)
theorem cvl_nge (hx : x.toInt = a) (hy : y.toInt = b) (h : ¬ 0 ≤ lg_cmp x y) : a < b := by rw [← hx, ← hy]; exact Int.not_le.mp (fun z => h ((lg_cmp_ge x y).mpr (Int64.le_iff_toInt_le.mpr z)))
theorem cvl_eq (hx : x.toInt = a) (hy : y.toInt = b) (h : lg_cmp x y = 0) : a = b := by rw [← hx, ← hy, (lg_cmp_eq x y).mp h]
theorem cvl_ne (hx : x.toInt = a) (hy : y.toInt = b) (h : ¬ lg_cmp x y = 0) : a ≠ b := by rw [← hx, ← hy]; exact fun z => h ((lg_cmp_eq x y).mpr (Int64.toInt_inj.mp z))
end Cvl
theorem iX0 : ∀ w ∈ u_ws RX0 TX0 9, w ∈ gt := inX0
theorem iX1 : ∀ w ∈ u_ws RX1 TX1 5, w ∈ gt := inX1
theorem iX2 : ∀ w ∈ u_ws RX2 TX2 13, w ∈ gt := inX2
theorem iX3 : ∀ w ∈ u_ws RX3 TX3 2, w ∈ gt := inX3
theorem iX4 : ∀ w ∈ u_ws RX4 TX4 5, w ∈ gt := inX4
theorem iX5 : ∀ w ∈ u_ws RX5 TX5 4, w ∈ gt := inX5
theorem iX6 : ∀ w ∈ u_ws RX6 TX6 10, w ∈ gt := inX6
theorem iX7 : ∀ w ∈ u_ws RX7 TX7 10, w ∈ gt := inX7
theorem iX8 : ∀ w ∈ u_ws RX8 TX8 17, w ∈ gt := inX8
theorem iX9 : ∀ w ∈ u_ws RX9 TX9 63, w ∈ gt := inX9
theorem vin {i : Int32} {n : Nat} (h : ¬ (i < 0 ∨ n ≤ i.toNatClampNeg)) : vp_in i n := h
theorem i32_add {x y : Int32} {a b : Int} (hx : x.toInt = a) (hy : y.toInt = b) (h1 : -2147483648 ≤ a + b) (h2 : a + b ≤ 2147483647) : (x + y).toInt = a + b := by
  rw [Int32.toInt_add, hx, hy]
  exact Int.bmod_eq_of_le (by omega) (by omega)
theorem i32_sub {x y : Int32} {a b : Int} (hx : x.toInt = a) (hy : y.toInt = b) (h1 : -2147483648 ≤ a - b) (h2 : a - b ≤ 2147483647) : (x - y).toInt = a - b := by
  rw [Int32.toInt_sub, hx, hy]
  exact Int.bmod_eq_of_le (by omega) (by omega)
theorem vin_of {i : Int32} {n : Nat} {m : Int} (hm : (n : Int) = m) (h0 : 0 ≤ i.toInt) (h1 : i.toInt < m) : vp_in i n := by
  intro h
  rcases h with h | h
  · have := Int32.lt_iff_toInt_lt.mp h
    have e : (0 : Int32).toInt = 0 := by decide
    omega
  · have e : i.toNatClampNeg = i.toInt.toNat := rfl
    rw [e] at h
    omega
theorem clp_of {i : Int32} {r : Nat} (h : i.toInt = (r : Int)) : i.toNatClampNeg = r := by
  have e : i.toNatClampNeg = i.toInt.toNat := rfl
  rw [e]
  omega
theorem sp_nar (lo hi x : Int) : narrow .boolean (.int (sp_rg lo hi x)) = .int (sp_rg lo hi x) := by unfold sp_rg; split <;> rfl
